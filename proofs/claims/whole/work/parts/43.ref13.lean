def nearR (a b : Int64) : Int64 := if 0 ≤ a then (2 * a + b) / (2 * b) else -((2 * (-a) + b) / (2 * b))
def shA (T : Nat → Int64) (sh ex : Int64) : Int64 := if 0 < ex then T (hiO T).toNatClampNeg else sh
def shE (sh ex : Int64) : Int64 := if 0 < ex then ex else if ex < -sh then -sh else ex
def shG (F : Nat → Nat → Int32) (al1 : Int64) (g : Bool) (o1 : Int32) (p : Nat) : Bool := decide (0 < al1) && (!g || decide (F 5 p = o1))
def shQ (F : Nat → Nat → Int32) (g : Bool) (p : Nat) (gt : Bool) : Int32 := if gt = true then (if g = true then F 4 p else F 6 p) else 0
def shB (F : Nat → Nat → Int32) (ps : Nat → Nat) (al1 : Int64) (g : Bool) (o1 : Int32) : Nat → Int64
  | 0 => 0
  | j + 1 => if F 0 (ps j) = 5 then shB F ps al1 g o1 j + (shQ F g (ps j) (shG F al1 g o1 (ps j))).toInt64 else shB F ps al1 g o1 j
def shV (F : Nat → Nat → Int32) (ps : Nat → Nat) (al1 ee : Int64) (g : Bool) (o1 : Int32) (j : Nat) : Int64 := if shG F al1 g o1 (ps j) = true then nearR (ee * shB F ps al1 g o1 (j + 1)) al1 - nearR (ee * shB F ps al1 g o1 j) al1 else 0
def shM (F : Nat → Nat → Int32) (ps : Nat → Nat) (al1 ee : Int64) (g : Bool) (o1 : Int32) (M : Nat → Int64) : Nat → Nat → Int64
  | 0 => M
  | j + 1 => if F 0 (ps j) = 5 then vp_updL (shM F ps al1 ee g o1 M j) (ps j) (shV F ps al1 ee g o1 j) else shM F ps al1 ee g o1 M j
theorem shB_t {F : Nat → Nat → Int32} {ps : Nat → Nat} {al1 : Int64} {g : Bool} {o1 : Int32} {j : Nat} (h : F 0 (ps j) = 5) : shB F ps al1 g o1 (j + 1) = shB F ps al1 g o1 j + (shQ F g (ps j) (shG F al1 g o1 (ps j))).toInt64 := by rw [shB, if_pos h]
theorem shB_f {F : Nat → Nat → Int32} {ps : Nat → Nat} {al1 : Int64} {g : Bool} {o1 : Int32} {j : Nat} (h : ¬ F 0 (ps j) = 5) : shB F ps al1 g o1 (j + 1) = shB F ps al1 g o1 j := by rw [shB, if_neg h]
theorem shM_t {F : Nat → Nat → Int32} {ps : Nat → Nat} {al1 ee : Int64} {g : Bool} {o1 : Int32} {M : Nat → Int64} {j : Nat} (h : F 0 (ps j) = 5) : shM F ps al1 ee g o1 M (j + 1) = vp_updL (shM F ps al1 ee g o1 M j) (ps j) (shV F ps al1 ee g o1 j) := by rw [shM, if_pos h]
theorem shM_f {F : Nat → Nat → Int32} {ps : Nat → Nat} {al1 ee : Int64} {g : Bool} {o1 : Int32} {M : Nat → Int64} {j : Nat} (h : ¬ F 0 (ps j) = 5) : shM F ps al1 ee g o1 M (j + 1) = shM F ps al1 ee g o1 M j := by rw [shM, if_neg h]
theorem shG_pos {F : Nat → Nat → Int32} {al1 : Int64} {g : Bool} {o1 : Int32} {p : Nat} (h : shG F al1 g o1 p = true) : 0 < al1 := by
  unfold shG at h
  rw [Bool.and_eq_true] at h
  exact of_decide_eq_true h.1
set_option maxHeartbeats 4000000 in
set_option maxRecDepth 100000 in
theorem r_share (l : Launch) (G : zG) (n0 e0 : Nat) (w : zw) (o : Nat) (A : Nat → Nat) (S : Nat → Int32) (L : Nat → Int64) (F : Nat → Nat → Int32) (M : Nat → Int64) (B V Z : Nat → Int32) (T : Nat → Int64) (hr : RA G w o A S L F M B V Z T) (hA : ∀ i j, i < 13 → j < 13 → i ≠ j → A i ≠ A j) (ps : Nat → Nat) (n : Nat) (hps : SP (F 8) ps n) (hpe : ps n ≤ 8000) (hen : S 2 = nI (ps n)) (ex : Int64) (hne : 0 < (shA T (L 4) ex) → ¬ 2 * (shA T (L 4) ex) = 0)  : Ct l G n0 e0 y_R_share b_R_share 16 (Option.none : Option FieldType) ({ frames := 2, cells := 0, slots := 0, locals := 50 }) [.ref o, .int (nI (ps 0)), .long ex] w (fun v w1 => v = none ∧ RA G w1 o A S L F (shM F ps (shA T (L 4) ex) (shE (L 4) ex) (decide (0 < ex)) (hiO T) M n) B V Z T ∧ Fr (allR o A) w w1) := by
  refine z_ct (by decide) (Nat.le_of_ble_eq_true rfl) ?_
  intro p e s m below meth c ls cx hnm hZ hS hl
  have hx := cx.1
  have hb := cx.2.1
  have hl : lv_has ls 16 [(0, .ref o), (1, .int (nI (ps 0))), (2, .long ex)] := hl
  obtain ⟨ho, ⟨h0, h1, h2, h3, h4, h5, h6, h7, h8⟩, h9, h10, h11, h12⟩ := id hr
  have hF : Fr [o, (A 0), (A 1), (A 2), (A 3), (A 4), (A 5), (A 6), (A 7), (A 8), (A 9), (A 10), (A 11), (A 12)] w w := Fr.rf
  have JL_26 : ∀ (H : Heap) (locs : List Loc) (ls : Array Slot), Zw G.1 vwC (zA n0) w H → va_S (zA n0) s.heap H locs → lv_has ls 16 [(4, .int (hiO T)), (0, .ref o), (1, .int (nI (ps 0))), (2, .long ex)] → W p l e ({ frames := 2, cells := 0, slots := 0, locals := 50 }) s m [.ref o, .int (nI (ps 0)), .long ex].toArray below meth c H locs 0 0 (MQ below (zQ G.1 vwC n0 (fun v w1 => v = none ∧ RA G w1 o A S L F (shM F ps (shA T (L 4) ex) (shE (L 4) ex) (decide (0 < ex)) (hiO T) M n) B V Z T ∧ Fr (allR o A) w w1)) [.ref o, .int (nI (ps 0)), .long ex].toArray s ({ frames := 2, cells := 0, slots := 0, locals := 50 } : Room).cells ({ frames := 2, cells := 0, slots := 0, locals := 50 } : Room).slots (zA n0)) (F0 m 26 ls []) := by
    intro H locs ls hZ hS hl
    have J_37 : ∀ (H : Heap) (locs : List Loc) (x37 : Int32), Zw G.1 vwC (zA n0) w H → va_S (zA n0) s.heap H locs → x37 = zi (decide (0 < ex)) → W p l e ({ frames := 2, cells := 0, slots := 0, locals := 50 }) s m [.ref o, .int (nI (ps 0)), .long ex].toArray below meth c H locs 0 0 (MQ below (zQ G.1 vwC n0 (fun v w1 => v = none ∧ RA G w1 o A S L F (shM F ps (shA T (L 4) ex) (shE (L 4) ex) (decide (0 < ex)) (hiO T) M n) B V Z T ∧ Fr (allR o A) w w1)) [.ref o, .int (nI (ps 0)), .long ex].toArray s ({ frames := 2, cells := 0, slots := 0, locals := 50 } : Room).cells ({ frames := 2, cells := 0, slots := 0, locals := 50 } : Room).slots (zA n0)) (F0 m 37 ls [.int x37]) := by
      intro H locs x37 hZ hS hx37
      subst hx37
      refine lv_istore (lv' := [(5, .int (zi (decide (0 < ex)))), (4, .int (hiO T)), (0, .ref o), (1, .int (nI (ps 0))), (2, .long ex)]) hx hb d_R_share_37 hl (by decide) rfl (fun ls hl => ?_)
      have J_58 : ∀ (H : Heap) (locs : List Loc) (x58 : Int64), Zw G.1 vwC (zA n0) w H → va_S (zA n0) s.heap H locs → x58 = (shA T (L 4) ex) → W p l e ({ frames := 2, cells := 0, slots := 0, locals := 50 }) s m [.ref o, .int (nI (ps 0)), .long ex].toArray below meth c H locs 0 0 (MQ below (zQ G.1 vwC n0 (fun v w1 => v = none ∧ RA G w1 o A S L F (shM F ps (shA T (L 4) ex) (shE (L 4) ex) (decide (0 < ex)) (hiO T) M n) B V Z T ∧ Fr (allR o A) w w1)) [.ref o, .int (nI (ps 0)), .long ex].toArray s ({ frames := 2, cells := 0, slots := 0, locals := 50 } : Room).cells ({ frames := 2, cells := 0, slots := 0, locals := 50 } : Room).slots (zA n0)) (F0 m 58 ls [.long x58]) := by
        intro H locs x58 hZ hS hx58
        subst hx58
        refine lv_lstore (lv' := [(6, .long (shA T (L 4) ex)), (5, .int (zi (decide (0 < ex)))), (4, .int (hiO T)), (0, .ref o), (1, .int (nI (ps 0))), (2, .long ex)]) hx hb d_R_share_58 hl (by decide) rfl (fun ls hl => ?_)
        have J_88 : ∀ (H : Heap) (locs : List Loc) (x88 : Int64), Zw G.1 vwC (zA n0) w H → va_S (zA n0) s.heap H locs → x88 = (shE (L 4) ex) → W p l e ({ frames := 2, cells := 0, slots := 0, locals := 50 }) s m [.ref o, .int (nI (ps 0)), .long ex].toArray below meth c H locs 0 0 (MQ below (zQ G.1 vwC n0 (fun v w1 => v = none ∧ RA G w1 o A S L F (shM F ps (shA T (L 4) ex) (shE (L 4) ex) (decide (0 < ex)) (hiO T) M n) B V Z T ∧ Fr (allR o A) w w1)) [.ref o, .int (nI (ps 0)), .long ex].toArray s ({ frames := 2, cells := 0, slots := 0, locals := 50 } : Room).cells ({ frames := 2, cells := 0, slots := 0, locals := 50 } : Room).slots (zA n0)) (F0 m 88 ls [.long x88]) := by
          intro H locs x88 hZ hS hx88
          subst hx88
          refine lv_lstore (lv' := [(8, .long (shE (L 4) ex)), (6, .long (shA T (L 4) ex)), (5, .int (zi (decide (0 < ex)))), (4, .int (hiO T)), (0, .ref o), (1, .int (nI (ps 0))), (2, .long ex)]) hx hb d_R_share_88 hl (by decide) rfl (fun ls hl => ?_)
          refine lv_lconst (v := 0) hx hb d_R_share_90 (by decide) ?_
          refine lv_lstore (lv' := [(10, .long 0), (8, .long (shE (L 4) ex)), (6, .long (shA T (L 4) ex)), (5, .int (zi (decide (0 < ex)))), (4, .int (hiO T)), (0, .ref o), (1, .int (nI (ps 0))), (2, .long ex)]) hx hb d_R_share_91 hl (by decide) rfl (fun ls hl => ?_)
          refine lv_iload_n hx hb d_R_share_93 rfl (lv_at hl 6 rfl) ?_
          refine lv_istore (lv' := [(12, .int (nI (ps 0))), (10, .long 0), (8, .long (shE (L 4) ex)), (6, .long (shA T (L 4) ex)), (5, .int (zi (decide (0 < ex)))), (4, .int (hiO T)), (0, .ref o), (1, .int (nI (ps 0))), (2, .long ex)]) hx hb d_R_share_94 hl (by decide) rfl (fun ls hl => ?_)
          have loop_96 : ∀ (j i : Nat) (w2 : zw) (H : Heap) (locs : List Loc) (ls : Array Slot), i + j = n → Zw G.1 vwC (zA n0) w2 H → va_S (zA n0) s.heap H locs → Fr [o, (A 0), (A 1), (A 2), (A 3), (A 4), (A 5), (A 6), (A 7), (A 8), (A 9), (A 10), (A 11), (A 12)] w w2 → RA G w2 o A S L F (shM F ps (shA T (L 4) ex) (shE (L 4) ex) (decide (0 < ex)) (hiO T) M i) B V Z T → lv_has ls 16 [(12, .int (nI (ps i))), (10, .long (shB F ps (shA T (L 4) ex) (decide (0 < ex)) (hiO T) i)), (8, .long (shE (L 4) ex)), (6, .long (shA T (L 4) ex)), (5, .int (zi (decide (0 < ex)))), (4, .int (hiO T)), (0, .ref o)] → W p l e ({ frames := 2, cells := 0, slots := 0, locals := 50 }) s m [.ref o, .int (nI (ps 0)), .long ex].toArray below meth c H locs 0 0 (MQ below (zQ G.1 vwC n0 (fun v w1 => v = none ∧ RA G w1 o A S L F (shM F ps (shA T (L 4) ex) (shE (L 4) ex) (decide (0 < ex)) (hiO T) M n) B V Z T ∧ Fr (allR o A) w w1)) [.ref o, .int (nI (ps 0)), .long ex].toArray s ({ frames := 2, cells := 0, slots := 0, locals := 50 } : Room).cells ({ frames := 2, cells := 0, slots := 0, locals := 50 } : Room).slots (zA n0)) (F0 m 96 ls []) := by
            intro j
            induction j with
            | zero =>
              intro i w2 H locs ls hik hZ hS hF hr2 hl
              have hin : n = i := by omega
              subst hin
              obtain ⟨ho_1, ⟨h0_1, h1_1, h2_1, h3_1, h4_1, h5_1, h6_1, h7_1, h8_1⟩, h9_1, h10_1, h11_1, h12_1⟩ := id hr2
              have ho_1 : w2 o = some (.inr (6, [.int (S 0), .ref (A 0), .ref (A 1), .ref (A 2), .ref (A 3), .ref (A 4), .ref (A 5), .ref (A 6), .ref (A 7), .ref (A 8), .int (S 1), .ref (A 9), .ref (A 10), .int (S 2), .ref (A 11), .long (L 0), .long (L 1), .long (L 2), .long (L 3), .ref (A 12), .long (L 4)])) := ho_1
              refine lv_iload hx hb d_R_share_96 (lv_at hl 0 rfl) ?_
              refine lv_aload_n hx hb d_R_share_98 rfl (lv_at hl 6 rfl) ?_
              refine gf_R_61 cx hZ ho_1 rfl d_R_share_99 ?_
              rw [show ((S 2) : Int32) = nI (ps n) from hen]
              refine lv_icmp_ge (tgt := 240) hx hb d_R_share_102 (by decide) (fun c102 => ?_) (fun c102 => ?_)
              · exact z_vret cx.1 cx.2.1 cx.rt cx.lk hS hZ ⟨(Nat.le_of_ble_eq_true rfl), (Nat.le_of_ble_eq_true rfl)⟩ d_R_share_240 (⟨rfl, ⟨ho_1, ⟨h0_1, h1_1, h2_1, h3_1, h4_1, h5_1, h6_1, h7_1, h8_1⟩, h9_1, h10_1, h11_1, h12_1⟩, hF⟩)
              · exact absurd (nI_le (by omega) (by omega)) c102
            | succ j ih =>
              intro i w2 H locs ls hik hZ hS hF hr2 hl
              have hpi : ps i < 8000 := by have := hps.lt (show i < n by omega); omega
              obtain ⟨ho_2, ⟨h0_2, h1_2, h2_2, h3_2, h4_2, h5_2, h6_2, h7_2, h8_2⟩, h9_2, h10_2, h11_2, h12_2⟩ := id hr2
              have ho_2 : w2 o = some (.inr (6, [.int (S 0), .ref (A 0), .ref (A 1), .ref (A 2), .ref (A 3), .ref (A 4), .ref (A 5), .ref (A 6), .ref (A 7), .ref (A 8), .int (S 1), .ref (A 9), .ref (A 10), .int (S 2), .ref (A 11), .long (L 0), .long (L 1), .long (L 2), .long (L 3), .ref (A 12), .long (L 4)])) := ho_2
              refine lv_iload hx hb d_R_share_96 (lv_at hl 0 rfl) ?_
              refine lv_aload_n hx hb d_R_share_98 rfl (lv_at hl 6 rfl) ?_
              refine gf_R_61 cx hZ ho_2 rfl d_R_share_99 ?_
              rw [show ((S 2) : Int32) = nI (ps n) from hen]
              refine lv_icmp_ge (tgt := 240) hx hb d_R_share_102 (by decide) (fun c102 => ?_) (fun c102 => ?_)
              · exact absurd c102 (nI_ge (hps.lt (by omega)) (by omega))
              · refine lv_aload_n hx hb d_R_share_105 rfl (lv_at hl 6 rfl) ?_
                refine gf_R_7 cx hZ ho_2 rfl d_R_share_106 ?_
                refine lv_iload hx hb d_R_share_109 (lv_at hl 0 rfl) ?_
                refine ld_i cx hZ h0_2 (vp_in_nI (by omega) (by omega)) d_R_share_111 ?_
                rw [show ((F 0) (nI (ps i)).toNatClampNeg : Int32) = (F 0) (ps i) from by rw [nI_clamp (by first | omega | (unfold stN; omega))]]
                refine lv_iconst (v := 5) hx hb d_R_share_112 (by decide) ?_
                refine lv_icmp_ne (tgt := 225) hx hb d_R_share_113 (by decide) (fun c113 => ?_) (fun c113 => ?_)
                · refine lv_iload hx hb d_R_share_225 (lv_at hl 0 rfl) ?_
                  refine lv_aload_n hx hb d_R_share_227 rfl (lv_at hl 6 rfl) ?_
                  refine gf_R_35 cx hZ ho_2 rfl d_R_share_228 ?_
                  refine lv_iload hx hb d_R_share_231 (lv_at hl 0 rfl) ?_
                  refine ld_i cx hZ h8_2 (vp_in_nI (by omega) (by omega)) d_R_share_233 ?_
                  rw [show ((F 8) (nI (ps i)).toNatClampNeg : Int32) = (F 8) (ps i) from by rw [nI_clamp (by first | omega | (unfold stN; omega))]]
                  refine lv_iadd hx hb d_R_share_234 ?_
                  rw [show (((nI (ps i)) + ((F 8) (ps i))) : Int32) = nI (ps (i + 1)) from hps.step (by omega)]
                  refine lv_istore (lv' := [(12, .int (nI (ps (i + 1)))), (10, .long (shB F ps (shA T (L 4) ex) (decide (0 < ex)) (hiO T) i)), (8, .long (shE (L 4) ex)), (6, .long (shA T (L 4) ex)), (5, .int (zi (decide (0 < ex)))), (4, .int (hiO T)), (0, .ref o)]) hx hb d_R_share_235 hl (by decide) rfl (fun ls hl => ?_)
                  refine lv_goto (tgt := 96) hx hb d_R_share_237 (by decide) ?_
                  exact ih (i + 1) _ _ _ _ (by omega) hZ hS hF (by rw [shM_f c113]; exact ⟨ho_2, ⟨h0_2, h1_2, h2_2, h3_2, h4_2, h5_2, h6_2, h7_2, h8_2⟩, h9_2, h10_2, h11_2, h12_2⟩) (lv_sub hl [0, 1, 2, 3, 4, 5, 6] (by rw [shB_f c113]; rfl))
                · have J_145 : ∀ (H : Heap) (locs : List Loc) (x145 : Int32), Zw G.1 vwC (zA n0) w2 H → va_S (zA n0) s.heap H locs → x145 = zi (shG F (shA T (L 4) ex) (decide (0 < ex)) (hiO T) (ps i)) → W p l e ({ frames := 2, cells := 0, slots := 0, locals := 50 }) s m [.ref o, .int (nI (ps 0)), .long ex].toArray below meth c H locs 0 0 (MQ below (zQ G.1 vwC n0 (fun v w1 => v = none ∧ RA G w1 o A S L F (shM F ps (shA T (L 4) ex) (shE (L 4) ex) (decide (0 < ex)) (hiO T) M n) B V Z T ∧ Fr (allR o A) w w1)) [.ref o, .int (nI (ps 0)), .long ex].toArray s ({ frames := 2, cells := 0, slots := 0, locals := 50 } : Room).cells ({ frames := 2, cells := 0, slots := 0, locals := 50 } : Room).slots (zA n0)) (F0 m 145 ls [.int x145]) := by
                    intro H locs x145 hZ hS hx145
                    subst hx145
                    refine lv_istore (lv' := [(13, .int (zi (shG F (shA T (L 4) ex) (decide (0 < ex)) (hiO T) (ps i)))), (12, .int (nI (ps i))), (10, .long (shB F ps (shA T (L 4) ex) (decide (0 < ex)) (hiO T) i)), (8, .long (shE (L 4) ex)), (6, .long (shA T (L 4) ex)), (5, .int (zi (decide (0 < ex)))), (4, .int (hiO T)), (0, .ref o)]) hx hb d_R_share_145 hl (by decide) rfl (fun ls hl => ?_)
                    refine lv_lload hx hb d_R_share_147 (lv_at hl 2 rfl) ?_
                    have J_180 : ∀ (H : Heap) (locs : List Loc) (x180 : Int32), Zw G.1 vwC (zA n0) w2 H → va_S (zA n0) s.heap H locs → x180 = shQ F (decide (0 < ex)) (ps i) (shG F (shA T (L 4) ex) (decide (0 < ex)) (hiO T) (ps i)) → W p l e ({ frames := 2, cells := 0, slots := 0, locals := 50 }) s m [.ref o, .int (nI (ps 0)), .long ex].toArray below meth c H locs 0 0 (MQ below (zQ G.1 vwC n0 (fun v w1 => v = none ∧ RA G w1 o A S L F (shM F ps (shA T (L 4) ex) (shE (L 4) ex) (decide (0 < ex)) (hiO T) M n) B V Z T ∧ Fr (allR o A) w w1)) [.ref o, .int (nI (ps 0)), .long ex].toArray s ({ frames := 2, cells := 0, slots := 0, locals := 50 } : Room).cells ({ frames := 2, cells := 0, slots := 0, locals := 50 } : Room).slots (zA n0)) (F0 m 180 ls [.int x180, .long (shB F ps (shA T (L 4) ex) (decide (0 < ex)) (hiO T) i)]) := by
                      intro H locs x180 hZ hS hx180
                      subst hx180
                      refine lv_i2l hx hb d_R_share_180 rfl ?_
                      refine lv_ladd hx hb d_R_share_181 ?_
                      rw [show (((shB F ps (shA T (L 4) ex) (decide (0 < ex)) (hiO T) i) + ((shQ F (decide (0 < ex)) (ps i) (shG F (shA T (L 4) ex) (decide (0 < ex)) (hiO T) (ps i))).toInt64)) : Int64) = shB F ps (shA T (L 4) ex) (decide (0 < ex)) (hiO T) (i + 1) from by rw [shB_t c113]]
                      refine lv_lstore (lv' := [(14, .long (shB F ps (shA T (L 4) ex) (decide (0 < ex)) (hiO T) (i + 1))), (13, .int (zi (shG F (shA T (L 4) ex) (decide (0 < ex)) (hiO T) (ps i)))), (12, .int (nI (ps i))), (10, .long (shB F ps (shA T (L 4) ex) (decide (0 < ex)) (hiO T) i)), (8, .long (shE (L 4) ex)), (6, .long (shA T (L 4) ex)), (5, .int (zi (decide (0 < ex)))), (4, .int (hiO T)), (0, .ref o)]) hx hb d_R_share_182 hl (by decide) rfl (fun ls hl => ?_)
                      refine lv_aload_n hx hb d_R_share_184 rfl (lv_at hl 8 rfl) ?_
                      refine gf_R_31 cx hZ ho_2 rfl d_R_share_185 ?_
                      refine lv_iload hx hb d_R_share_188 (lv_at hl 2 rfl) ?_
                      have J_220 : ∀ (H : Heap) (locs : List Loc) (x220 : Int64), Zw G.1 vwC (zA n0) w2 H → va_S (zA n0) s.heap H locs → x220 = shV F ps (shA T (L 4) ex) (shE (L 4) ex) (decide (0 < ex)) (hiO T) i → W p l e ({ frames := 2, cells := 0, slots := 0, locals := 50 }) s m [.ref o, .int (nI (ps 0)), .long ex].toArray below meth c H locs 0 0 (MQ below (zQ G.1 vwC n0 (fun v w1 => v = none ∧ RA G w1 o A S L F (shM F ps (shA T (L 4) ex) (shE (L 4) ex) (decide (0 < ex)) (hiO T) M n) B V Z T ∧ Fr (allR o A) w w1)) [.ref o, .int (nI (ps 0)), .long ex].toArray s ({ frames := 2, cells := 0, slots := 0, locals := 50 } : Room).cells ({ frames := 2, cells := 0, slots := 0, locals := 50 } : Room).slots (zA n0)) (F0 m 220 ls [.long x220, .int (nI (ps i)), .ref (A 7)]) := by
                        intro H locs x220 hZ hS hx220
                        subst hx220
                        refine st_l cx hZ hS h7_2 (vp_in_nI (by omega) (by omega)) d_R_share_220 (fun w_3 H locs hw_4 hZ hS => ?_)
                        have hk_5 : w_3 o = some (.inr (6, [.int (S 0), .ref (A 0), .ref (A 1), .ref (A 2), .ref (A 3), .ref (A 4), .ref (A 5), .ref (A 6), .ref (A 7), .ref (A 8), .int (S 1), .ref (A 9), .ref (A 10), .int (S 2), .ref (A 11), .long (L 0), .long (L 1), .long (L 2), .long (L 3), .ref (A 12), .long (L 4)])) := up_ne hw_4 ho_2 (z_ne ho_2 h7_2 (by simp))
                        have hk_6 : w_3 (A 0) = some (.inl (G.2 0, 8200, .inl (F 0))) := up_ne hw_4 h0_2 ((hA 0 7 (by decide) (by decide) (by decide)))
                        have hk_7 : w_3 (A 1) = some (.inl (G.2 0, 8200, .inl (F 1))) := up_ne hw_4 h1_2 ((hA 1 7 (by decide) (by decide) (by decide)))
                        have hk_8 : w_3 (A 2) = some (.inl (G.2 0, 8200, .inl (F 2))) := up_ne hw_4 h2_2 ((hA 2 7 (by decide) (by decide) (by decide)))
                        have hk_9 : w_3 (A 3) = some (.inl (G.2 0, 8200, .inl (F 3))) := up_ne hw_4 h3_2 ((hA 3 7 (by decide) (by decide) (by decide)))
                        have hk_10 : w_3 (A 4) = some (.inl (G.2 0, 8200, .inl (F 4))) := up_ne hw_4 h4_2 ((hA 4 7 (by decide) (by decide) (by decide)))
                        have hk_11 : w_3 (A 5) = some (.inl (G.2 0, 8200, .inl (F 5))) := up_ne hw_4 h5_2 ((hA 5 7 (by decide) (by decide) (by decide)))
                        have hk_12 : w_3 (A 6) = some (.inl (G.2 0, 8200, .inl (F 6))) := up_ne hw_4 h6_2 ((hA 6 7 (by decide) (by decide) (by decide)))
                        have hk_13 : w_3 (A 8) = some (.inl (G.2 0, 8200, .inl (F 8))) := up_ne hw_4 h8_2 ((hA 8 7 (by decide) (by decide) (by decide)))
                        have hk_14 : w_3 (A 9) = some (.inl (G.2 0, 101, .inl B)) := up_ne hw_4 h9_2 ((hA 9 7 (by decide) (by decide) (by decide)))
                        have hk_15 : w_3 (A 10) = some (.inl (G.2 2, 101, .inl V)) := up_ne hw_4 h10_2 ((hA 10 7 (by decide) (by decide) (by decide)))
                        have hk_16 : w_3 (A 11) = some (.inl (G.2 0, 16, .inl Z)) := up_ne hw_4 h11_2 ((hA 11 7 (by decide) (by decide) (by decide)))
                        have hk_17 : w_3 (A 12) = some (.inl (G.2 1, 4, .inr (.inl T))) := up_ne hw_4 h12_2 ((hA 12 7 (by decide) (by decide) (by decide)))
                        have hF := hF.put hw_4 (Or.inl (by simp))
                        have hc_18 : w_3 (A 7) = some (.inl (G.2 1, 8200, .inr (.inl (vp_updL (shM F ps (shA T (L 4) ex) (shE (L 4) ex) (decide (0 < ex)) (hiO T) M i) (ps i) (shV F ps (shA T (L 4) ex) (shE (L 4) ex) (decide (0 < ex)) (hiO T) i))))) := by have q := up_self hw_4; rw [nI_clamp (by first | omega | (unfold stN; omega))] at q; exact q
                        refine lv_lload hx hb d_R_share_221 (lv_at hl 0 rfl) ?_
                        refine lv_lstore (lv' := [(10, .long (shB F ps (shA T (L 4) ex) (decide (0 < ex)) (hiO T) (i + 1))), (14, .long (shB F ps (shA T (L 4) ex) (decide (0 < ex)) (hiO T) (i + 1))), (13, .int (zi (shG F (shA T (L 4) ex) (decide (0 < ex)) (hiO T) (ps i)))), (12, .int (nI (ps i))), (8, .long (shE (L 4) ex)), (6, .long (shA T (L 4) ex)), (5, .int (zi (decide (0 < ex)))), (4, .int (hiO T)), (0, .ref o)]) hx hb d_R_share_223 hl (by decide) rfl (fun ls hl => ?_)
                        refine lv_iload hx hb d_R_share_225 (lv_at hl 3 rfl) ?_
                        refine lv_aload_n hx hb d_R_share_227 rfl (lv_at hl 8 rfl) ?_
                        refine gf_R_35 cx hZ hk_5 rfl d_R_share_228 ?_
                        refine lv_iload hx hb d_R_share_231 (lv_at hl 3 rfl) ?_
                        refine ld_i cx hZ hk_13 (vp_in_nI (by omega) (by omega)) d_R_share_233 ?_
                        rw [show ((F 8) (nI (ps i)).toNatClampNeg : Int32) = (F 8) (ps i) from by rw [nI_clamp (by first | omega | (unfold stN; omega))]]
                        refine lv_iadd hx hb d_R_share_234 ?_
                        rw [show (((nI (ps i)) + ((F 8) (ps i))) : Int32) = nI (ps (i + 1)) from hps.step (by omega)]
                        refine lv_istore (lv' := [(12, .int (nI (ps (i + 1)))), (10, .long (shB F ps (shA T (L 4) ex) (decide (0 < ex)) (hiO T) (i + 1))), (14, .long (shB F ps (shA T (L 4) ex) (decide (0 < ex)) (hiO T) (i + 1))), (13, .int (zi (shG F (shA T (L 4) ex) (decide (0 < ex)) (hiO T) (ps i)))), (8, .long (shE (L 4) ex)), (6, .long (shA T (L 4) ex)), (5, .int (zi (decide (0 < ex)))), (4, .int (hiO T)), (0, .ref o)]) hx hb d_R_share_235 hl (by decide) rfl (fun ls hl => ?_)
                        refine lv_goto (tgt := 96) hx hb d_R_share_237 (by decide) ?_
                        exact ih (i + 1) _ _ _ _ (by omega) hZ hS hF (by rw [shM_t c113]; exact ⟨hk_5, ⟨hk_6, hk_7, hk_8, hk_9, hk_10, hk_11, hk_12, hc_18, hk_13⟩, hk_14, hk_15, hk_16, hk_17⟩) (lv_sub hl [0, 1, 4, 5, 6, 7, 8] rfl)
                      refine lv_iload hx hb d_R_share_190 (lv_at hl 1 rfl) ?_
                      refine lv_if_eq (tgt := 219) hx hb d_R_share_192 (by decide) (fun c192 => ?_) (fun c192 => ?_)
                      · refine lv_lconst (v := 0) hx hb d_R_share_219 (by decide) ?_
                        exact J_220 _ _ _ hZ hS (by rw [shV, if_neg (by rw [(zi_0 _).mp c192]; decide)])
                      · refine lv_lload hx hb d_R_share_195 (lv_at hl 4 rfl) ?_
                        refine lv_lload hx hb d_R_share_197 (lv_at hl 0 rfl) ?_
                        refine lv_lmul hx hb d_R_share_199 ?_
                        refine lv_lload hx hb d_R_share_200 (lv_at hl 5 rfl) ?_
                        refine is_R_119 (As := [.long ((shE (L 4) ex) * (shB F ps (shA T (L 4) ex) (decide (0 < ex)) (hiO T) (i + 1))), .long (shA T (L 4) ex)]) (rest := [.int (nI (ps i)), .ref (A 7)]) cx (r_near l G n0 e0 ((shE (L 4) ex) * (shB F ps (shA T (L 4) ex) (decide (0 < ex)) (hiO T) (i + 1))) (shA T (L 4) ex) w2 (hne (shG_pos ((zi_n0 _).mp c192)))) ⟨(Nat.le_of_ble_eq_true rfl), (Nat.le_of_ble_eq_true rfl)⟩ ⟨(Nat.le_of_ble_eq_true rfl), (Nat.le_of_ble_eq_true rfl)⟩ rfl hl.1 rfl (Nat.le_of_ble_eq_true rfl) d_R_share_202 hZ hS (fun v w_19 H locs hp_20 hZ hS => ?_)
                        obtain ⟨rfl, hq⟩ := hp_20
                        subst w_19
                        refine W.eq (g2 := F0 m 205 ls [.long (nearR ((shE (L 4) ex) * (shB F ps (shA T (L 4) ex) (decide (0 < ex)) (hiO T) (i + 1))) (shA T (L 4) ex)), .int (nI (ps i)), .ref (A 7)]) rfl ?_
                        refine lv_lload hx hb d_R_share_205 (lv_at hl 4 rfl) ?_
                        refine lv_lload hx hb d_R_share_207 (lv_at hl 3 rfl) ?_
                        refine lv_lmul hx hb d_R_share_209 ?_
                        refine lv_lload hx hb d_R_share_210 (lv_at hl 5 rfl) ?_
                        refine is_R_119 (As := [.long ((shE (L 4) ex) * (shB F ps (shA T (L 4) ex) (decide (0 < ex)) (hiO T) i)), .long (shA T (L 4) ex)]) (rest := [.long (nearR ((shE (L 4) ex) * (shB F ps (shA T (L 4) ex) (decide (0 < ex)) (hiO T) (i + 1))) (shA T (L 4) ex)), .int (nI (ps i)), .ref (A 7)]) cx (r_near l G n0 e0 ((shE (L 4) ex) * (shB F ps (shA T (L 4) ex) (decide (0 < ex)) (hiO T) i)) (shA T (L 4) ex) w2 (hne (shG_pos ((zi_n0 _).mp c192)))) ⟨(Nat.le_of_ble_eq_true rfl), (Nat.le_of_ble_eq_true rfl)⟩ ⟨(Nat.le_of_ble_eq_true rfl), (Nat.le_of_ble_eq_true rfl)⟩ rfl hl.1 rfl (Nat.le_of_ble_eq_true rfl) d_R_share_212 hZ hS (fun v w_21 H locs hp_22 hZ hS => ?_)
                        obtain ⟨rfl, hq⟩ := hp_22
                        subst w_21
                        refine W.eq (g2 := F0 m 215 ls [.long (nearR ((shE (L 4) ex) * (shB F ps (shA T (L 4) ex) (decide (0 < ex)) (hiO T) i)) (shA T (L 4) ex)), .long (nearR ((shE (L 4) ex) * (shB F ps (shA T (L 4) ex) (decide (0 < ex)) (hiO T) (i + 1))) (shA T (L 4) ex)), .int (nI (ps i)), .ref (A 7)]) rfl ?_
                        refine lv_lsub hx hb d_R_share_215 ?_
                        refine lv_goto (tgt := 220) hx hb d_R_share_216 (by decide) ?_
                        exact J_220 _ _ _ hZ hS (by rw [shV, if_pos ((zi_n0 _).mp c192)])
                    refine lv_iload hx hb d_R_share_149 (lv_at hl 0 rfl) ?_
                    refine lv_if_eq (tgt := 179) hx hb d_R_share_151 (by decide) (fun c151 => ?_) (fun c151 => ?_)
                    · refine lv_iconst (v := 0) hx hb d_R_share_179 (by decide) ?_
                      exact J_180 _ _ _ hZ hS (by rw [shQ, if_neg (by rw [(zi_0 _).mp c151]; decide)])
                    · refine lv_iload hx hb d_R_share_154 (lv_at hl 5 rfl) ?_
                      refine lv_if_eq (tgt := 169) hx hb d_R_share_156 (by decide) (fun c156 => ?_) (fun c156 => ?_)
                      · refine lv_aload_n hx hb d_R_share_169 rfl (lv_at hl 7 rfl) ?_
                        refine gf_R_28 cx hZ ho_2 rfl d_R_share_170 ?_
                        refine lv_iload hx hb d_R_share_173 (lv_at hl 1 rfl) ?_
                        refine ld_i cx hZ h6_2 (vp_in_nI (by omega) (by omega)) d_R_share_175 ?_
                        rw [show ((F 6) (nI (ps i)).toNatClampNeg : Int32) = (F 6) (ps i) from by rw [nI_clamp (by first | omega | (unfold stN; omega))]]
                        refine lv_goto (tgt := 180) hx hb d_R_share_176 (by decide) ?_
                        exact J_180 _ _ _ hZ hS (by rw [shQ, if_pos ((zi_n0 _).mp c151), if_neg (by rw [(zi_0 _).mp c156]; decide)])
                      · refine lv_aload_n hx hb d_R_share_159 rfl (lv_at hl 7 rfl) ?_
                        refine gf_R_22 cx hZ ho_2 rfl d_R_share_160 ?_
                        refine lv_iload hx hb d_R_share_163 (lv_at hl 1 rfl) ?_
                        refine ld_i cx hZ h4_2 (vp_in_nI (by omega) (by omega)) d_R_share_165 ?_
                        rw [show ((F 4) (nI (ps i)).toNatClampNeg : Int32) = (F 4) (ps i) from by rw [nI_clamp (by first | omega | (unfold stN; omega))]]
                        refine lv_goto (tgt := 180) hx hb d_R_share_166 (by decide) ?_
                        exact J_180 _ _ _ hZ hS (by rw [shQ, if_pos ((zi_n0 _).mp c151), if_pos ((zi_n0 _).mp c156)])
                  refine lv_lload hx hb d_R_share_116 (lv_at hl 3 rfl) ?_
                  refine lv_lconst (v := 0) hx hb d_R_share_118 (by decide) ?_
                  refine W.lcmp hx hb d_R_share_119 ?_
                  refine lv_if_le (tgt := 144) hx hb d_R_share_120 (by decide) (fun c120 => ?_) (fun c120 => ?_)
                  · have c120 := (lg_cmp_le _ _).mp c120
                    refine lv_iconst (v := 0) hx hb d_R_share_144 (by decide) ?_
                    exact J_145 _ _ _ hZ hS (by rw [shG, decide_eq_false (Int64.not_lt.mpr c120)]; rfl)
                  · have c120 := fun q => c120 ((lg_cmp_le _ _).mpr q)
                    refine lv_iload hx hb d_R_share_123 (lv_at hl 4 rfl) ?_
                    refine lv_if_eq (tgt := 140) hx hb d_R_share_125 (by decide) (fun c125 => ?_) (fun c125 => ?_)
                    · refine lv_iconst (v := 1) hx hb d_R_share_140 (by decide) ?_
                      refine lv_goto (tgt := 145) hx hb d_R_share_141 (by decide) ?_
                      exact J_145 _ _ _ hZ hS (by rw [shG, decide_eq_true (Int64.not_le.mp c120), (zi_0 _).mp c125]; rfl)
                    · refine lv_aload_n hx hb d_R_share_128 rfl (lv_at hl 6 rfl) ?_
                      refine gf_R_25 cx hZ ho_2 rfl d_R_share_129 ?_
                      refine lv_iload hx hb d_R_share_132 (lv_at hl 0 rfl) ?_
                      refine ld_i cx hZ h5_2 (vp_in_nI (by omega) (by omega)) d_R_share_134 ?_
                      rw [show ((F 5) (nI (ps i)).toNatClampNeg : Int32) = (F 5) (ps i) from by rw [nI_clamp (by first | omega | (unfold stN; omega))]]
                      refine lv_iload hx hb d_R_share_135 (lv_at hl 5 rfl) ?_
                      refine lv_icmp_ne (tgt := 144) hx hb d_R_share_137 (by decide) (fun c137 => ?_) (fun c137 => ?_)
                      · refine lv_iconst (v := 0) hx hb d_R_share_144 (by decide) ?_
                        exact J_145 _ _ _ hZ hS (by rw [shG, decide_eq_true (Int64.not_le.mp c120), (zi_n0 _).mp c125, decide_eq_false c137]; rfl)
                      · refine lv_iconst (v := 1) hx hb d_R_share_140 (by decide) ?_
                        refine lv_goto (tgt := 145) hx hb d_R_share_141 (by decide) ?_
                        exact J_145 _ _ _ hZ hS (by rw [shG, decide_eq_true (Int64.not_le.mp c120), (zi_n0 _).mp c125, decide_eq_true c137]; rfl)
          exact loop_96 (n) 0 _ _ _ _ (by omega) hZ hS hF ⟨ho, ⟨h0, h1, h2, h3, h4, h5, h6, h7, h8⟩, h9, h10, h11, h12⟩ (lv_sub hl [0, 1, 2, 3, 4, 5, 6] rfl)
        refine lv_iload hx hb d_R_share_60 (lv_at hl 1 rfl) ?_
        refine lv_if_eq (tgt := 69) hx hb d_R_share_62 (by decide) (fun c62 => ?_) (fun c62 => ?_)
        · refine lv_lload_n hx hb d_R_share_69 rfl (lv_at hl 5 rfl) ?_
          refine lv_aload_n hx hb d_R_share_70 rfl (lv_at hl 3 rfl) ?_
          refine gf_R_103 cx hZ ho rfl d_R_share_71 ?_
          refine lv_lneg hx hb d_R_share_74 ?_
          refine W.lcmp hx hb d_R_share_75 ?_
          refine lv_if_ge (tgt := 87) hx hb d_R_share_76 (by decide) (fun c76 => ?_) (fun c76 => ?_)
          · have c76 := (lg_cmp_ge _ _).mp c76
            refine lv_lload_n hx hb d_R_share_87 rfl (lv_at hl 5 rfl) ?_
            exact J_88 _ _ _ hZ hS (by rw [shE, if_neg (dz_f c62), if_neg (Int64.not_lt.mpr c76)])
          · have c76 := fun q => c76 ((lg_cmp_ge _ _).mpr q)
            refine lv_aload_n hx hb d_R_share_79 rfl (lv_at hl 3 rfl) ?_
            refine gf_R_103 cx hZ ho rfl d_R_share_80 ?_
            refine lv_lneg hx hb d_R_share_83 ?_
            refine lv_goto (tgt := 88) hx hb d_R_share_84 (by decide) ?_
            exact J_88 _ _ _ hZ hS (by rw [shE, if_neg (dz_f c62), if_pos (Int64.not_le.mp c76)])
        · refine lv_lload_n hx hb d_R_share_65 rfl (lv_at hl 5 rfl) ?_
          refine lv_goto (tgt := 88) hx hb d_R_share_66 (by decide) ?_
          exact J_88 _ _ _ hZ hS (by rw [shE, if_pos (dz_t c62)])
      refine lv_iload hx hb d_R_share_39 (lv_at hl 0 rfl) ?_
      refine lv_if_eq (tgt := 54) hx hb d_R_share_41 (by decide) (fun c41 => ?_) (fun c41 => ?_)
      · refine lv_aload_n hx hb d_R_share_54 rfl (lv_at hl 2 rfl) ?_
        refine gf_R_103 cx hZ ho rfl d_R_share_55 ?_
        exact J_58 _ _ _ hZ hS (by rw [shA, if_neg (dz_f c41)])
      · refine lv_aload_n hx hb d_R_share_44 rfl (lv_at hl 2 rfl) ?_
        refine gf_R_48 cx hZ ho rfl d_R_share_45 ?_
        refine lv_iload hx hb d_R_share_48 (lv_at hl 1 rfl) ?_
        refine ld_l cx hZ h12 (hiO_in T) d_R_share_50 ?_
        refine lv_goto (tgt := 58) hx hb d_R_share_51 (by decide) ?_
        exact J_58 _ _ _ hZ hS (by rw [shA, if_pos (dz_t c41)])
    refine lv_lload_n hx hb d_R_share_26 rfl (lv_at hl 3 rfl) ?_
    refine lv_lconst (v := 0) hx hb d_R_share_27 (by decide) ?_
    refine W.lcmp hx hb d_R_share_28 ?_
    refine lv_if_le (tgt := 36) hx hb d_R_share_29 (by decide) (fun c29 => ?_) (fun c29 => ?_)
    · have c29 := (lg_cmp_le _ _).mp c29
      refine lv_iconst (v := 0) hx hb d_R_share_36 (by decide) ?_
      exact J_37 _ _ _ hZ hS (by rw [decide_eq_false (Int64.not_lt.mpr c29)]; rfl)
    · have c29 := fun q => c29 ((lg_cmp_le _ _).mpr q)
      refine lv_iconst (v := 1) hx hb d_R_share_32 (by decide) ?_
      refine lv_goto (tgt := 37) hx hb d_R_share_33 (by decide) ?_
      exact J_37 _ _ _ hZ hS (by rw [decide_eq_true (Int64.not_le.mp c29)]; rfl)
  refine lv_iconst (v := 3) hx hb d_R_share_0 (by decide) ?_
  refine lv_istore (lv' := [(4, .int 3), (0, .ref o), (1, .int (nI (ps 0))), (2, .long ex)]) hx hb d_R_share_1 hl (by decide) rfl (fun ls hl => ?_)
  refine lv_iload hx hb d_R_share_3 (lv_at hl 0 rfl) ?_
  refine lv_if_le (tgt := 26) hx hb d_R_share_5 (by decide) (fun c5 => ?_) (fun c5 => ?_)
  · exact absurd c5 (by decide)
  · refine lv_aload_n hx hb d_R_share_8 rfl (lv_at hl 1 rfl) ?_
    refine gf_R_48 cx hZ ho rfl d_R_share_9 ?_
    refine lv_iload hx hb d_R_share_12 (lv_at hl 0 rfl) ?_
    refine ld_l cx hZ h12 (by unfold vp_in; decide) d_R_share_14 ?_
    refine lv_lconst (v := 0) hx hb d_R_share_15 (by decide) ?_
    refine W.lcmp hx hb d_R_share_16 ?_
    refine lv_if_ne (tgt := 26) hx hb d_R_share_17 (by decide) (fun c17 => ?_) (fun c17 => ?_)
    · have c17 := fun q => c17 ((lg_cmp_eq _ _).mpr q)
      exact JL_26 _ _ _ hZ hS (lv_sub hl [0, 1, 2, 3] (by rw [hiO, if_pos (show T 3 ≠ 0 from c17)]; rfl))
    · have c17 := (lg_cmp_eq _ _).mp c17
      refine lv_iinc (v := 2) (lv' := [(4, .int 2), (0, .ref o), (1, .int (nI (ps 0))), (2, .long ex)]) hx hb d_R_share_20 hl (k := 0) rfl (by decide) (by decide) rfl (fun ls hl => ?_)
      refine lv_goto (tgt := 3) hx hb d_R_share_23 (by decide) ?_
      refine lv_iload hx hb d_R_share_3 (lv_at hl 0 rfl) ?_
      refine lv_if_le (tgt := 26) hx hb d_R_share_5 (by decide) (fun c5_1 => ?_) (fun c5_1 => ?_)
      · exact absurd c5_1 (by decide)
      · refine lv_aload_n hx hb d_R_share_8 rfl (lv_at hl 1 rfl) ?_
        refine gf_R_48 cx hZ ho rfl d_R_share_9 ?_
        refine lv_iload hx hb d_R_share_12 (lv_at hl 0 rfl) ?_
        refine ld_l cx hZ h12 (by unfold vp_in; decide) d_R_share_14 ?_
        refine lv_lconst (v := 0) hx hb d_R_share_15 (by decide) ?_
        refine W.lcmp hx hb d_R_share_16 ?_
        refine lv_if_ne (tgt := 26) hx hb d_R_share_17 (by decide) (fun c17_1 => ?_) (fun c17_1 => ?_)
        · have c17_1 := fun q => c17_1 ((lg_cmp_eq _ _).mpr q)
          exact JL_26 _ _ _ hZ hS (lv_sub hl [0, 1, 2, 3] (by rw [hiO, if_neg (show ¬ T 3 ≠ 0 from fun z => z c17), if_pos (show T 2 ≠ 0 from c17_1)]; rfl))
        · have c17_1 := (lg_cmp_eq _ _).mp c17_1
          refine lv_iinc (v := 1) (lv' := [(4, .int 1), (0, .ref o), (1, .int (nI (ps 0))), (2, .long ex)]) hx hb d_R_share_20 hl (k := 0) rfl (by decide) (by decide) rfl (fun ls hl => ?_)
          refine lv_goto (tgt := 3) hx hb d_R_share_23 (by decide) ?_
          refine lv_iload hx hb d_R_share_3 (lv_at hl 0 rfl) ?_
          refine lv_if_le (tgt := 26) hx hb d_R_share_5 (by decide) (fun c5_2 => ?_) (fun c5_2 => ?_)
          · exact absurd c5_2 (by decide)
          · refine lv_aload_n hx hb d_R_share_8 rfl (lv_at hl 1 rfl) ?_
            refine gf_R_48 cx hZ ho rfl d_R_share_9 ?_
            refine lv_iload hx hb d_R_share_12 (lv_at hl 0 rfl) ?_
            refine ld_l cx hZ h12 (by unfold vp_in; decide) d_R_share_14 ?_
            refine lv_lconst (v := 0) hx hb d_R_share_15 (by decide) ?_
            refine W.lcmp hx hb d_R_share_16 ?_
            refine lv_if_ne (tgt := 26) hx hb d_R_share_17 (by decide) (fun c17_2 => ?_) (fun c17_2 => ?_)
            · have c17_2 := fun q => c17_2 ((lg_cmp_eq _ _).mpr q)
              exact JL_26 _ _ _ hZ hS (lv_sub hl [0, 1, 2, 3] (by rw [hiO, if_neg (show ¬ T 3 ≠ 0 from fun z => z c17), if_neg (show ¬ T 2 ≠ 0 from fun z => z c17_1), if_pos (show T 1 ≠ 0 from c17_2)]; rfl))
            · have c17_2 := (lg_cmp_eq _ _).mp c17_2
              refine lv_iinc (v := 0) (lv' := [(4, .int 0), (0, .ref o), (1, .int (nI (ps 0))), (2, .long ex)]) hx hb d_R_share_20 hl (k := 0) rfl (by decide) (by decide) rfl (fun ls hl => ?_)
              refine lv_goto (tgt := 3) hx hb d_R_share_23 (by decide) ?_
              refine lv_iload hx hb d_R_share_3 (lv_at hl 0 rfl) ?_
              refine lv_if_le (tgt := 26) hx hb d_R_share_5 (by decide) (fun c5_3 => ?_) (fun c5_3 => ?_)
              · exact JL_26 _ _ _ hZ hS (lv_sub hl [0, 1, 2, 3] (by rw [hiO, if_neg (show ¬ T 3 ≠ 0 from fun z => z c17), if_neg (show ¬ T 2 ≠ 0 from fun z => z c17_1), if_neg (show ¬ T 1 ≠ 0 from fun z => z c17_2)]; rfl))
              · exact absurd c5_3 (by decide)
