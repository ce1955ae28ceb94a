theorem hasRoom_mono {s : State} {pl : Platform} {r r2 : Room} (h : s.hasRoom pl r2 = true) (hf : r.frames ≤ r2.frames) (hc : r.cells ≤ r2.cells) (hs : r.slots ≤ r2.slots) (hl : r.locals ≤ r2.locals) : s.hasRoom pl r = true := by
  simp only [State.hasRoom, Bool.and_eq_true, decide_eq_true_eq] at h ⊢
  obtain ⟨⟨⟨⟨h1, h2, h3, h4, h5, h6⟩, h7⟩, h8⟩, h9⟩ := h
  exact ⟨⟨⟨⟨by omega, by omega, by omega, by omega, by omega, h6⟩, by omega⟩, by omega⟩, h9⟩
/-- a contract with more room, and a weaker end -/
theorem Ct.mono {l : Launch} {G : zG} {n0 e0 : Nat} {y : MethodName} {cy : ByteArray} {ny : Nat} {ry : Option FieldType} {r r2 : Room} {av : List Value} {w : zw} {post post2 : Option Value → zw → Prop} (h : Ct l G n0 e0 y cy ny ry r av w post) (hf : r.frames ≤ r2.frames) (hc : r.cells ≤ r2.cells) (hs : r.slots ≤ r2.slots) (hl : r.locals ≤ r2.locals) (hp : ∀ v w1, post v w1 → post2 v w1) : Ct l G n0 e0 y cy ny ry r2 av w post2 := by
  intro p e ha hc2 hk s m args below hfr happ hP hK
  have hap := (Spec.appliesLoose_iff (S := headSpec (zws y cy ny ry) r2) (pl := e.platform) hfr).mp happ
  obtain ⟨a1, a2, a3, a4, a5, a6, a7, a8⟩ := hap
  obtain ⟨n, o, b1, b2, b3, ⟨⟨v, w1, q1, q2, q3⟩, q4⟩, L, c1, c2⟩ := h p e ha hc2 hk s m args below hfr ((Spec.appliesLoose_iff (S := headSpec (zws y cy ny ry) r) (pl := e.platform) hfr).mpr ⟨a1, a2, a3, a4, a5, a6, hasRoom_mono a7 hf hc hs hl, a8⟩) hP hK
  exact ⟨n, o, b1, b2, b3, ⟨⟨v, w1, q1, hp v w1 q2, q3⟩, q4⟩, L, ⟨c1.1, c1.2.1, c1.2.2.mono hc hs⟩, c2⟩
theorem regB_nI {k : Nat} (h : k < 16) : regB (nI k) = true := by
  simp only [regB, Bool.and_eq_true, Bool.not_eq_true', decide_eq_false_iff_not, decide_eq_true_eq]
  exact ⟨nI_pos (by omega), by rw [show (16 : Int32) = nI 16 from by decide]; exact nI_lt h (by decide)⟩
theorem regB_of {k : Int32} (h : regB k = true) : ∃ j : Nat, j < 16 ∧ k = nI j := by
  simp only [regB, Bool.and_eq_true, Bool.not_eq_true', decide_eq_false_iff_not, decide_eq_true_eq] at h
  rcases pk_ix k (n := 16) (by omega) with q | q | q
  · exact absurd q h.1
  · exact absurd h.2 (Int32.not_lt.mpr q)
  · exact q
set_option maxHeartbeats 4000000 in
set_option maxRecDepth 100000 in
theorem c_innermost_0 (l : Launch) (G : zG) (n0 e0 : Nat) (w : zw) (d la ra : Nat) (on tot : Nat) (fl fr : Nat → Option Nat) (hd : w d = some (.inr (5, [.ref la, .int (nI on), .ref ra, .int (nI tot)]))) (h0 : on = 0) : Ct l G n0 e0 y_D_innermost b_D_innermost 1 (Option.some (FieldType.object "BoxDesk$ItemList")) ({ frames := 0, cells := 0, slots := 0, locals := 0 }) [.ref d] w (fun v w1 => v = some .null ∧ w1 = w) := by
  refine z_ct (by decide) (Nat.le_of_ble_eq_true rfl) ?_
  intro p e s m below meth c ls cx hnm hZ hS hl
  have hx := cx.1
  have hb := cx.2.1
  have hl : lv_has ls 1 [(0, .ref d)] := hl
  refine lv_aload_n hx hb d_D_innermost_0 rfl (lv_at hl 0 rfl) ?_
  refine gf_D_21 cx hZ hd rfl d_D_innermost_1 ?_
  refine lv_if_le (tgt := 21) hx hb d_D_innermost_4 (by decide) (fun c4 => ?_) (fun c4 => ?_)
  · refine lv_null hx hb d_D_innermost_21 ?_
    exact z_aret cx.1 cx.2.1 cx.rt cx.lk (by first | exact Or.inl ⟨_, rfl⟩ | exact Or.inr ⟨_, rfl⟩) (by first | exact Or.inl rfl | exact Or.inr ⟨_, rfl⟩) hS hZ ⟨(Nat.le_of_ble_eq_true rfl), (Nat.le_of_ble_eq_true rfl)⟩ d_D_innermost_22 (⟨rfl, rfl⟩)
  · exact absurd (by rw [h0]; decide) c4
set_option maxHeartbeats 4000000 in
set_option maxRecDepth 100000 in
theorem c_innermost_1 (l : Launch) (G : zG) (n0 e0 : Nat) (w : zw) (d la ra : Nat) (k tot : Nat) (fl fr : Nat → Option Nat) (hd : w d = some (.inr (5, [.ref la, .int (nI (k + 1)), .ref ra, .int (nI tot)]))) (hla : w la = some (.inl (G.2 4, 100, .inr (.inr (.inr (.inr fl)))))) (hk : k < 100) (il : Nat) (hil : fl k = some il) : Ct l G n0 e0 y_D_innermost b_D_innermost 1 (Option.some (FieldType.object "BoxDesk$ItemList")) ({ frames := 0, cells := 0, slots := 0, locals := 0 }) [.ref d] w (fun v w1 => v = some (.ref il) ∧ w1 = w) := by
  refine z_ct (by decide) (Nat.le_of_ble_eq_true rfl) ?_
  intro p e s m below meth c ls cx hnm hZ hS hl
  have hx := cx.1
  have hb := cx.2.1
  have hl : lv_has ls 1 [(0, .ref d)] := hl
  refine lv_aload_n hx hb d_D_innermost_0 rfl (lv_at hl 0 rfl) ?_
  refine gf_D_21 cx hZ hd rfl d_D_innermost_1 ?_
  refine lv_if_le (tgt := 21) hx hb d_D_innermost_4 (by decide) (fun c4 => ?_) (fun c4 => ?_)
  · exact absurd c4 (nI_nle (by omega) (by omega))
  · refine lv_aload_n hx hb d_D_innermost_7 rfl (lv_at hl 0 rfl) ?_
    refine gf_D_11 cx hZ hd rfl d_D_innermost_8 ?_
    refine lv_aload_n hx hb d_D_innermost_11 rfl (lv_at hl 0 rfl) ?_
    refine gf_D_21 cx hZ hd rfl d_D_innermost_12 ?_
    refine lv_iconst (v := 1) hx hb d_D_innermost_15 (by decide) ?_
    refine lv_isub hx hb d_D_innermost_16 ?_
    rw [show (((nI (k + 1)) - 1) : Int32) = nI k from nI_pred k]
    refine ld_q4 cx hZ hla (vp_in_nI hk (by omega)) d_D_innermost_17 ?_
    rw [show fl (nI k).toNatClampNeg = some il from (by rw [nI_clamp (by omega)]; exact hil)]
    refine W.eq (g2 := F0 m 18 ls [.ref il]) rfl ?_
    refine lv_goto (tgt := 22) hx hb d_D_innermost_18 (by decide) ?_
    exact z_aret cx.1 cx.2.1 cx.rt cx.lk (by first | exact Or.inl ⟨_, rfl⟩ | exact Or.inr ⟨_, rfl⟩) (by first | exact Or.inl rfl | exact Or.inr ⟨_, rfl⟩) hS hZ ⟨(Nat.le_of_ble_eq_true rfl), (Nat.le_of_ble_eq_true rfl)⟩ d_D_innermost_22 (⟨rfl, rfl⟩)
set_option maxHeartbeats 4000000 in
set_option maxRecDepth 100000 in
theorem c_boxIn_out (l : Launch) (G : zG) (n0 e0 : Nat) (w : zw) (d la ra : Nat) (on tot : Nat) (fl fr : Nat → Option Nat) (hd : w d = some (.inr (5, [.ref la, .int (nI on), .ref ra, .int (nI tot)]))) (k : Int32) (hk : regB k = false) : Ct l G n0 e0 y_D_boxIn b_D_boxIn 2 (Option.some (FieldType.object "BoxDesk$Box")) ({ frames := 1, cells := 0, slots := 0, locals := 20 }) [.ref d, .int k] w (fun v w1 => v = some .null ∧ w1 = w) := by
  refine z_ct (by decide) (Nat.le_of_ble_eq_true rfl) ?_
  intro p e s m below meth c ls cx hnm hZ hS hl
  have hx := cx.1
  have hb := cx.2.1
  have hl : lv_has ls 2 [(0, .ref d), (1, .int k)] := hl
  refine lv_iload_n hx hb d_D_boxIn_0 rfl (lv_at hl 1 rfl) ?_
  refine is_D_71 (As := [.int k]) (rest := []) cx (c_isRegister l G n0 e0 k w) ⟨(Nat.le_of_ble_eq_true rfl), (Nat.le_of_ble_eq_true rfl)⟩ ⟨(Nat.le_of_ble_eq_true rfl), (Nat.le_of_ble_eq_true rfl)⟩ rfl hl.1 rfl (Nat.le_of_ble_eq_true rfl) d_D_boxIn_1 hZ hS (fun v w_1 H locs hp_2 hZ hS => ?_)
  obtain ⟨rfl, hq⟩ := hp_2
  subst w_1
  refine W.eq (g2 := F0 m 4 ls [.int (zi (regB k))]) rfl ?_
  refine lv_if_eq (tgt := 16) hx hb d_D_boxIn_4 (by decide) (fun c4 => ?_) (fun c4 => ?_)
  · refine lv_null hx hb d_D_boxIn_16 ?_
    exact z_aret cx.1 cx.2.1 cx.rt cx.lk (by first | exact Or.inl ⟨_, rfl⟩ | exact Or.inr ⟨_, rfl⟩) (by first | exact Or.inl rfl | exact Or.inr ⟨_, rfl⟩) hS hZ ⟨(Nat.le_of_ble_eq_true rfl), (Nat.le_of_ble_eq_true rfl)⟩ d_D_boxIn_17 (⟨rfl, rfl⟩)
  · exact absurd ((zi_0 _).mpr hk) c4
set_option maxHeartbeats 4000000 in
set_option maxRecDepth 100000 in
theorem c_boxIn_void (l : Launch) (G : zG) (n0 e0 : Nat) (w : zw) (d la ra : Nat) (on tot : Nat) (fl fr : Nat → Option Nat) (hd : w d = some (.inr (5, [.ref la, .int (nI on), .ref ra, .int (nI tot)]))) (hra : w ra = some (.inl (G.2 5, 16, .inr (.inr (.inr (.inr fr)))))) (k : Nat) (hk : k < 16) (hv : fr k = none) : Ct l G n0 e0 y_D_boxIn b_D_boxIn 2 (Option.some (FieldType.object "BoxDesk$Box")) ({ frames := 1, cells := 0, slots := 0, locals := 20 }) [.ref d, .int (nI k)] w (fun v w1 => v = some .null ∧ w1 = w) := by
  refine z_ct (by decide) (Nat.le_of_ble_eq_true rfl) ?_
  intro p e s m below meth c ls cx hnm hZ hS hl
  have hx := cx.1
  have hb := cx.2.1
  have hl : lv_has ls 2 [(0, .ref d), (1, .int (nI k))] := hl
  refine lv_iload_n hx hb d_D_boxIn_0 rfl (lv_at hl 1 rfl) ?_
  refine is_D_71 (As := [.int (nI k)]) (rest := []) cx (c_isRegister l G n0 e0 (nI k) w) ⟨(Nat.le_of_ble_eq_true rfl), (Nat.le_of_ble_eq_true rfl)⟩ ⟨(Nat.le_of_ble_eq_true rfl), (Nat.le_of_ble_eq_true rfl)⟩ rfl hl.1 rfl (Nat.le_of_ble_eq_true rfl) d_D_boxIn_1 hZ hS (fun v w_1 H locs hp_2 hZ hS => ?_)
  obtain ⟨rfl, hq⟩ := hp_2
  subst w_1
  refine W.eq (g2 := F0 m 4 ls [.int (zi (regB (nI k)))]) rfl ?_
  refine lv_if_eq (tgt := 16) hx hb d_D_boxIn_4 (by decide) (fun c4 => ?_) (fun c4 => ?_)
  · exact absurd c4 ((zi_n0 _).mpr (regB_nI hk))
  · refine lv_aload_n hx hb d_D_boxIn_7 rfl (lv_at hl 0 rfl) ?_
    refine gf_D_17 cx hZ hd rfl d_D_boxIn_8 ?_
    refine lv_iload_n hx hb d_D_boxIn_11 rfl (lv_at hl 1 rfl) ?_
    refine ld_q5 cx hZ hra (vp_in_nI hk (by omega)) d_D_boxIn_12 ?_
    rw [show fr (nI k).toNatClampNeg = none from (by rw [nI_clamp (by omega)]; exact hv)]
    refine W.eq (g2 := F0 m 13 ls [.null]) rfl ?_
    refine lv_goto (tgt := 17) hx hb d_D_boxIn_13 (by decide) ?_
    exact z_aret cx.1 cx.2.1 cx.rt cx.lk (by first | exact Or.inl ⟨_, rfl⟩ | exact Or.inr ⟨_, rfl⟩) (by first | exact Or.inl rfl | exact Or.inr ⟨_, rfl⟩) hS hZ ⟨(Nat.le_of_ble_eq_true rfl), (Nat.le_of_ble_eq_true rfl)⟩ d_D_boxIn_17 (⟨rfl, rfl⟩)
set_option maxHeartbeats 4000000 in
set_option maxRecDepth 100000 in
theorem c_boxIn_some (l : Launch) (G : zG) (n0 e0 : Nat) (w : zw) (d la ra : Nat) (on tot : Nat) (fl fr : Nat → Option Nat) (hd : w d = some (.inr (5, [.ref la, .int (nI on), .ref ra, .int (nI tot)]))) (hra : w ra = some (.inl (G.2 5, 16, .inr (.inr (.inr (.inr fr)))))) (k : Nat) (hk : k < 16) (b : Nat) (hv : fr k = some b) : Ct l G n0 e0 y_D_boxIn b_D_boxIn 2 (Option.some (FieldType.object "BoxDesk$Box")) ({ frames := 1, cells := 0, slots := 0, locals := 20 }) [.ref d, .int (nI k)] w (fun v w1 => v = some (.ref b) ∧ w1 = w) := by
  refine z_ct (by decide) (Nat.le_of_ble_eq_true rfl) ?_
  intro p e s m below meth c ls cx hnm hZ hS hl
  have hx := cx.1
  have hb := cx.2.1
  have hl : lv_has ls 2 [(0, .ref d), (1, .int (nI k))] := hl
  refine lv_iload_n hx hb d_D_boxIn_0 rfl (lv_at hl 1 rfl) ?_
  refine is_D_71 (As := [.int (nI k)]) (rest := []) cx (c_isRegister l G n0 e0 (nI k) w) ⟨(Nat.le_of_ble_eq_true rfl), (Nat.le_of_ble_eq_true rfl)⟩ ⟨(Nat.le_of_ble_eq_true rfl), (Nat.le_of_ble_eq_true rfl)⟩ rfl hl.1 rfl (Nat.le_of_ble_eq_true rfl) d_D_boxIn_1 hZ hS (fun v w_1 H locs hp_2 hZ hS => ?_)
  obtain ⟨rfl, hq⟩ := hp_2
  subst w_1
  refine W.eq (g2 := F0 m 4 ls [.int (zi (regB (nI k)))]) rfl ?_
  refine lv_if_eq (tgt := 16) hx hb d_D_boxIn_4 (by decide) (fun c4 => ?_) (fun c4 => ?_)
  · exact absurd c4 ((zi_n0 _).mpr (regB_nI hk))
  · refine lv_aload_n hx hb d_D_boxIn_7 rfl (lv_at hl 0 rfl) ?_
    refine gf_D_17 cx hZ hd rfl d_D_boxIn_8 ?_
    refine lv_iload_n hx hb d_D_boxIn_11 rfl (lv_at hl 1 rfl) ?_
    refine ld_q5 cx hZ hra (vp_in_nI hk (by omega)) d_D_boxIn_12 ?_
    rw [show fr (nI k).toNatClampNeg = some b from (by rw [nI_clamp (by omega)]; exact hv)]
    refine W.eq (g2 := F0 m 13 ls [.ref b]) rfl ?_
    refine lv_goto (tgt := 17) hx hb d_D_boxIn_13 (by decide) ?_
    exact z_aret cx.1 cx.2.1 cx.rt cx.lk (by first | exact Or.inl ⟨_, rfl⟩ | exact Or.inr ⟨_, rfl⟩) (by first | exact Or.inl rfl | exact Or.inr ⟨_, rfl⟩) hS hZ ⟨(Nat.le_of_ble_eq_true rfl), (Nat.le_of_ble_eq_true rfl)⟩ d_D_boxIn_17 (⟨rfl, rfl⟩)
set_option maxHeartbeats 4000000 in
set_option maxRecDepth 100000 in
theorem c_join_no (l : Launch) (G : zG) (n0 e0 : Nat) (w : zw) (d la ra on tot il x : Nat) (hd : w d = some (.inr (5, [.ref la, .int (nI on), .ref ra, .int (nI tot)]))) (ht : 4000 ≤ tot) (ht2 : tot < 10000) : Ct l G n0 e0 y_D_join b_D_join 3 (Option.some FieldType.boolean) ({ frames := 0, cells := 0, slots := 0, locals := 0 }) [.ref d, .ref il, .ref x] w (fun v w1 => v = some (.int 0) ∧ w1 = w) := by
  refine z_ct (by decide) (Nat.le_of_ble_eq_true rfl) ?_
  intro p e s m below meth c ls cx hnm hZ hS hl
  have hx := cx.1
  have hb := cx.2.1
  have hl : lv_has ls 3 [(0, .ref d), (1, .ref il), (2, .ref x)] := hl
  refine lv_aload_n hx hb d_D_join_0 rfl (lv_at hl 0 rfl) ?_
  refine gf_D_94 cx hZ hd rfl d_D_join_1 ?_
  refine lv_sipush (v := 4000) hx hb d_D_join_4 (by decide) ?_
  refine lv_icmp_lt (tgt := 12) hx hb d_D_join_7 (by decide) (fun c7 => ?_) (fun c7 => ?_)
  · exact absurd c7 (nI_nlt ht (by omega))
  · refine lv_iconst (v := 0) hx hb d_D_join_10 (by decide) ?_
    exact z_zret cx.1 cx.2.1 cx.rt cx.lk (by first | rfl | (simp [narrow]; done) | simp_all [narrow]) hS hZ ⟨(Nat.le_of_ble_eq_true rfl), (Nat.le_of_ble_eq_true rfl)⟩ d_D_join_11 (⟨rfl, rfl⟩)
set_option maxHeartbeats 4000000 in
set_option maxRecDepth 100000 in
theorem c_join_room (l : Launch) (G : zG) (n0 e0 : Nat) (w : zw) (a ar cap n : Nat) (md : Int32) (fa : Nat → Option Nat) (ha : w a = some (.inr (0, fA md (.ref ar) (nI n)))) (har : w ar = some (.inl (G.2 3, cap, .inr (.inr (.inr (.inr fa)))))) (hn : n < cap) (hcc : cap ≤ 60000) (x : Nat) (fx : List Value) (hxi : w x = some (.inr (1, fx))) (d la ra on tot il : Nat) (vt : Bool) (hd : w d = some (.inr (5, [.ref la, .int (nI on), .ref ra, .int (nI tot)]))) (hli : w il = some (.inr (2, [.int (zi vt), .ref a]))) (ht : tot < 4000) : Ct l G n0 e0 y_D_join b_D_join 3 (Option.some FieldType.boolean) ({ frames := 6, cells := 0, slots := 0, locals := 135 }) [.ref d, .ref il, .ref x] w (fun v w1 => v = some (.int 1) ∧ w1 ar = some (.inl (G.2 3, cap, .inr (.inr (.inr (.inr (va_up fa n (some x))))))) ∧ w1 a = some (.inr (0, fA (md + 1) (.ref ar) (nI (n + 1)))) ∧ w1 d = some (.inr (5, [.ref la, .int (nI on), .ref ra, .int (nI (tot + 1))])) ∧ Fr [d, a, ar] w w1) := by
  refine z_ct (by decide) (Nat.le_of_ble_eq_true rfl) ?_
  intro p e s m below meth c ls cx hnm hZ hS hl
  have hx := cx.1
  have hb := cx.2.1
  have hl : lv_has ls 3 [(0, .ref d), (1, .ref il), (2, .ref x)] := hl
  have hF : Fr [d, a, ar] w w := Fr.rf
  refine lv_aload_n hx hb d_D_join_0 rfl (lv_at hl 0 rfl) ?_
  refine gf_D_94 cx hZ hd rfl d_D_join_1 ?_
  refine lv_sipush (v := 4000) hx hb d_D_join_4 (by decide) ?_
  refine lv_icmp_lt (tgt := 12) hx hb d_D_join_7 (by decide) (fun c7 => ?_) (fun c7 => ?_)
  · refine lv_aload_n hx hb d_D_join_12 rfl (lv_at hl 1 rfl) ?_
    refine gf_D_117 cx hZ hli rfl d_D_join_13 ?_
    refine lv_aload_n hx hb d_D_join_16 rfl (lv_at hl 2 rfl) ?_
    refine iv_D_125 (As := [.ref x]) (rest := []) cx (c_add_room l G n0 e0 w a ar cap n md fa ha har hn hcc x fx hxi) ha ⟨(Nat.le_of_ble_eq_true rfl), (Nat.le_of_ble_eq_true rfl)⟩ ⟨(Nat.le_of_ble_eq_true rfl), (Nat.le_of_ble_eq_true rfl)⟩ rfl hl.1 rfl (Nat.le_of_ble_eq_true rfl) d_D_join_17 hZ hS (fun v w_1 H locs hp_2 hZ hS => ?_)
    obtain ⟨rfl, hc_3, hc_4, hf_5⟩ := hp_2
    have hk_6 : w_1 d = some (.inr (5, [.ref la, .int (nI on), .ref ra, .int (nI tot)])) := hf_5.keep hd (by simp only [List.mem_cons, List.not_mem_nil, or_false, not_or]; exact ⟨z_ne hd ha (by simp), z_ne hd har (by simp)⟩)
    have hk_7 : w_1 il = some (.inr (2, [.int (zi vt), .ref a])) := hf_5.keep hli (by simp only [List.mem_cons, List.not_mem_nil, or_false, not_or]; exact ⟨z_ne hli ha (by simp), z_ne hli har (by simp)⟩)
    have hk_8 : w_1 x = some (.inr (1, fx)) := hf_5.keep hxi (by simp only [List.mem_cons, List.not_mem_nil, or_false, not_or]; exact ⟨z_ne hxi ha (by simp), z_ne hxi har (by simp)⟩)
    have hF := hF.call hf_5 (List.forall_mem_cons.mpr ⟨Or.inl (by simp), List.forall_mem_cons.mpr ⟨Or.inl (by simp), fun _ h => absurd h List.not_mem_nil⟩⟩)
    refine W.eq (g2 := F0 m 20 ls [.int 1]) rfl ?_
    refine lv_pop hx hb d_D_join_20 rfl ?_
    refine lv_aload_n hx hb d_D_join_21 rfl (lv_at hl 0 rfl) ?_
    refine lv_dup hx hb d_D_join_22 rfl ?_
    refine gf_D_94 cx hZ hk_6 rfl d_D_join_23 ?_
    refine lv_iconst (v := 1) hx hb d_D_join_26 (by decide) ?_
    refine lv_iadd hx hb d_D_join_27 ?_
    rw [show (((nI tot) + 1) : Int32) = nI (tot + 1) from nI_1 tot]
    refine pf_D_94 cx hZ hS hk_6 (Nat.le_of_ble_eq_true rfl) d_D_join_28 (fun w_9 H locs hw_10 hZ hS => ?_)
    have hk_11 : w_9 il = some (.inr (2, [.int (zi vt), .ref a])) := up_ne hw_10 hk_7 (z_ne hk_7 hk_6 (by simp))
    have hk_12 : w_9 a = some (.inr (0, [.int (md + 1), .ref ar, .int (nI (n + 1))])) := up_ne hw_10 hc_3 (z_ne hc_3 hk_6 (by simp))
    have hk_13 : w_9 x = some (.inr (1, fx)) := up_ne hw_10 hk_8 (z_ne hk_8 hk_6 (by simp))
    have hk_14 : w_9 ar = some (.inl (G.2 3, cap, .inr (.inr (.inr (.inr (va_up fa n (some x))))))) := up_ne hw_10 hc_4 (z_ne hc_4 hk_6 (by simp))
    have hF := hF.put hw_10 (Or.inl (by simp))
    have hc_15 : w_9 d = some (.inr (5, [.ref la, .int (nI on), .ref ra, .int (nI (tot + 1))])) := up_self hw_10
    refine lv_iconst (v := 1) hx hb d_D_join_31 (by decide) ?_
    exact z_zret cx.1 cx.2.1 cx.rt cx.lk (by first | rfl | (simp [narrow]; done) | simp_all [narrow]) hS hZ ⟨(Nat.le_of_ble_eq_true rfl), (Nat.le_of_ble_eq_true rfl)⟩ d_D_join_32 (⟨rfl, hk_14, hk_12, hc_15, hF⟩)
  · exact absurd (nI_lt ht (by omega)) c7
set_option maxHeartbeats 4000000 in
set_option maxRecDepth 100000 in
theorem c_join_full (l : Launch) (G : zG) (n0 e0 : Nat) (w : zw) (a ar cap : Nat) (md : Int32) (fa : Nat → Option Nat) (ha : w a = some (.inr (0, fA md (.ref ar) (nI cap)))) (har : w ar = some (.inl (G.2 3, cap, .inr (.inr (.inr (.inr fa)))))) (hc : 10 ≤ cap) (hcc : cap ≤ 60000) (hel : ∀ i : Nat, i < cap → ∀ y : Nat, fa i = some y → ∃ fs, w y = some (.inr (1, fs))) (x : Nat) (fx : List Value) (hxi : w x = some (.inr (1, fx))) (d la ra on tot il : Nat) (vt : Bool) (hd : w d = some (.inr (5, [.ref la, .int (nI on), .ref ra, .int (nI tot)]))) (hli : w il = some (.inr (2, [.int (zi vt), .ref a]))) (ht : tot < 4000) : Ct l G n0 e0 y_D_join b_D_join 3 (Option.some FieldType.boolean) ({ frames := 7, cells := 1, slots := cap + cap / 2, locals := 155 }) [.ref d, .ref il, .ref x] w (fun v w1 => ∃ q, v = some (.int 1) ∧ w q = none ∧ w1 q = some (.inl (G.2 3, cap + cap / 2, .inr (.inr (.inr (.inr (va_up (va_cpy fa (fun _ => none) 0 0 cap) cap (some x))))))) ∧ w1 a = some (.inr (0, fA (md + 1) (.ref q) (nI (cap + 1)))) ∧ w1 d = some (.inr (5, [.ref la, .int (nI on), .ref ra, .int (nI (tot + 1))])) ∧ Fr [d, a] w w1) := by
  refine z_ct (by decide) (Nat.le_of_ble_eq_true rfl) ?_
  intro p e s m below meth c ls cx hnm hZ hS hl
  have hx := cx.1
  have hb := cx.2.1
  have hl : lv_has ls 3 [(0, .ref d), (1, .ref il), (2, .ref x)] := hl
  have hF : Fr [d, a] w w := Fr.rf
  refine lv_aload_n hx hb d_D_join_0 rfl (lv_at hl 0 rfl) ?_
  refine gf_D_94 cx hZ hd rfl d_D_join_1 ?_
  refine lv_sipush (v := 4000) hx hb d_D_join_4 (by decide) ?_
  refine lv_icmp_lt (tgt := 12) hx hb d_D_join_7 (by decide) (fun c7 => ?_) (fun c7 => ?_)
  · refine lv_aload_n hx hb d_D_join_12 rfl (lv_at hl 1 rfl) ?_
    refine gf_D_117 cx hZ hli rfl d_D_join_13 ?_
    refine lv_aload_n hx hb d_D_join_16 rfl (lv_at hl 2 rfl) ?_
    refine iv_D_125 (As := [.ref x]) (rest := []) cx (c_add_full l G n0 e0 w a ar cap md fa ha har hc hcc hel x fx hxi) ha ⟨(Nat.le_of_ble_eq_true rfl), (Nat.le_of_ble_eq_true rfl)⟩ ⟨(by dsimp only; omega), (by dsimp only; omega)⟩ rfl hl.1 rfl (Nat.le_of_ble_eq_true rfl) d_D_join_17 hZ hS (fun v w_2 H locs hp_3 hZ hS => ?_)
    obtain ⟨q_1, rfl, hc_4, hc_5, hc_6, hf_7⟩ := hp_3
    have hk_8 : w_2 d = some (.inr (5, [.ref la, .int (nI on), .ref ra, .int (nI tot)])) := hf_7.keep hd (by simp only [List.mem_cons, List.not_mem_nil, or_false, not_or]; exact z_ne hd ha (by simp))
    have hk_9 : w_2 il = some (.inr (2, [.int (zi vt), .ref a])) := hf_7.keep hli (by simp only [List.mem_cons, List.not_mem_nil, or_false, not_or]; exact z_ne hli ha (by simp))
    have hk_10 : w_2 x = some (.inr (1, fx)) := hf_7.keep hxi (by simp only [List.mem_cons, List.not_mem_nil, or_false, not_or]; exact z_ne hxi ha (by simp))
    have hk_11 : w_2 ar = some (.inl (G.2 3, cap, .inr (.inr (.inr (.inr fa))))) := hf_7.keep har (by simp only [List.mem_cons, List.not_mem_nil, or_false, not_or]; exact z_ne har ha (by simp))
    have hn_12 := hF.2 _ hc_4
    have hF := hF.call hf_7 (List.forall_mem_cons.mpr ⟨Or.inl (by simp), fun _ h => absurd h List.not_mem_nil⟩)
    refine W.eq (g2 := F0 m 20 ls [.int 1]) rfl ?_
    refine lv_pop hx hb d_D_join_20 rfl ?_
    refine lv_aload_n hx hb d_D_join_21 rfl (lv_at hl 0 rfl) ?_
    refine lv_dup hx hb d_D_join_22 rfl ?_
    refine gf_D_94 cx hZ hk_8 rfl d_D_join_23 ?_
    refine lv_iconst (v := 1) hx hb d_D_join_26 (by decide) ?_
    refine lv_iadd hx hb d_D_join_27 ?_
    rw [show (((nI tot) + 1) : Int32) = nI (tot + 1) from nI_1 tot]
    refine pf_D_94 cx hZ hS hk_8 (Nat.le_of_ble_eq_true rfl) d_D_join_28 (fun w_13 H locs hw_14 hZ hS => ?_)
    have hk_15 : w_13 il = some (.inr (2, [.int (zi vt), .ref a])) := up_ne hw_14 hk_9 (z_ne hk_9 hk_8 (by simp))
    have hk_16 : w_13 a = some (.inr (0, [.int (md + 1), .ref q_1, .int (nI (cap + 1))])) := up_ne hw_14 hc_6 (z_ne hc_6 hk_8 (by simp))
    have hk_17 : w_13 x = some (.inr (1, fx)) := up_ne hw_14 hk_10 (z_ne hk_10 hk_8 (by simp))
    have hk_18 : w_13 ar = some (.inl (G.2 3, cap, .inr (.inr (.inr (.inr fa))))) := up_ne hw_14 hk_11 (z_ne hk_11 hk_8 (by simp))
    have hk_19 : w_13 q_1 = some (.inl (G.2 3, (cap + cap / 2), .inr (.inr (.inr (.inr (va_up (va_cpy fa (fun _ => none) 0 0 cap) cap (some x))))))) := up_ne hw_14 hc_5 ((Ne.symm (z_neN hd hn_12)))
    have hF := hF.put hw_14 (Or.inl (by simp))
    have hc_20 : w_13 d = some (.inr (5, [.ref la, .int (nI on), .ref ra, .int (nI (tot + 1))])) := up_self hw_14
    refine lv_iconst (v := 1) hx hb d_D_join_31 (by decide) ?_
    exact z_zret cx.1 cx.2.1 cx.rt cx.lk (by first | rfl | (simp [narrow]; done) | simp_all [narrow]) hS hZ ⟨(by dsimp only; omega), (by dsimp only; omega)⟩ d_D_join_32 (⟨q_1, rfl, hn_12, hk_19, hk_16, hc_20, hF⟩)
  · exact absurd (nI_lt ht (by omega)) c7
set_option maxHeartbeats 4000000 in
set_option maxRecDepth 100000 in
theorem c_join_first (l : Launch) (G : zG) (n0 e0 : Nat) (w : zw) (a : Nat) (md : Int32) (ha : w a = some (.inr (0, fA md (.ref e0) 0))) (x : Nat) (fx : List Value) (hxi : w x = some (.inr (1, fx))) (d la ra on tot il : Nat) (vt : Bool) (hd : w d = some (.inr (5, [.ref la, .int (nI on), .ref ra, .int (nI tot)]))) (hli : w il = some (.inr (2, [.int (zi vt), .ref a]))) (ht : tot < 4000) : Ct l G n0 e0 y_D_join b_D_join 3 (Option.some FieldType.boolean) ({ frames := 7, cells := 1, slots := 10, locals := 155 }) [.ref d, .ref il, .ref x] w (fun v w1 => ∃ q, v = some (.int 1) ∧ w q = none ∧ w1 q = some (.inl (G.2 3, 10, .inr (.inr (.inr (.inr (va_up (fun _ => none) 0 (some x))))))) ∧ w1 a = some (.inr (0, fA (md + 1) (.ref q) 1)) ∧ w1 d = some (.inr (5, [.ref la, .int (nI on), .ref ra, .int (nI (tot + 1))])) ∧ Fr [d, a] w w1) := by
  refine z_ct (by decide) (Nat.le_of_ble_eq_true rfl) ?_
  intro p e s m below meth c ls cx hnm hZ hS hl
  have hx := cx.1
  have hb := cx.2.1
  have hl : lv_has ls 3 [(0, .ref d), (1, .ref il), (2, .ref x)] := hl
  have hF : Fr [d, a] w w := Fr.rf
  refine lv_aload_n hx hb d_D_join_0 rfl (lv_at hl 0 rfl) ?_
  refine gf_D_94 cx hZ hd rfl d_D_join_1 ?_
  refine lv_sipush (v := 4000) hx hb d_D_join_4 (by decide) ?_
  refine lv_icmp_lt (tgt := 12) hx hb d_D_join_7 (by decide) (fun c7 => ?_) (fun c7 => ?_)
  · refine lv_aload_n hx hb d_D_join_12 rfl (lv_at hl 1 rfl) ?_
    refine gf_D_117 cx hZ hli rfl d_D_join_13 ?_
    refine lv_aload_n hx hb d_D_join_16 rfl (lv_at hl 2 rfl) ?_
    refine iv_D_125 (As := [.ref x]) (rest := []) cx (c_add_first l G n0 e0 w a md ha x fx hxi) ha ⟨(Nat.le_of_ble_eq_true rfl), (Nat.le_of_ble_eq_true rfl)⟩ ⟨(Nat.le_of_ble_eq_true rfl), (Nat.le_of_ble_eq_true rfl)⟩ rfl hl.1 rfl (Nat.le_of_ble_eq_true rfl) d_D_join_17 hZ hS (fun v w_2 H locs hp_3 hZ hS => ?_)
    obtain ⟨q_1, rfl, hc_4, hc_5, hc_6, hf_7⟩ := hp_3
    have hk_8 : w_2 d = some (.inr (5, [.ref la, .int (nI on), .ref ra, .int (nI tot)])) := hf_7.keep hd (by simp only [List.mem_cons, List.not_mem_nil, or_false, not_or]; exact z_ne hd ha (by simp))
    have hk_9 : w_2 il = some (.inr (2, [.int (zi vt), .ref a])) := hf_7.keep hli (by simp only [List.mem_cons, List.not_mem_nil, or_false, not_or]; exact z_ne hli ha (by simp))
    have hk_10 : w_2 x = some (.inr (1, fx)) := hf_7.keep hxi (by simp only [List.mem_cons, List.not_mem_nil, or_false, not_or]; exact z_ne hxi ha (by simp))
    have hn_11 := hF.2 _ hc_4
    have hF := hF.call hf_7 (List.forall_mem_cons.mpr ⟨Or.inl (by simp), fun _ h => absurd h List.not_mem_nil⟩)
    refine W.eq (g2 := F0 m 20 ls [.int 1]) rfl ?_
    refine lv_pop hx hb d_D_join_20 rfl ?_
    refine lv_aload_n hx hb d_D_join_21 rfl (lv_at hl 0 rfl) ?_
    refine lv_dup hx hb d_D_join_22 rfl ?_
    refine gf_D_94 cx hZ hk_8 rfl d_D_join_23 ?_
    refine lv_iconst (v := 1) hx hb d_D_join_26 (by decide) ?_
    refine lv_iadd hx hb d_D_join_27 ?_
    rw [show (((nI tot) + 1) : Int32) = nI (tot + 1) from nI_1 tot]
    refine pf_D_94 cx hZ hS hk_8 (Nat.le_of_ble_eq_true rfl) d_D_join_28 (fun w_12 H locs hw_13 hZ hS => ?_)
    have hk_14 : w_12 il = some (.inr (2, [.int (zi vt), .ref a])) := up_ne hw_13 hk_9 (z_ne hk_9 hk_8 (by simp))
    have hk_15 : w_12 a = some (.inr (0, [.int (md + 1), .ref q_1, .int 1])) := up_ne hw_13 hc_6 (z_ne hc_6 hk_8 (by simp))
    have hk_16 : w_12 x = some (.inr (1, fx)) := up_ne hw_13 hk_10 (z_ne hk_10 hk_8 (by simp))
    have hk_17 : w_12 q_1 = some (.inl (G.2 3, 10, .inr (.inr (.inr (.inr (va_up (fun _ => none) 0 (some x))))))) := up_ne hw_13 hc_5 ((Ne.symm (z_neN hd hn_11)))
    have hF := hF.put hw_13 (Or.inl (by simp))
    have hc_18 : w_12 d = some (.inr (5, [.ref la, .int (nI on), .ref ra, .int (nI (tot + 1))])) := up_self hw_13
    refine lv_iconst (v := 1) hx hb d_D_join_31 (by decide) ?_
    exact z_zret cx.1 cx.2.1 cx.rt cx.lk (by first | rfl | (simp [narrow]; done) | simp_all [narrow]) hS hZ ⟨(Nat.le_of_ble_eq_true rfl), (Nat.le_of_ble_eq_true rfl)⟩ d_D_join_32 (⟨q_1, rfl, hn_11, hk_17, hk_15, hc_18, hF⟩)
  · exact absurd (nI_lt ht (by omega)) c7
