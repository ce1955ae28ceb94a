abbrev fA (mod : Int32) (arr : Value) (n : Int32) : List Value := [.int mod, arr, .int n]
abbrev fM (na gr he de : Int64) (st : Value) (sh : Int64) (wi ne : Int32) : List Value := [.long na, .long gr, .long he, .long de, st, .long sh, .int wi, .int ne]
/-- old cells outside S stay, none goes -/
def Fr (S : List Nat) (w w1 : zw) : Prop := (∀ b, b ∉ S → w b ≠ none → w1 b = w b) ∧ ∀ b, w1 b = none → w b = none
theorem Fr.rf {S : List Nat} {w : zw} : Fr S w w := ⟨fun _ _ _ => rfl, fun _ h => h⟩
theorem Fr.put {S : List Nat} {w w1 w2 : zw} {a : Nat} {e : va_E} (h : Fr S w w1) (hw : w2 = va_up w1 a (some e)) (ha : a ∈ S ∨ w a = none) : Fr S w w2 := by
  subst hw
  refine ⟨fun b hb hn => ?_, fun b hb => ?_⟩
  · by_cases hba : b = a
    · subst hba
      rcases ha with h1 | h1
      · exact absurd h1 hb
      · exact absurd h1 hn
    · rw [va_up_ne _ _ hba]; exact h.1 b hb hn
  · by_cases hba : b = a
    · subst hba; rw [va_up_self] at hb; cases hb
    · rw [va_up_ne _ _ hba] at hb; exact h.2 b hb
theorem Fr.call {S T : List Nat} {w w1 w2 : zw} (h : Fr S w w1) (h2 : Fr T w1 w2) (hT : ∀ t ∈ T, t ∈ S ∨ w t = none) : Fr S w w2 := by
  refine ⟨fun b hb hn => ?_, fun b hb => h.2 b (h2.2 b hb)⟩
  have e1 := h.1 b hb hn
  rw [← e1]
  refine h2.1 b (fun hbT => ?_) (by rw [e1]; exact hn)
  rcases hT b hbT with q | q
  · exact hb q
  · exact hn q
theorem Fr.keep {S : List Nat} {w w1 : zw} (h : Fr S w w1) {b : Nat} {x : va_E} (hb : w b = some x) (hn : b ∉ S) : w1 b = some x := by rw [h.1 b hn (by rw [hb]; exact fun q => by cases q)]; exact hb
theorem Fr.sub {S T : List Nat} {w w1 : zw} (h : Fr S w w1) (hT : ∀ t ∈ S, t ∈ T) : Fr T w w1 := ⟨fun b hb hn => h.1 b (fun q => hb (hT b q)) hn, h.2⟩
set_option maxHeartbeats 4000000 in
set_option maxRecDepth 100000 in
theorem c_Ac_init (l : Launch) (G : zG) (n0 e0 : Nat) (w : zw) (a : Nat) : Ct l G n0 e0 y_Ac_init b_Ac_init 1 (Option.none : Option FieldType) ({ frames := 1, cells := 0, slots := 0, locals := 12 }) [.ref a] w (fun v w1 => v = none ∧ w1 = w) := by
  refine z_ct (by decide) (Nat.le_of_ble_eq_true rfl) ?_
  intro p e s m below meth c ls cx hnm hZ hS hl
  have hx := cx.1
  have hb := cx.2.1
  have hl : lv_has ls 1 [(0, .ref a)] := hl
  refine lv_aload_n hx hb d_Ac_init_0 rfl (lv_at hl 0 rfl) ?_
  refine oi_Ac_1 cx hl.1 d_Ac_init_1 (Nat.le_of_ble_eq_true rfl) (Nat.le_of_ble_eq_true rfl) ?_
  refine W.eq (g2 := F0 m 4 ls []) rfl ?_
  exact z_vret cx.1 cx.2.1 cx.rt cx.lk hS hZ ⟨(Nat.le_of_ble_eq_true rfl), (Nat.le_of_ble_eq_true rfl)⟩ d_Ac_init_4 (⟨rfl, rfl⟩)
set_option maxHeartbeats 4000000 in
set_option maxRecDepth 100000 in
theorem c_Al_init (l : Launch) (G : zG) (n0 e0 : Nat) (w : zw) (a : Nat) (x : Int32) (arr : Value) (n : Int32) (ha : w a = some (.inr (0, fA x arr n))) : Ct l G n0 e0 y_Al_init b_Al_init 1 (Option.none : Option FieldType) ({ frames := 2, cells := 0, slots := 0, locals := 32 }) [.ref a] w (fun v w1 => v = none ∧ w1 = va_up w a (some (.inr (0, fA 0 arr n)))) := by
  refine z_ct (by decide) (Nat.le_of_ble_eq_true rfl) ?_
  intro p e s m below meth c ls cx hnm hZ hS hl
  have hx := cx.1
  have hb := cx.2.1
  have hl : lv_has ls 1 [(0, .ref a)] := hl
  refine lv_aload_n hx hb d_Al_init_0 rfl (lv_at hl 0 rfl) ?_
  refine ip_Al_1 (As := []) (rest := []) cx (c_Ac_init l G n0 e0 w a) ⟨(Nat.le_of_ble_eq_true rfl), (Nat.le_of_ble_eq_true rfl)⟩ ⟨(Nat.le_of_ble_eq_true rfl), (Nat.le_of_ble_eq_true rfl)⟩ rfl hl.1 rfl (Nat.le_of_ble_eq_true rfl) d_Al_init_1 hZ hS (fun v w_1 H locs hp_2 hZ hS => ?_)
  obtain ⟨rfl, hq⟩ := hp_2
  subst w_1
  refine W.eq (g2 := F0 m 4 ls []) rfl ?_
  refine lv_aload_n hx hb d_Al_init_4 rfl (lv_at hl 0 rfl) ?_
  refine lv_iconst (v := 0) hx hb d_Al_init_5 (by decide) ?_
  refine pf_Al_7 cx hZ hS ha (Nat.le_of_ble_eq_true rfl) d_Al_init_6 (fun w_3 H locs hw_4 hZ hS => ?_)
  have hc_5 : w_3 a = some (.inr (0, [.int 0, arr, .int n])) := up_self hw_4
  exact z_vret cx.1 cx.2.1 cx.rt cx.lk hS hZ ⟨(Nat.le_of_ble_eq_true rfl), (Nat.le_of_ble_eq_true rfl)⟩ d_Al_init_9 (⟨rfl, by rw [hw_4]; first | done | (simp only [bx_uu]; done) | (simp only [bx_uu]; rfl) | rfl⟩)
set_option maxHeartbeats 4000000 in
set_option maxRecDepth 100000 in
theorem c_A_init (l : Launch) (G : zG) (n0 e0 : Nat) (w : zw) (a : Nat) (ha : w a = some (.inr (0, fA 0 .null 0))) : Ct l G n0 e0 y_A_init b_A_init 1 (Option.none : Option FieldType) ({ frames := 3, cells := 0, slots := 0, locals := 52 }) [.ref a] w (fun v w1 => v = none ∧ w1 = va_up w a (some (.inr (0, fA 0 (.ref e0) 0)))) := by
  refine z_ct (by decide) (Nat.le_of_ble_eq_true rfl) ?_
  intro p e s m below meth c ls cx hnm hZ hS hl
  have hx := cx.1
  have hb := cx.2.1
  have hl : lv_has ls 1 [(0, .ref a)] := hl
  refine lv_aload_n hx hb d_A_init_0 rfl (lv_at hl 0 rfl) ?_
  refine ip_A_1 (As := []) (rest := []) cx (c_Al_init l G n0 e0 w a 0 .null 0 ha) ⟨(Nat.le_of_ble_eq_true rfl), (Nat.le_of_ble_eq_true rfl)⟩ ⟨(Nat.le_of_ble_eq_true rfl), (Nat.le_of_ble_eq_true rfl)⟩ rfl hl.1 rfl (Nat.le_of_ble_eq_true rfl) d_A_init_1 hZ hS (fun v w_1 H locs hp_2 hZ hS => ?_)
  obtain ⟨rfl, hw_3⟩ := hp_2
  have hc_4 : w_1 a = some (.inr (0, [.int 0, .null, .int 0])) := up_self hw_3
  refine W.eq (g2 := F0 m 4 ls []) rfl ?_
  refine lv_aload_n hx hb d_A_init_4 rfl (lv_at hl 0 rfl) ?_
  refine gs_A_39 cx hS d_A_init_5 ?_
  refine pf_A_9 cx hZ hS hc_4 (Nat.le_of_ble_eq_true rfl) d_A_init_8 (fun w_5 H locs hw_6 hZ hS => ?_)
  have hc_7 : w_5 a = some (.inr (0, [.int 0, .ref e0, .int 0])) := up_self hw_6
  exact z_vret cx.1 cx.2.1 cx.rt cx.lk hS hZ ⟨(Nat.le_of_ble_eq_true rfl), (Nat.le_of_ble_eq_true rfl)⟩ d_A_init_11 (⟨rfl, by rw [hw_6, hw_3]; first | done | (simp only [bx_uu]; done) | (simp only [bx_uu]; rfl) | rfl⟩)
set_option maxHeartbeats 4000000 in
set_option maxRecDepth 100000 in
theorem c_A_size (l : Launch) (G : zG) (n0 e0 : Nat) (w : zw) (a : Nat) (x : Int32) (arr : Value) (n : Int32) (ha : w a = some (.inr (0, fA x arr n))) : Ct l G n0 e0 y_A_size b_A_size 1 (Option.some FieldType.int) ({ frames := 0, cells := 0, slots := 0, locals := 0 }) [.ref a] w (fun v w1 => v = some (.int n) ∧ w1 = w) := by
  refine z_ct (by decide) (Nat.le_of_ble_eq_true rfl) ?_
  intro p e s m below meth c ls cx hnm hZ hS hl
  have hx := cx.1
  have hb := cx.2.1
  have hl : lv_has ls 1 [(0, .ref a)] := hl
  refine lv_aload_n hx hb d_A_size_0 rfl (lv_at hl 0 rfl) ?_
  refine gf_A_48 cx hZ ha rfl d_A_size_1 ?_
  exact z_iret cx.1 cx.2.1 cx.rt cx.lk hS hZ ⟨(Nat.le_of_ble_eq_true rfl), (Nat.le_of_ble_eq_true rfl)⟩ d_A_size_4 (⟨rfl, rfl⟩)
set_option maxHeartbeats 4000000 in
set_option maxRecDepth 100000 in
theorem c_L_init (l : Launch) (G : zG) (n0 e0 : Nat) (w : zw) (a : Nat) (vt : Bool) (ha : w a = some (.inr (2, [.int 0, .null]))) : Ct l G n0 e0 y_L_init b_L_init 2 (Option.none : Option FieldType) ({ frames := 4, cells := 1, slots := 3, locals := 72 }) [.ref a, .int (zi vt)] w (fun v w1 => ∃ q, v = none ∧ w q = none ∧ w1 q = some (.inr (0, fA 0 (.ref e0) 0)) ∧ w1 a = some (.inr (2, [.int (zi vt), .ref q])) ∧ Fr [a] w w1) := by
  refine z_ct (by decide) (Nat.le_of_ble_eq_true rfl) ?_
  intro p e s m below meth c ls cx hnm hZ hS hl
  have hx := cx.1
  have hb := cx.2.1
  have hl : lv_has ls 2 [(0, .ref a), (1, .int (zi vt))] := hl
  have hF : Fr [a] w w := Fr.rf
  refine lv_aload_n hx hb d_L_init_0 rfl (lv_at hl 0 rfl) ?_
  refine oi_L_1 cx hl.1 d_L_init_1 (Nat.le_of_ble_eq_true rfl) (Nat.le_of_ble_eq_true rfl) ?_
  refine W.eq (g2 := F0 m 4 ls []) rfl ?_
  refine lv_aload_n hx hb d_L_init_4 rfl (lv_at hl 0 rfl) ?_
  refine lv_iload_n hx hb d_L_init_5 rfl (lv_at hl 1 rfl) ?_
  refine pf_L_7 cx hnm (zi_nar vt) (zi_fit vt) hZ hS ha (Nat.le_of_ble_eq_true rfl) d_L_init_6 (fun w_1 H locs hw_2 hZ hS => ?_)
  have hF := hF.put hw_2 (Or.inl (by simp))
  have hc_3 : w_1 a = some (.inr (2, [.int (zi vt), .null])) := up_self hw_2
  refine lv_aload_n hx hb d_L_init_9 rfl (lv_at hl 0 rfl) ?_
  refine nw_L_13_o cx hZ hS (Nat.le_of_ble_eq_true rfl) (Nat.le_of_ble_eq_true rfl) d_L_init_10 (fun q_4 w_5 H hq_7 hw_6 hZ hS => ?_)
  have hk_8 : w_5 a = some (.inr (2, [.int (zi vt), .null])) := up_ne hw_6 hc_3 (z_neN hc_3 hq_7)
  have hn_9 := hF.2 _ hq_7
  have hF := hF.put hw_6 (Or.inr hn_9)
  have hc_10 : w_5 q_4 = some (.inr (0, [.int 0, .null, .int 0])) := up_self hw_6
  refine lv_dup hx hb d_L_init_13 rfl ?_
  refine ip_L_15 (As := []) (rest := [.ref q_4, .ref a]) cx (c_A_init l G n0 e0 w_5 q_4 hc_10) ⟨(Nat.le_of_ble_eq_true rfl), (Nat.le_of_ble_eq_true rfl)⟩ ⟨(Nat.le_of_ble_eq_true rfl), (Nat.le_of_ble_eq_true rfl)⟩ rfl hl.1 rfl (Nat.le_of_ble_eq_true rfl) d_L_init_14 hZ hS (fun v w_11 H locs hp_12 hZ hS => ?_)
  obtain ⟨rfl, hw_13⟩ := hp_12
  have hk_14 : w_11 a = some (.inr (2, [.int (zi vt), .null])) := up_ne hw_13 hk_8 (z_neN ha hn_9)
  have hF := hF.put hw_13 (Or.inr hn_9)
  have hc_15 : w_11 q_4 = some (.inr (0, [.int 0, .ref e0, .int 0])) := up_self hw_13
  refine W.eq (g2 := F0 m 17 ls [.ref q_4, .ref a]) rfl ?_
  refine pf_L_16 cx hnm hZ hS hk_14 (Nat.le_of_ble_eq_true rfl) d_L_init_17 (fun w_16 H locs hw_17 hZ hS => ?_)
  have hk_18 : w_16 q_4 = some (.inr (0, [.int 0, .ref e0, .int 0])) := up_ne hw_17 hc_15 (Ne.symm (z_neN ha hn_9))
  have hF := hF.put hw_17 (Or.inl (by simp))
  have hc_19 : w_16 a = some (.inr (2, [.int (zi vt), .ref q_4])) := up_self hw_17
  exact z_vret cx.1 cx.2.1 cx.rt cx.lk hS hZ ⟨(Nat.le_of_ble_eq_true rfl), (Nat.le_of_ble_eq_true rfl)⟩ d_L_init_20 (⟨q_4, rfl, hn_9, hk_18, hc_19, hF⟩)
set_option maxHeartbeats 4000000 in
set_option maxRecDepth 100000 in
theorem c_M_init (l : Launch) (G : zG) (n0 e0 : Nat) (w : zw) (a : Nat) (ha : w a = some (.inr (3, fM 0 0 0 0 .null 0 0 0))) : Ct l G n0 e0 y_M_init b_M_init 1 (Option.none : Option FieldType) ({ frames := 1, cells := 1, slots := 4, locals := 12 }) [.ref a] w (fun v w1 => ∃ q, v = none ∧ w q = none ∧ w1 q = some (.inl (G.2 1, 4, .inr (.inl (fun _ => 0)))) ∧ w1 a = some (.inr (3, fM 0 0 0 0 (.ref q) 0 0 0)) ∧ Fr [a] w w1) := by
  refine z_ct (by decide) (Nat.le_of_ble_eq_true rfl) ?_
  intro p e s m below meth c ls cx hnm hZ hS hl
  have hx := cx.1
  have hb := cx.2.1
  have hl : lv_has ls 1 [(0, .ref a)] := hl
  have hF : Fr [a] w w := Fr.rf
  refine lv_aload_n hx hb d_M_init_0 rfl (lv_at hl 0 rfl) ?_
  refine oi_M_3 cx hl.1 d_M_init_1 (Nat.le_of_ble_eq_true rfl) (Nat.le_of_ble_eq_true rfl) ?_
  refine W.eq (g2 := F0 m 4 ls []) rfl ?_
  refine lv_aload_n hx hb d_M_init_4 rfl (lv_at hl 0 rfl) ?_
  refine lv_iconst (v := 4) hx hb d_M_init_5 (by decide) ?_
  refine new_l (N := 4) cx hZ hS (by decide) (by decide) (Nat.le_of_ble_eq_true rfl) (Nat.le_of_ble_eq_true rfl) (Nat.le_of_ble_eq_true rfl) d_M_init_6 (fun q_1 w_2 H hq_4 hw_3 hZ hS => ?_)
  have hk_5 : w_2 a = some (.inr (3, [.long 0, .long 0, .long 0, .long 0, .null, .long 0, .int 0, .int 0])) := up_ne hw_3 ha (z_neN ha hq_4)
  have hn_6 := hF.2 _ hq_4
  have hF := hF.put hw_3 (Or.inr hn_6)
  have hc_7 : w_2 q_1 = some (.inl (G.2 1, 4, .inr (.inl (fun _ => 0)))) := up_self hw_3
  refine pf_M_9 cx hnm hZ hS hk_5 (Nat.le_of_ble_eq_true rfl) d_M_init_8 (fun w_8 H locs hw_9 hZ hS => ?_)
  have hk_10 : w_8 q_1 = some (.inl (G.2 1, 4, .inr (.inl (fun _ => 0)))) := up_ne hw_9 hc_7 ((Ne.symm (z_neN ha hn_6)))
  have hF := hF.put hw_9 (Or.inl (by simp))
  have hc_11 : w_8 a = some (.inr (3, [.long 0, .long 0, .long 0, .long 0, .ref q_1, .long 0, .int 0, .int 0])) := up_self hw_9
  exact z_vret cx.1 cx.2.1 cx.rt cx.lk hS hZ ⟨(Nat.le_of_ble_eq_true rfl), (Nat.le_of_ble_eq_true rfl)⟩ d_M_init_11 (⟨q_1, rfl, hn_6, hk_10, hc_11, hF⟩)
set_option maxHeartbeats 4000000 in
set_option maxRecDepth 100000 in
theorem c_D_init (l : Launch) (G : zG) (n0 e0 : Nat) (w : zw) (a : Nat) (ha : w a = some (.inr (5, [.null, .int 0, .null, .int 0]))) : Ct l G n0 e0 y_D_init b_D_init 1 (Option.none : Option FieldType) ({ frames := 1, cells := 2, slots := 116, locals := 12 }) [.ref a] w (fun v w1 => ∃ q r, v = none ∧ w q = none ∧ w r = none ∧ w1 q = some (.inl (G.2 4, 100, .inr (.inr (.inr (.inr (fun _ => none)))))) ∧ w1 r = some (.inl (G.2 5, 16, .inr (.inr (.inr (.inr (fun _ => none)))))) ∧ w1 a = some (.inr (5, [.ref q, .int 0, .ref r, .int 0])) ∧ Fr [a] w w1) := by
  refine z_ct (by decide) (Nat.le_of_ble_eq_true rfl) ?_
  intro p e s m below meth c ls cx hnm hZ hS hl
  have hx := cx.1
  have hb := cx.2.1
  have hl : lv_has ls 1 [(0, .ref a)] := hl
  have hF : Fr [a] w w := Fr.rf
  refine lv_aload_n hx hb d_D_init_0 rfl (lv_at hl 0 rfl) ?_
  refine oi_D_1 cx hl.1 d_D_init_1 (Nat.le_of_ble_eq_true rfl) (Nat.le_of_ble_eq_true rfl) ?_
  refine W.eq (g2 := F0 m 4 ls []) rfl ?_
  refine lv_aload_n hx hb d_D_init_4 rfl (lv_at hl 0 rfl) ?_
  refine lv_bipush (v := 100) hx hb d_D_init_5 (by decide) ?_
  refine nq_D_9 (N := 100) cx hZ hS (by decide) (by decide) (Nat.le_of_ble_eq_true rfl) (Nat.le_of_ble_eq_true rfl) (Nat.le_of_ble_eq_true rfl) d_D_init_7 (fun q_1 w_2 H hq_4 hw_3 hZ hS => ?_)
  have hk_5 : w_2 a = some (.inr (5, [.null, .int 0, .null, .int 0])) := up_ne hw_3 ha (z_neN ha hq_4)
  have hn_6 := hF.2 _ hq_4
  have hF := hF.put hw_3 (Or.inr hn_6)
  have hc_7 : w_2 q_1 = some (.inl (G.2 4, 100, .inr (.inr (.inr (.inr (fun _ => none)))))) := up_self hw_3
  refine pf_D_11 cx hnm hZ hS hk_5 (Nat.le_of_ble_eq_true rfl) d_D_init_10 (fun w_8 H locs hw_9 hZ hS => ?_)
  have hk_10 : w_8 q_1 = some (.inl (G.2 4, 100, .inr (.inr (.inr (.inr (fun _ => none)))))) := up_ne hw_9 hc_7 ((Ne.symm (z_neN ha hn_6)))
  have hF := hF.put hw_9 (Or.inl (by simp))
  have hc_11 : w_8 a = some (.inr (5, [.ref q_1, .int 0, .null, .int 0])) := up_self hw_9
  refine lv_aload_n hx hb d_D_init_13 rfl (lv_at hl 0 rfl) ?_
  refine lv_bipush (v := 16) hx hb d_D_init_14 (by decide) ?_
  refine nq_D_15 (N := 16) cx hZ hS (by decide) (by decide) (Nat.le_of_ble_eq_true rfl) (Nat.le_of_ble_eq_true rfl) (Nat.le_of_ble_eq_true rfl) d_D_init_16 (fun q_12 w_13 H hq_15 hw_14 hZ hS => ?_)
  have hk_16 : w_13 a = some (.inr (5, [.ref q_1, .int 0, .null, .int 0])) := up_ne hw_14 hc_11 (z_neN hc_11 hq_15)
  have hk_17 : w_13 q_1 = some (.inl (G.2 4, 100, .inr (.inr (.inr (.inr (fun _ => none)))))) := up_ne hw_14 hk_10 (z_neN hk_10 hq_15)
  have hn_18 := hF.2 _ hq_15
  have hF := hF.put hw_14 (Or.inr hn_18)
  have hc_19 : w_13 q_12 = some (.inl (G.2 5, 16, .inr (.inr (.inr (.inr (fun _ => none)))))) := up_self hw_14
  refine pf_D_17 cx hnm hZ hS hk_16 (Nat.le_of_ble_eq_true rfl) d_D_init_19 (fun w_20 H locs hw_21 hZ hS => ?_)
  have hk_22 : w_20 q_1 = some (.inl (G.2 4, 100, .inr (.inr (.inr (.inr (fun _ => none)))))) := up_ne hw_21 hk_17 ((Ne.symm (z_neN ha hn_6)))
  have hk_23 : w_20 q_12 = some (.inl (G.2 5, 16, .inr (.inr (.inr (.inr (fun _ => none)))))) := up_ne hw_21 hc_19 ((Ne.symm (z_neN ha hn_18)))
  have hF := hF.put hw_21 (Or.inl (by simp))
  have hc_24 : w_20 a = some (.inr (5, [.ref q_1, .int 0, .ref q_12, .int 0])) := up_self hw_21
  exact z_vret cx.1 cx.2.1 cx.rt cx.lk hS hZ ⟨(Nat.le_of_ble_eq_true rfl), (Nat.le_of_ble_eq_true rfl)⟩ d_D_init_22 (⟨q_1, q_12, rfl, hn_6, hn_18, hk_22, hk_23, hc_24, hF⟩)
set_option maxHeartbeats 4000000 in
set_option maxRecDepth 100000 in
theorem c_tellB (l : Launch) (G : zG) (n0 e0 : Nat) (w : zw) (b li sw al ar : Nat) (f : Nat → Int32) (vt : Bool) (md nn what : Int32) (hb0 : w b = some (.inr (4, fB li sw f))) (hli : w li = some (.inr (2, [.int (zi vt), .ref al]))) (ha : w al = some (.inr (0, fA md (.ref ar) nn))) : Ct l G n0 e0 y_B_tell b_B_tell 2 (Option.some FieldType.int) ({ frames := 1, cells := 0, slots := 0, locals := 20 }) [.ref b, .int what] w (fun v w1 => v = some (.int (tellB vt nn f what)) ∧ w1 = w) := by
  refine z_ct (by decide) (Nat.le_of_ble_eq_true rfl) ?_
  intro p e s m below meth c ls cx hnm hZ hS hl
  have hx := cx.1
  have hb := cx.2.1
  have hl : lv_has ls 2 [(0, .ref b), (1, .int what)] := hl
  refine lv_iload_n hx hb d_B_tell_0 rfl (lv_at hl 1 rfl) ?_
  by_cases e1_0 : what = 0
  · subst e1_0
    refine lv_tableIn (tgt := 36) (off := 35) hx hb d_B_tell_1 (by decide) (by decide) (by decide) (by decide) ?_
    refine lv_aload_n hx hb d_B_tell_36 rfl (lv_at hl 0 rfl) ?_
    refine gf_B_7 cx hZ hb0 rfl d_B_tell_37 ?_
    refine gf_B_40 cx hZ hli rfl d_B_tell_40 ?_
    refine lv_if_eq (tgt := 50) hx hb d_B_tell_43 (by decide) (fun c43 => ?_) (fun c43 => ?_)
    · refine lv_iconst (v := 1) hx hb d_B_tell_50 (by decide) ?_
      exact z_iret cx.1 cx.2.1 cx.rt cx.lk hS hZ ⟨(Nat.le_of_ble_eq_true rfl), (Nat.le_of_ble_eq_true rfl)⟩ d_B_tell_51 (⟨by simp_all [tellB, zi_0, zi_n0], rfl⟩)
    · refine lv_iconst (v := 2) hx hb d_B_tell_46 (by decide) ?_
      refine lv_goto (tgt := 51) hx hb d_B_tell_47 (by decide) ?_
      exact z_iret cx.1 cx.2.1 cx.rt cx.lk hS hZ ⟨(Nat.le_of_ble_eq_true rfl), (Nat.le_of_ble_eq_true rfl)⟩ d_B_tell_51 (⟨by simp_all [tellB, zi_0, zi_n0], rfl⟩)
  · skip
    by_cases e1_1 : what = 1
    · subst e1_1
      refine lv_tableIn (tgt := 52) (off := 51) hx hb d_B_tell_1 (by decide) (by decide) (by decide) (by decide) ?_
      refine lv_aload_n hx hb d_B_tell_52 rfl (lv_at hl 0 rfl) ?_
      refine gf_B_49 cx hZ hb0 rfl d_B_tell_53 ?_
      exact z_iret cx.1 cx.2.1 cx.rt cx.lk hS hZ ⟨(Nat.le_of_ble_eq_true rfl), (Nat.le_of_ble_eq_true rfl)⟩ d_B_tell_56 (⟨by simp_all [tellB, zi_0, zi_n0], rfl⟩)
    · skip
      by_cases e1_2 : what = 2
      · subst e1_2
        refine lv_tableIn (tgt := 57) (off := 56) hx hb d_B_tell_1 (by decide) (by decide) (by decide) (by decide) ?_
        refine lv_aload_n hx hb d_B_tell_57 rfl (lv_at hl 0 rfl) ?_
        refine gf_B_55 cx hZ hb0 rfl d_B_tell_58 ?_
        exact z_iret cx.1 cx.2.1 cx.rt cx.lk hS hZ ⟨(Nat.le_of_ble_eq_true rfl), (Nat.le_of_ble_eq_true rfl)⟩ d_B_tell_61 (⟨by simp_all [tellB, zi_0, zi_n0], rfl⟩)
      · skip
        by_cases e1_3 : what = 3
        · subst e1_3
          refine lv_tableIn (tgt := 62) (off := 61) hx hb d_B_tell_1 (by decide) (by decide) (by decide) (by decide) ?_
          refine lv_aload_n hx hb d_B_tell_62 rfl (lv_at hl 0 rfl) ?_
          refine gf_B_60 cx hZ hb0 rfl d_B_tell_63 ?_
          exact z_iret cx.1 cx.2.1 cx.rt cx.lk hS hZ ⟨(Nat.le_of_ble_eq_true rfl), (Nat.le_of_ble_eq_true rfl)⟩ d_B_tell_66 (⟨by simp_all [tellB, zi_0, zi_n0], rfl⟩)
        · skip
          by_cases e1_4 : what = 4
          · subst e1_4
            refine lv_tableIn (tgt := 67) (off := 66) hx hb d_B_tell_1 (by decide) (by decide) (by decide) (by decide) ?_
            refine lv_aload_n hx hb d_B_tell_67 rfl (lv_at hl 0 rfl) ?_
            refine gf_B_7 cx hZ hb0 rfl d_B_tell_68 ?_
            refine gf_B_62 cx hZ hli rfl d_B_tell_71 ?_
            refine iv_B_66 (As := []) (rest := []) cx (c_A_size l G n0 e0 w al md (.ref ar) nn ha) ha ⟨(Nat.le_of_ble_eq_true rfl), (Nat.le_of_ble_eq_true rfl)⟩ ⟨(Nat.le_of_ble_eq_true rfl), (Nat.le_of_ble_eq_true rfl)⟩ rfl hl.1 rfl (Nat.le_of_ble_eq_true rfl) d_B_tell_74 hZ hS (fun v w_1 H locs hp_2 hZ hS => ?_)
            obtain ⟨rfl, hq⟩ := hp_2
            subst w_1
            refine W.eq (g2 := F0 m 77 ls [.int nn]) rfl ?_
            exact z_iret cx.1 cx.2.1 cx.rt cx.lk hS hZ ⟨(Nat.le_of_ble_eq_true rfl), (Nat.le_of_ble_eq_true rfl)⟩ d_B_tell_77 (⟨by simp_all [tellB, zi_0, zi_n0], rfl⟩)
          · skip
            have te1_0 := lv_neT e1_0 (show (0 : Int32).toInt = 0 from by decide)
            have te1_1 := lv_neT e1_1 (show (1 : Int32).toInt = 1 from by decide)
            have te1_2 := lv_neT e1_2 (show (2 : Int32).toInt = 2 from by decide)
            have te1_3 := lv_neT e1_3 (show (3 : Int32).toInt = 3 from by decide)
            have te1_4 := lv_neT e1_4 (show (4 : Int32).toInt = 4 from by decide)
            refine lv_tableOut (tgt := 78) hx hb d_B_tell_1 (by omega) (by decide) ?_
            refine lv_aload_n hx hb d_B_tell_78 rfl (lv_at hl 0 rfl) ?_
            refine gf_B_33 cx hZ hb0 rfl d_B_tell_79 ?_
            exact z_iret cx.1 cx.2.1 cx.rt cx.lk hS hZ ⟨(Nat.le_of_ble_eq_true rfl), (Nat.le_of_ble_eq_true rfl)⟩ d_B_tell_82 (⟨by simp_all [tellB, zi_0, zi_n0], rfl⟩)
