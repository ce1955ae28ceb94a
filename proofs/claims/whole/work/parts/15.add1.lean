/-- a measure: natural, greatest, height, depth, stretches, shrinks, within, nested inside -/
abbrev MT : Type := Int64 × Int64 × Int64 × Int64 × (Nat → Int64) × Int64 × Int32 × Int32
abbrev fMt (u : MT) (r : Nat) : List Value := fM u.1 u.2.1 u.2.2.1 u.2.2.2.1 (.ref r) u.2.2.2.2.2.1 u.2.2.2.2.2.2.1 u.2.2.2.2.2.2.2
def mGlue (f : Nat → Int32) (u : MT) : (Nat → Int64) × Int64 × Int32 × Int32 := (vp_updL u.2.2.2.2.1 (f 7).toNatClampNeg (u.2.2.2.2.1 (f 7).toNatClampNeg + (f 6).toInt64), u.2.2.2.2.2.1 + (f 8).toInt64, u.2.2.2.2.2.2.1 + (1 + f 10), if u.2.2.2.2.2.2.2 < f 11 then f 11 else u.2.2.2.2.2.2.2)
def mStep (vt : Bool) (f : Nat → Int32) (u : MT) : MT := if vt = true then (dwN f u.1 u.2.2.2.1, dwG f u.2.1, u.2.2.1, dwD f, mGlue f u) else (u.1 + (f 1).toInt64, u.2.1, acH f u.2.2.1, acD f u.2.2.2.1, mGlue f u)
def mAll (vt : Bool) (its : Nat → Nat → Int32) : Nat → MT
  | 0 => (0, 0, 0, 0, fun _ => 0, 0, 0, 0)
  | n + 1 => mStep vt (its n) (mAll vt its n)
def mLim (vt : Bool) (lim : Int32) (u : MT) : MT := if vt = true then (if u.2.2.2.1 ≤ lim.toInt64 then u.1 else u.1 + (u.2.2.2.1 - lim.toInt64), u.2.1, u.2.2.1, if u.2.2.2.1 ≤ lim.toInt64 then u.2.2.2.1 else lim.toInt64, u.2.2.2.2) else u
set_option maxHeartbeats 4000000 in
set_option maxRecDepth 100000 in
theorem c_add_room (l : Launch) (G : zG) (n0 e0 : Nat) (w : zw) (a ar cap n : Nat) (md : Int32) (fa : Nat → Option Nat) (ha : w a = some (.inr (0, fA md (.ref ar) (nI n)))) (har : w ar = some (.inl (G.2 3, cap, .inr (.inr (.inr (.inr fa)))))) (hn : n < cap) (hcc : cap ≤ 60000) (x : Nat) (fx : List Value) (hxi : w x = some (.inr (1, fx)))  : Ct l G n0 e0 y_A_add_O b_A_add_O 2 (Option.some FieldType.boolean) ({ frames := 5, cells := 0, slots := 0, locals := 114 }) [.ref a, .ref x] w (fun v w1 => v = some (.int 1) ∧ w1 a = some (.inr (0, fA (md + 1) (.ref ar) (nI (n + 1)))) ∧ w1 ar = some (.inl (G.2 3, cap, .inr (.inr (.inr (.inr (va_up fa n (some x))))))) ∧ Fr [a, ar] w w1) := by
  refine z_ct (by decide) (Nat.le_of_ble_eq_true rfl) ?_
  intro p e s m below meth c ls cx hnm hZ hS hl
  have hx := cx.1
  have hb := cx.2.1
  have hl : lv_has ls 2 [(0, .ref a), (1, .ref x)] := hl
  have hF : Fr [a, ar] w w := Fr.rf
  refine lv_aload_n hx hb d_A_add_O_0 rfl (lv_at hl 0 rfl) ?_
  refine lv_dup hx hb d_A_add_O_1 rfl ?_
  refine gf_A_63 cx hZ ha rfl d_A_add_O_2 ?_
  refine lv_iconst (v := 1) hx hb d_A_add_O_5 (by decide) ?_
  refine lv_iadd hx hb d_A_add_O_6 ?_
  refine pf_A_63 cx hZ hS ha (Nat.le_of_ble_eq_true rfl) d_A_add_O_7 (fun w_1 H locs hw_2 hZ hS => ?_)
  have hk_3 : w_1 x = some (.inr (1, fx)) := up_ne hw_2 hxi (z_ne hxi ha (by simp))
  have hk_4 : w_1 ar = some (.inl (G.2 3, cap, .inr (.inr (.inr (.inr fa))))) := up_ne hw_2 har (z_ne har ha (by simp))
  have hF := hF.put hw_2 (Or.inl (by simp))
  have hc_5 : w_1 a = some (.inr (0, [.int (md + 1), .ref ar, .int (nI n)])) := up_self hw_2
  refine lv_aload_n hx hb d_A_add_O_10 rfl (lv_at hl 0 rfl) ?_
  refine lv_aload_n hx hb d_A_add_O_11 rfl (lv_at hl 1 rfl) ?_
  refine lv_aload_n hx hb d_A_add_O_12 rfl (lv_at hl 0 rfl) ?_
  refine gf_A_9 cx hZ hc_5 rfl d_A_add_O_13 ?_
  refine lv_aload_n hx hb d_A_add_O_16 rfl (lv_at hl 0 rfl) ?_
  refine gf_A_48 cx hZ hc_5 rfl d_A_add_O_17 ?_
  refine iv_A_131 (As := [.ref x, .ref ar, .int (nI n)]) (rest := []) cx (c_add3_room l G n0 e0 w_1 a ar cap n (md + 1) fa hc_5 hk_4 hn hcc x fx hk_3) hc_5 ⟨(Nat.le_of_ble_eq_true rfl), (Nat.le_of_ble_eq_true rfl)⟩ ⟨(Nat.le_of_ble_eq_true rfl), (Nat.le_of_ble_eq_true rfl)⟩ rfl hl.1 rfl (Nat.le_of_ble_eq_true rfl) d_A_add_O_20 hZ hS (fun v w_6 H locs hp_7 hZ hS => ?_)
  obtain ⟨rfl, hc_8, hc_9, hf_10⟩ := hp_7
  have hk_11 : w_6 x = some (.inr (1, fx)) := hf_10.keep hk_3 (by simp only [List.mem_cons, List.not_mem_nil, or_false, not_or]; exact ⟨z_ne hk_3 hc_5 (by simp), z_ne hk_3 hk_4 (by simp)⟩)
  have hF := hF.call hf_10 (List.forall_mem_cons.mpr ⟨Or.inl (by simp), List.forall_mem_cons.mpr ⟨Or.inl (by simp), fun _ h => absurd h List.not_mem_nil⟩⟩)
  refine W.eq (g2 := F0 m 23 ls []) rfl ?_
  refine lv_iconst (v := 1) hx hb d_A_add_O_23 (by decide) ?_
  exact z_zret cx.1 cx.2.1 cx.rt cx.lk (by first | rfl | (simp [narrow]; done) | simp_all [narrow]) hS hZ ⟨(Nat.le_of_ble_eq_true rfl), (Nat.le_of_ble_eq_true rfl)⟩ d_A_add_O_24 (⟨rfl, hc_8, hc_9, hF⟩)
set_option maxHeartbeats 4000000 in
set_option maxRecDepth 100000 in
theorem c_add_full (l : Launch) (G : zG) (n0 e0 : Nat) (w : zw) (a ar cap : Nat) (md : Int32) (fa : Nat → Option Nat) (ha : w a = some (.inr (0, fA md (.ref ar) (nI cap)))) (har : w ar = some (.inl (G.2 3, cap, .inr (.inr (.inr (.inr fa)))))) (hc : 10 ≤ cap) (hcc : cap ≤ 60000) (hel : ∀ i : Nat, i < cap → ∀ y : Nat, fa i = some y → ∃ fs, w y = some (.inr (1, fs))) (x : Nat) (fx : List Value) (hxi : w x = some (.inr (1, fx)))  : Ct l G n0 e0 y_A_add_O b_A_add_O 2 (Option.some FieldType.boolean) ({ frames := 6, cells := 1, slots := cap + cap / 2, locals := 134 }) [.ref a, .ref x] w (fun v w1 => ∃ q, v = some (.int 1) ∧ w q = none ∧ w1 q = some (.inl (G.2 3, cap + cap / 2, .inr (.inr (.inr (.inr (va_up (va_cpy fa (fun _ => none) 0 0 cap) cap (some x))))))) ∧ w1 a = some (.inr (0, fA (md + 1) (.ref q) (nI (cap + 1)))) ∧ Fr [a] w w1) := by
  refine z_ct (by decide) (Nat.le_of_ble_eq_true rfl) ?_
  intro p e s m below meth c ls cx hnm hZ hS hl
  have hx := cx.1
  have hb := cx.2.1
  have hl : lv_has ls 2 [(0, .ref a), (1, .ref x)] := hl
  have hF : Fr [a] w w := Fr.rf
  refine lv_aload_n hx hb d_A_add_O_0 rfl (lv_at hl 0 rfl) ?_
  refine lv_dup hx hb d_A_add_O_1 rfl ?_
  refine gf_A_63 cx hZ ha rfl d_A_add_O_2 ?_
  refine lv_iconst (v := 1) hx hb d_A_add_O_5 (by decide) ?_
  refine lv_iadd hx hb d_A_add_O_6 ?_
  refine pf_A_63 cx hZ hS ha (Nat.le_of_ble_eq_true rfl) d_A_add_O_7 (fun w_1 H locs hw_2 hZ hS => ?_)
  have hk_3 : w_1 x = some (.inr (1, fx)) := up_ne hw_2 hxi (z_ne hxi ha (by simp))
  have hk_4 : w_1 ar = some (.inl (G.2 3, cap, .inr (.inr (.inr (.inr fa))))) := up_ne hw_2 har (z_ne har ha (by simp))
  have hF := hF.put hw_2 (Or.inl (by simp))
  have hc_5 : w_1 a = some (.inr (0, [.int (md + 1), .ref ar, .int (nI cap)])) := up_self hw_2
  refine lv_aload_n hx hb d_A_add_O_10 rfl (lv_at hl 0 rfl) ?_
  refine lv_aload_n hx hb d_A_add_O_11 rfl (lv_at hl 1 rfl) ?_
  refine lv_aload_n hx hb d_A_add_O_12 rfl (lv_at hl 0 rfl) ?_
  refine gf_A_9 cx hZ hc_5 rfl d_A_add_O_13 ?_
  refine lv_aload_n hx hb d_A_add_O_16 rfl (lv_at hl 0 rfl) ?_
  refine gf_A_48 cx hZ hc_5 rfl d_A_add_O_17 ?_
  refine iv_A_131 (As := [.ref x, .ref ar, .int (nI cap)]) (rest := []) cx (c_add3_full l G n0 e0 w_1 a ar cap (md + 1) fa hc_5 hk_4 hc hcc (fun i hi y hy => by obtain ⟨fs, h⟩ := hel i hi y hy; exact ⟨fs, up_ne hw_2 h (z_ne h ha (by simp))⟩) x fx hk_3) hc_5 ⟨(Nat.le_of_ble_eq_true rfl), (Nat.le_of_ble_eq_true rfl)⟩ ⟨(by dsimp only; omega), (by dsimp only; omega)⟩ rfl hl.1 rfl (Nat.le_of_ble_eq_true rfl) d_A_add_O_20 hZ hS (fun v w_7 H locs hp_8 hZ hS => ?_)
  obtain ⟨q_6, rfl, hc_9, hc_10, hc_11, hf_12⟩ := hp_8
  have hk_13 : w_7 x = some (.inr (1, fx)) := hf_12.keep hk_3 (by simp only [List.mem_cons, List.not_mem_nil, or_false, not_or]; exact z_ne hk_3 hc_5 (by simp))
  have hk_14 : w_7 ar = some (.inl (G.2 3, cap, .inr (.inr (.inr (.inr fa))))) := hf_12.keep hk_4 (by simp only [List.mem_cons, List.not_mem_nil, or_false, not_or]; exact z_ne hk_4 hc_5 (by simp))
  have hn_15 := hF.2 _ hc_9
  have hF := hF.call hf_12 (List.forall_mem_cons.mpr ⟨Or.inl (by simp), fun _ h => absurd h List.not_mem_nil⟩)
  refine W.eq (g2 := F0 m 23 ls []) rfl ?_
  refine lv_iconst (v := 1) hx hb d_A_add_O_23 (by decide) ?_
  exact z_zret cx.1 cx.2.1 cx.rt cx.lk (by first | rfl | (simp [narrow]; done) | simp_all [narrow]) hS hZ ⟨(by dsimp only; omega), (by dsimp only; omega)⟩ d_A_add_O_24 (⟨q_6, rfl, hn_15, hc_10, hc_11, hF⟩)
set_option maxHeartbeats 4000000 in
set_option maxRecDepth 100000 in
theorem c_add_first (l : Launch) (G : zG) (n0 e0 : Nat) (w : zw) (a : Nat) (md : Int32) (ha : w a = some (.inr (0, fA md (.ref e0) 0))) (x : Nat) (fx : List Value) (hxi : w x = some (.inr (1, fx)))  : Ct l G n0 e0 y_A_add_O b_A_add_O 2 (Option.some FieldType.boolean) ({ frames := 6, cells := 1, slots := 10, locals := 134 }) [.ref a, .ref x] w (fun v w1 => ∃ q, v = some (.int 1) ∧ w q = none ∧ w1 q = some (.inl (G.2 3, 10, .inr (.inr (.inr (.inr (va_up (fun _ => none) 0 (some x))))))) ∧ w1 a = some (.inr (0, fA (md + 1) (.ref q) 1)) ∧ Fr [a] w w1) := by
  refine z_ct (by decide) (Nat.le_of_ble_eq_true rfl) ?_
  intro p e s m below meth c ls cx hnm hZ hS hl
  have hx := cx.1
  have hb := cx.2.1
  have hl : lv_has ls 2 [(0, .ref a), (1, .ref x)] := hl
  have hF : Fr [a] w w := Fr.rf
  refine lv_aload_n hx hb d_A_add_O_0 rfl (lv_at hl 0 rfl) ?_
  refine lv_dup hx hb d_A_add_O_1 rfl ?_
  refine gf_A_63 cx hZ ha rfl d_A_add_O_2 ?_
  refine lv_iconst (v := 1) hx hb d_A_add_O_5 (by decide) ?_
  refine lv_iadd hx hb d_A_add_O_6 ?_
  refine pf_A_63 cx hZ hS ha (Nat.le_of_ble_eq_true rfl) d_A_add_O_7 (fun w_1 H locs hw_2 hZ hS => ?_)
  have hk_3 : w_1 x = some (.inr (1, fx)) := up_ne hw_2 hxi (z_ne hxi ha (by simp))
  have hF := hF.put hw_2 (Or.inl (by simp))
  have hc_4 : w_1 a = some (.inr (0, [.int (md + 1), .ref e0, .int 0])) := up_self hw_2
  refine lv_aload_n hx hb d_A_add_O_10 rfl (lv_at hl 0 rfl) ?_
  refine lv_aload_n hx hb d_A_add_O_11 rfl (lv_at hl 1 rfl) ?_
  refine lv_aload_n hx hb d_A_add_O_12 rfl (lv_at hl 0 rfl) ?_
  refine gf_A_9 cx hZ hc_4 rfl d_A_add_O_13 ?_
  refine lv_aload_n hx hb d_A_add_O_16 rfl (lv_at hl 0 rfl) ?_
  refine gf_A_48 cx hZ hc_4 rfl d_A_add_O_17 ?_
  refine iv_A_131 (As := [.ref x, .ref e0, .int 0]) (rest := []) cx (c_add3_first l G n0 e0 w_1 a (md + 1) hc_4 x fx hk_3) hc_4 ⟨(Nat.le_of_ble_eq_true rfl), (Nat.le_of_ble_eq_true rfl)⟩ ⟨(Nat.le_of_ble_eq_true rfl), (Nat.le_of_ble_eq_true rfl)⟩ rfl hl.1 rfl (Nat.le_of_ble_eq_true rfl) d_A_add_O_20 hZ hS (fun v w_6 H locs hp_7 hZ hS => ?_)
  obtain ⟨q_5, rfl, hc_8, hc_9, hc_10, hf_11⟩ := hp_7
  have hk_12 : w_6 x = some (.inr (1, fx)) := hf_11.keep hk_3 (by simp only [List.mem_cons, List.not_mem_nil, or_false, not_or]; exact z_ne hk_3 hc_4 (by simp))
  have hn_13 := hF.2 _ hc_8
  have hF := hF.call hf_11 (List.forall_mem_cons.mpr ⟨Or.inl (by simp), fun _ h => absurd h List.not_mem_nil⟩)
  refine W.eq (g2 := F0 m 23 ls []) rfl ?_
  refine lv_iconst (v := 1) hx hb d_A_add_O_23 (by decide) ?_
  exact z_zret cx.1 cx.2.1 cx.rt cx.lk (by first | rfl | (simp [narrow]; done) | simp_all [narrow]) hS hZ ⟨(Nat.le_of_ble_eq_true rfl), (Nat.le_of_ble_eq_true rfl)⟩ d_A_add_O_24 (⟨q_5, rfl, hn_13, hc_9, hc_10, hF⟩)
