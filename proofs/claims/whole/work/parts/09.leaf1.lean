theorem z_lret {p : Program} {l : Launch} {e : Env} {R : Room} {s : State} {m : MethodId} {args : Array Value} {below : List Frame} {meth : Method} {c : Code} {H : Heap} {locs : List Loc} {cells slots : Nat} {cc : ByteArray} {pc : Nat} {ls : Array Slot} {D : va_G} {cl : List vw_C} {n0 : Nat} {w : zw} {post : Option Value → zw → Prop} {mc ms : Nat} {v : Int64} (hexec : p.tables.exec = Jvm.exec) (hb : c.code = cc) (hr : meth.sig.returnType = some .long) (hlocks : meth.locks = false) (hS : va_S (zA n0) s.heap H locs) (hZ : Zw D cl (zA n0) w H) (hcs : cells ≤ mc ∧ slots ≤ ms) (hdg : decode cc pc = .ok (.lreturn, 1)) (hp : post (some (.long v)) w) : W p l e R s m args below meth c H locs cells slots (MQ below (zQ D cl n0 post) args s mc ms (zA n0)) (F0 m pc ls [.long v]) :=
  W.widen hcs.1 hcs.2 (W.lret hexec hb hr (z_qc hS hZ hp) hS.2.2 hdg hlocks)
/-- a boolean as an int -/
def zi (b : Bool) : Int32 := if b then 1 else 0
theorem zi_t : zi true = 1 := rfl
theorem zi_f : zi false = 0 := rfl
theorem zi_nar (b : Bool) : narrow .boolean (.int (zi b)) = .int (zi b) := by cases b <;> rfl
theorem zi_fit (b : Bool) : fits .boolean (.int (zi b)) = true := by cases b <;> rfl
theorem zi_0 (b : Bool) : zi b = 0 ↔ b = false := by cases b <;> decide
theorem zi_n0 (b : Bool) : ¬ zi b = 0 ↔ b = true := by cases b <;> decide
/-- a SIZE -/
def szL (v : Int64) : Bool := decide (-1073741823 ≤ v) && decide (v ≤ 1073741823)
theorem szL_lo {x : Int64} (h : x < -1073741823) : szL x = false := by
  simp only [szL, Bool.and_eq_false_iff, decide_eq_false_iff_not]
  exact Or.inl (Int64.not_le.mpr h)
theorem szL_hi {x : Int64} (h : 1073741823 < x) : szL x = false := by
  simp only [szL, Bool.and_eq_false_iff, decide_eq_false_iff_not]
  exact Or.inr (Int64.not_le.mpr h)
theorem szL_in {x : Int64} (h : ¬ x < -1073741823) (h2 : ¬ 1073741823 < x) : szL x = true := by
  simp only [szL, Bool.and_eq_true, decide_eq_true_eq]
  exact ⟨Int64.not_lt.mp h, Int64.not_lt.mp h2⟩
def szI (v : Int32) : Bool := szL v.toInt64
def regB (k : Int32) : Bool := !decide (k < 0) && decide (k < 16)
def wantedL (spec amount : Int32) (n : Int64) : Int64 := if spec = 2 then amount.toInt64 else if spec = 1 then n + amount.toInt64 else n
def setW (v : Int64) : Int32 := (if (if v < 2147483647 then v else 2147483647) < (-2147483647) then (-2147483647) else (if v < 2147483647 then v else 2147483647)).toInt32
/-- the fields of an item -/
abbrev fI (f : Nat → Int32) : List Value := [.int (f 0), .int (f 1), .int (f 2), .int (f 3), .int (f 4), .int (f 5), .int (f 6), .int (f 7), .int (f 8), .int (f 9), .int (f 10), .int (f 11)]
def mkI (k w h d run num str ord shr shf wit nes : Int32) : Nat → Int32 := fun i => match i with
  | 0 => k | 1 => w | 2 => h | 3 => d | 4 => run | 5 => num | 6 => str | 7 => ord | 8 => shr | 9 => shf | 10 => wit | _ => nes
/-- what an item tells -/
def tellI (f : Nat → Int32) (what : Int32) : Int32 := if what = 0 then f 0 else if what = 1 then (if f 4 &&& 1 ≠ 0 then (-2147483648) else if f 0 = 7 then f 5 else f 1) else if what = 2 then (if f 4 &&& 2 ≠ 0 then (-2147483648) else f 2) else if what = 3 then (if f 4 &&& 4 ≠ 0 then (-2147483648) else f 3) else if what = 4 then (if f 0 = 5 then f 6 else f 9) else f 8
set_option maxHeartbeats 4000000 in
set_option maxRecDepth 100000 in
theorem c_isSize (l : Launch) (G : zG) (n0 e0 : Nat) (x : Int64) (w : zw) : Ct l G n0 e0 y_D_isSize b_D_isSize 2 (Option.some FieldType.boolean) ({ frames := 0, cells := 0, slots := 0, locals := 0 }) [.long x] w (fun v w1 => v = some (.int (zi (szL x))) ∧ w1 = w) := by
  refine z_ct (by decide) (Nat.le_of_ble_eq_true rfl) ?_
  intro p e s m below meth c ls cx hnm hZ hS hl
  have hx := cx.1
  have hb := cx.2.1
  have hl : lv_has ls 2 [(0, .long x)] := hl
  refine lv_lload_n hx hb d_D_isSize_0 rfl (lv_at hl 0 rfl) ?_
  refine lc_D_174 cx d_D_isSize_1 ?_
  refine W.lcmp hx hb d_D_isSize_4 ?_
  refine lv_if_lt (tgt := 20) hx hb d_D_isSize_5 (by decide) (fun c5 => ?_) (fun c5 => ?_)
  · have c5 := (lg_cmp_lt _ _).mp c5
    refine lv_iconst (v := 0) hx hb d_D_isSize_20 (by decide) ?_
    exact z_zret cx.1 cx.2.1 cx.rt cx.lk (by first | rfl | (simp [narrow]; done) | simp_all [narrow]) hS hZ ⟨(Nat.le_of_ble_eq_true rfl), (Nat.le_of_ble_eq_true rfl)⟩ d_D_isSize_21 (by first | exact ⟨by rw [szL_lo c5]; rfl, rfl⟩ | exact ⟨by rw [szL_hi c13]; rfl, rfl⟩ | exact ⟨by rw [szL_in c5 c13]; rfl, rfl⟩)
  · have c5 := fun q => c5 ((lg_cmp_lt _ _).mpr q)
    refine lv_lload_n hx hb d_D_isSize_8 rfl (lv_at hl 0 rfl) ?_
    refine lc_D_176 cx d_D_isSize_9 ?_
    refine W.lcmp hx hb d_D_isSize_12 ?_
    refine lv_if_gt (tgt := 20) hx hb d_D_isSize_13 (by decide) (fun c13 => ?_) (fun c13 => ?_)
    · have c13 := (lg_cmp_gt _ _).mp c13
      refine lv_iconst (v := 0) hx hb d_D_isSize_20 (by decide) ?_
      exact z_zret cx.1 cx.2.1 cx.rt cx.lk (by first | rfl | (simp [narrow]; done) | simp_all [narrow]) hS hZ ⟨(Nat.le_of_ble_eq_true rfl), (Nat.le_of_ble_eq_true rfl)⟩ d_D_isSize_21 (by first | exact ⟨by rw [szL_lo c5]; rfl, rfl⟩ | exact ⟨by rw [szL_hi c13]; rfl, rfl⟩ | exact ⟨by rw [szL_in c5 c13]; rfl, rfl⟩)
    · have c13 := fun q => c13 ((lg_cmp_gt _ _).mpr q)
      refine lv_iconst (v := 1) hx hb d_D_isSize_16 (by decide) ?_
      refine lv_goto (tgt := 21) hx hb d_D_isSize_17 (by decide) ?_
      exact z_zret cx.1 cx.2.1 cx.rt cx.lk (by first | rfl | (simp [narrow]; done) | simp_all [narrow]) hS hZ ⟨(Nat.le_of_ble_eq_true rfl), (Nat.le_of_ble_eq_true rfl)⟩ d_D_isSize_21 (by first | exact ⟨by rw [szL_lo c5]; rfl, rfl⟩ | exact ⟨by rw [szL_hi c13]; rfl, rfl⟩ | exact ⟨by rw [szL_in c5 c13]; rfl, rfl⟩)
set_option maxHeartbeats 4000000 in
set_option maxRecDepth 100000 in
theorem c_areSizes (l : Launch) (G : zG) (n0 e0 : Nat) (x y z : Int32) (w : zw) : Ct l G n0 e0 y_D_areSizes b_D_areSizes 3 (Option.some FieldType.boolean) ({ frames := 1, cells := 0, slots := 0, locals := 21 }) [.int x, .int y, .int z] w (fun v w1 => v = some (.int (zi (szI x && szI y && szI z))) ∧ w1 = w) := by
  refine z_ct (by decide) (Nat.le_of_ble_eq_true rfl) ?_
  intro p e s m below meth c ls cx hnm hZ hS hl
  have hx := cx.1
  have hb := cx.2.1
  have hl : lv_has ls 3 [(0, .int x), (1, .int y), (2, .int z)] := hl
  refine lv_iload_n hx hb d_D_areSizes_0 rfl (lv_at hl 0 rfl) ?_
  refine lv_i2l hx hb d_D_areSizes_1 rfl ?_
  refine is_D_56 (As := [.long x.toInt64]) (rest := []) cx (c_isSize l G n0 e0 (x.toInt64) w) ⟨(Nat.le_of_ble_eq_true rfl), (Nat.le_of_ble_eq_true rfl)⟩ ⟨(Nat.le_of_ble_eq_true rfl), (Nat.le_of_ble_eq_true rfl)⟩ rfl hl.1 rfl (Nat.le_of_ble_eq_true rfl) d_D_areSizes_2 hZ hS (fun v w_1 H locs hp_2 hZ hS => ?_)
  obtain ⟨rfl, hq⟩ := hp_2
  subst w_1
  refine W.eq (g2 := F0 m 5 ls [.int (zi (szL x.toInt64))]) rfl ?_
  refine lv_if_eq (tgt := 28) hx hb d_D_areSizes_5 (by decide) (fun c5 => ?_) (fun c5 => ?_)
  · refine lv_iconst (v := 0) hx hb d_D_areSizes_28 (by decide) ?_
    exact z_zret cx.1 cx.2.1 cx.rt cx.lk (by first | rfl | (simp [narrow]; done) | simp_all [narrow]) hS hZ ⟨(Nat.le_of_ble_eq_true rfl), (Nat.le_of_ble_eq_true rfl)⟩ d_D_areSizes_29 (⟨by simp_all [zi_0, zi_n0, szI, zi_t, zi_f], rfl⟩)
  · refine lv_iload_n hx hb d_D_areSizes_8 rfl (lv_at hl 1 rfl) ?_
    refine lv_i2l hx hb d_D_areSizes_9 rfl ?_
    refine is_D_56 (As := [.long y.toInt64]) (rest := []) cx (c_isSize l G n0 e0 (y.toInt64) w) ⟨(Nat.le_of_ble_eq_true rfl), (Nat.le_of_ble_eq_true rfl)⟩ ⟨(Nat.le_of_ble_eq_true rfl), (Nat.le_of_ble_eq_true rfl)⟩ rfl hl.1 rfl (Nat.le_of_ble_eq_true rfl) d_D_areSizes_10 hZ hS (fun v w_3 H locs hp_4 hZ hS => ?_)
    obtain ⟨rfl, hq⟩ := hp_4
    subst w_3
    refine W.eq (g2 := F0 m 13 ls [.int (zi (szL y.toInt64))]) rfl ?_
    refine lv_if_eq (tgt := 28) hx hb d_D_areSizes_13 (by decide) (fun c13 => ?_) (fun c13 => ?_)
    · refine lv_iconst (v := 0) hx hb d_D_areSizes_28 (by decide) ?_
      exact z_zret cx.1 cx.2.1 cx.rt cx.lk (by first | rfl | (simp [narrow]; done) | simp_all [narrow]) hS hZ ⟨(Nat.le_of_ble_eq_true rfl), (Nat.le_of_ble_eq_true rfl)⟩ d_D_areSizes_29 (⟨by simp_all [zi_0, zi_n0, szI, zi_t, zi_f], rfl⟩)
    · refine lv_iload_n hx hb d_D_areSizes_16 rfl (lv_at hl 2 rfl) ?_
      refine lv_i2l hx hb d_D_areSizes_17 rfl ?_
      refine is_D_56 (As := [.long z.toInt64]) (rest := []) cx (c_isSize l G n0 e0 (z.toInt64) w) ⟨(Nat.le_of_ble_eq_true rfl), (Nat.le_of_ble_eq_true rfl)⟩ ⟨(Nat.le_of_ble_eq_true rfl), (Nat.le_of_ble_eq_true rfl)⟩ rfl hl.1 rfl (Nat.le_of_ble_eq_true rfl) d_D_areSizes_18 hZ hS (fun v w_5 H locs hp_6 hZ hS => ?_)
      obtain ⟨rfl, hq⟩ := hp_6
      subst w_5
      refine W.eq (g2 := F0 m 21 ls [.int (zi (szL z.toInt64))]) rfl ?_
      refine lv_if_eq (tgt := 28) hx hb d_D_areSizes_21 (by decide) (fun c21 => ?_) (fun c21 => ?_)
      · refine lv_iconst (v := 0) hx hb d_D_areSizes_28 (by decide) ?_
        exact z_zret cx.1 cx.2.1 cx.rt cx.lk (by first | rfl | (simp [narrow]; done) | simp_all [narrow]) hS hZ ⟨(Nat.le_of_ble_eq_true rfl), (Nat.le_of_ble_eq_true rfl)⟩ d_D_areSizes_29 (⟨by simp_all [zi_0, zi_n0, szI, zi_t, zi_f], rfl⟩)
      · refine lv_iconst (v := 1) hx hb d_D_areSizes_24 (by decide) ?_
        refine lv_goto (tgt := 29) hx hb d_D_areSizes_25 (by decide) ?_
        exact z_zret cx.1 cx.2.1 cx.rt cx.lk (by first | rfl | (simp [narrow]; done) | simp_all [narrow]) hS hZ ⟨(Nat.le_of_ble_eq_true rfl), (Nat.le_of_ble_eq_true rfl)⟩ d_D_areSizes_29 (⟨by simp_all [zi_0, zi_n0, szI, zi_t, zi_f], rfl⟩)
set_option maxHeartbeats 4000000 in
set_option maxRecDepth 100000 in
theorem c_isRegister (l : Launch) (G : zG) (n0 e0 : Nat) (k : Int32) (w : zw) : Ct l G n0 e0 y_D_isRegister b_D_isRegister 1 (Option.some FieldType.boolean) ({ frames := 0, cells := 0, slots := 0, locals := 0 }) [.int k] w (fun v w1 => v = some (.int (zi (regB k))) ∧ w1 = w) := by
  refine z_ct (by decide) (Nat.le_of_ble_eq_true rfl) ?_
  intro p e s m below meth c ls cx hnm hZ hS hl
  have hx := cx.1
  have hb := cx.2.1
  have hl : lv_has ls 1 [(0, .int k)] := hl
  refine lv_iload_n hx hb d_D_isRegister_0 rfl (lv_at hl 0 rfl) ?_
  refine lv_if_lt (tgt := 14) hx hb d_D_isRegister_1 (by decide) (fun c1 => ?_) (fun c1 => ?_)
  · refine lv_iconst (v := 0) hx hb d_D_isRegister_14 (by decide) ?_
    exact z_zret cx.1 cx.2.1 cx.rt cx.lk (by first | rfl | (simp [narrow]; done) | simp_all [narrow]) hS hZ ⟨(Nat.le_of_ble_eq_true rfl), (Nat.le_of_ble_eq_true rfl)⟩ d_D_isRegister_15 (⟨by simp_all [zi, regB, ← Int32.not_le], rfl⟩)
  · refine lv_iload_n hx hb d_D_isRegister_4 rfl (lv_at hl 0 rfl) ?_
    refine lv_bipush (v := 16) hx hb d_D_isRegister_5 (by decide) ?_
    refine lv_icmp_ge (tgt := 14) hx hb d_D_isRegister_7 (by decide) (fun c7 => ?_) (fun c7 => ?_)
    · refine lv_iconst (v := 0) hx hb d_D_isRegister_14 (by decide) ?_
      exact z_zret cx.1 cx.2.1 cx.rt cx.lk (by first | rfl | (simp [narrow]; done) | simp_all [narrow]) hS hZ ⟨(Nat.le_of_ble_eq_true rfl), (Nat.le_of_ble_eq_true rfl)⟩ d_D_isRegister_15 (⟨by simp_all [zi, regB, ← Int32.not_le], rfl⟩)
    · refine lv_iconst (v := 1) hx hb d_D_isRegister_10 (by decide) ?_
      refine lv_goto (tgt := 15) hx hb d_D_isRegister_11 (by decide) ?_
      exact z_zret cx.1 cx.2.1 cx.rt cx.lk (by first | rfl | (simp [narrow]; done) | simp_all [narrow]) hS hZ ⟨(Nat.le_of_ble_eq_true rfl), (Nat.le_of_ble_eq_true rfl)⟩ d_D_isRegister_15 (⟨by simp_all [zi, regB, ← Int32.not_le], rfl⟩)
set_option maxHeartbeats 4000000 in
set_option maxRecDepth 100000 in
theorem c_itemsOf_0 (l : Launch) (G : zG) (n0 e0 : Nat) (w : zw) : Ct l G n0 e0 y_D_itemsOf b_D_itemsOf 1 (Option.some FieldType.int) ({ frames := 0, cells := 0, slots := 0, locals := 0 }) [.null] w (fun v w1 => v = some (.int 0) ∧ w1 = w) := by
  refine z_ct (by decide) (Nat.le_of_ble_eq_true rfl) ?_
  intro p e s m below meth c ls cx hnm hZ hS hl
  have hx := cx.1
  have hb := cx.2.1
  have hl : lv_has ls 1 [(0, .null)] := hl
  refine lv_aload_nN hx hb d_D_itemsOf_0 rfl (lv_at hl 0 rfl) ?_
  refine lv_ifnonnullN hx hb d_D_itemsOf_1 ?_
  refine lv_iconst (v := 0) hx hb d_D_itemsOf_4 (by decide) ?_
  refine lv_goto (tgt := 14) hx hb d_D_itemsOf_5 (by decide) ?_
  exact z_iret cx.1 cx.2.1 cx.rt cx.lk hS hZ ⟨(Nat.le_of_ble_eq_true rfl), (Nat.le_of_ble_eq_true rfl)⟩ d_D_itemsOf_14 (⟨rfl, rfl⟩)
set_option maxHeartbeats 4000000 in
set_option maxRecDepth 100000 in
theorem c_itemsOf_1 (l : Launch) (G : zG) (n0 e0 : Nat) (w : zw) (b : Nat) (li sw : Nat) (wi ne wd hg dp : Int32) (hb0 : w b = some (.inr (4, [.ref li, .ref sw, .int wi, .int ne, .int wd, .int hg, .int dp]))) : Ct l G n0 e0 y_D_itemsOf b_D_itemsOf 1 (Option.some FieldType.int) ({ frames := 0, cells := 0, slots := 0, locals := 0 }) [.ref b] w (fun v w1 => v = some (.int (1 + wi)) ∧ w1 = w) := by
  refine z_ct (by decide) (Nat.le_of_ble_eq_true rfl) ?_
  intro p e s m below meth c ls cx hnm hZ hS hl
  have hx := cx.1
  have hb := cx.2.1
  have hl : lv_has ls 1 [(0, .ref b)] := hl
  refine lv_aload_n hx hb d_D_itemsOf_0 rfl (lv_at hl 0 rfl) ?_
  refine lv_ifnonnull (tgt := 8) hx hb d_D_itemsOf_1 (by decide) ?_
  refine lv_iconst (v := 1) hx hb d_D_itemsOf_8 (by decide) ?_
  refine lv_aload_n hx hb d_D_itemsOf_9 rfl (lv_at hl 0 rfl) ?_
  refine gf_D_171 cx hZ hb0 rfl d_D_itemsOf_10 ?_
  refine lv_iadd hx hb d_D_itemsOf_13 ?_
  exact z_iret cx.1 cx.2.1 cx.rt cx.lk hS hZ ⟨(Nat.le_of_ble_eq_true rfl), (Nat.le_of_ble_eq_true rfl)⟩ d_D_itemsOf_14 (⟨rfl, rfl⟩)
set_option maxHeartbeats 4000000 in
set_option maxRecDepth 100000 in
theorem c_wanted (l : Launch) (G : zG) (n0 e0 : Nat) (spec amount : Int32) (n : Int64) (w : zw) : Ct l G n0 e0 y_D_wanted b_D_wanted 4 (Option.some FieldType.long) ({ frames := 0, cells := 0, slots := 0, locals := 0 }) [.int spec, .int amount, .long n] w (fun v w1 => v = some (.long (wantedL spec amount n)) ∧ w1 = w) := by
  refine z_ct (by decide) (Nat.le_of_ble_eq_true rfl) ?_
  intro p e s m below meth c ls cx hnm hZ hS hl
  have hx := cx.1
  have hb := cx.2.1
  have hl : lv_has ls 4 [(0, .int spec), (1, .int amount), (2, .long n)] := hl
  refine lv_iload_n hx hb d_D_wanted_0 rfl (lv_at hl 0 rfl) ?_
  refine lv_iconst (v := 2) hx hb d_D_wanted_1 (by decide) ?_
  refine lv_icmp_ne (tgt := 8) hx hb d_D_wanted_2 (by decide) (fun c2 => ?_) (fun c2 => ?_)
  · refine lv_iload_n hx hb d_D_wanted_8 rfl (lv_at hl 0 rfl) ?_
    refine lv_iconst (v := 1) hx hb d_D_wanted_9 (by decide) ?_
    refine lv_icmp_ne (tgt := 20) hx hb d_D_wanted_10 (by decide) (fun c10 => ?_) (fun c10 => ?_)
    · refine lv_lload_n hx hb d_D_wanted_20 rfl (lv_at hl 2 rfl) ?_
      exact z_lret cx.1 cx.2.1 cx.rt cx.lk hS hZ ⟨(Nat.le_of_ble_eq_true rfl), (Nat.le_of_ble_eq_true rfl)⟩ d_D_wanted_21 (⟨by simp_all [wantedL], rfl⟩)
    · refine lv_lload_n hx hb d_D_wanted_13 rfl (lv_at hl 2 rfl) ?_
      refine lv_iload_n hx hb d_D_wanted_14 rfl (lv_at hl 1 rfl) ?_
      refine lv_i2l hx hb d_D_wanted_15 rfl ?_
      refine lv_ladd hx hb d_D_wanted_16 ?_
      refine lv_goto (tgt := 21) hx hb d_D_wanted_17 (by decide) ?_
      exact z_lret cx.1 cx.2.1 cx.rt cx.lk hS hZ ⟨(Nat.le_of_ble_eq_true rfl), (Nat.le_of_ble_eq_true rfl)⟩ d_D_wanted_21 (⟨by simp_all [wantedL], rfl⟩)
  · refine lv_iload_n hx hb d_D_wanted_5 rfl (lv_at hl 1 rfl) ?_
    refine lv_i2l hx hb d_D_wanted_6 rfl ?_
    exact z_lret cx.1 cx.2.1 cx.rt cx.lk hS hZ ⟨(Nat.le_of_ble_eq_true rfl), (Nat.le_of_ble_eq_true rfl)⟩ d_D_wanted_7 (⟨by simp_all [wantedL], rfl⟩)
set_option maxHeartbeats 4000000 in
set_option maxRecDepth 100000 in
theorem c_asSetWidth (l : Launch) (G : zG) (n0 e0 : Nat) (x : Int64) (w : zw) : Ct l G n0 e0 y_D_asSetWidth b_D_asSetWidth 2 (Option.some FieldType.int) ({ frames := 1, cells := 0, slots := 0, locals := 17 }) [.long x] w (fun v w1 => v = some (.int (setW x)) ∧ w1 = w) := by
  refine z_ct (by decide) (Nat.le_of_ble_eq_true rfl) ?_
  intro p e s m below meth c ls cx hnm hZ hS hl
  have hx := cx.1
  have hb := cx.2.1
  have hl : lv_has ls 2 [(0, .long x)] := hl
  refine lc_D_223 cx d_D_asSetWidth_0 ?_
  refine lc_D_225 cx d_D_asSetWidth_3 ?_
  refine lv_lload_n hx hb d_D_asSetWidth_6 rfl (lv_at hl 0 rfl) ?_
  refine mm_D_227 cx hl.1 d_D_asSetWidth_7 (Nat.le_of_ble_eq_true rfl) (Nat.le_of_ble_eq_true rfl) (Nat.le_of_ble_eq_true rfl) (Nat.le_of_ble_eq_true rfl) ?_
  refine mm_D_203 cx hl.1 d_D_asSetWidth_10 (Nat.le_of_ble_eq_true rfl) (Nat.le_of_ble_eq_true rfl) (Nat.le_of_ble_eq_true rfl) (Nat.le_of_ble_eq_true rfl) ?_
  refine lv_l2i hx hb d_D_asSetWidth_13 rfl ?_
  exact z_iret cx.1 cx.2.1 cx.rt cx.lk hS hZ ⟨(Nat.le_of_ble_eq_true rfl), (Nat.le_of_ble_eq_true rfl)⟩ d_D_asSetWidth_14 (⟨by simp [setW], rfl⟩)
set_option maxHeartbeats 4000000 in
set_option maxRecDepth 100000 in
theorem c_runs (l : Launch) (G : zG) (n0 e0 : Nat) (w : zw) (a : Nat) (f : Nat → Int32) (bit : Int32) (ha : w a = some (.inr (1, fI f))) : Ct l G n0 e0 y_I_runs b_I_runs 2 (Option.some FieldType.boolean) ({ frames := 0, cells := 0, slots := 0, locals := 0 }) [.ref a, .int bit] w (fun v w1 => v = some (.int (zi (decide (f 4 &&& bit ≠ 0)))) ∧ w1 = w) := by
  refine z_ct (by decide) (Nat.le_of_ble_eq_true rfl) ?_
  intro p e s m below meth c ls cx hnm hZ hS hl
  have hx := cx.1
  have hb := cx.2.1
  have hl : lv_has ls 2 [(0, .ref a), (1, .int bit)] := hl
  refine lv_aload_n hx hb d_I_runs_0 rfl (lv_at hl 0 rfl) ?_
  refine gf_I_27 cx hZ ha rfl d_I_runs_1 ?_
  refine lv_iload_n hx hb d_I_runs_4 rfl (lv_at hl 1 rfl) ?_
  refine lv_iand hx hb d_I_runs_5 ?_
  refine lv_if_eq (tgt := 13) hx hb d_I_runs_6 (by decide) (fun c6 => ?_) (fun c6 => ?_)
  · refine lv_iconst (v := 0) hx hb d_I_runs_13 (by decide) ?_
    exact z_zret cx.1 cx.2.1 cx.rt cx.lk (by first | rfl | (simp [narrow]; done) | simp_all [narrow]) hS hZ ⟨(Nat.le_of_ble_eq_true rfl), (Nat.le_of_ble_eq_true rfl)⟩ d_I_runs_14 (⟨by simp_all [zi], rfl⟩)
  · refine lv_iconst (v := 1) hx hb d_I_runs_9 (by decide) ?_
    refine lv_goto (tgt := 14) hx hb d_I_runs_10 (by decide) ?_
    exact z_zret cx.1 cx.2.1 cx.rt cx.lk (by first | rfl | (simp [narrow]; done) | simp_all [narrow]) hS hZ ⟨(Nat.le_of_ble_eq_true rfl), (Nat.le_of_ble_eq_true rfl)⟩ d_I_runs_14 (⟨by simp_all [zi], rfl⟩)
set_option maxHeartbeats 4000000 in
set_option maxRecDepth 100000 in
theorem c_stretchOf (l : Launch) (G : zG) (n0 e0 : Nat) (w : zw) (a : Nat) (f : Nat → Int32) (o : Int32) (ha : w a = some (.inr (1, fI f))) : Ct l G n0 e0 y_I_stretchOf b_I_stretchOf 2 (Option.some FieldType.int) ({ frames := 0, cells := 0, slots := 0, locals := 0 }) [.ref a, .int o] w (fun v w1 => v = some (.int (if f 7 = o then f 6 else 0)) ∧ w1 = w) := by
  refine z_ct (by decide) (Nat.le_of_ble_eq_true rfl) ?_
  intro p e s m below meth c ls cx hnm hZ hS hl
  have hx := cx.1
  have hb := cx.2.1
  have hl : lv_has ls 2 [(0, .ref a), (1, .int o)] := hl
  refine lv_aload_n hx hb d_I_stretchOf_0 rfl (lv_at hl 0 rfl) ?_
  refine gf_I_33 cx hZ ha rfl d_I_stretchOf_1 ?_
  refine lv_iload_n hx hb d_I_stretchOf_4 rfl (lv_at hl 1 rfl) ?_
  refine lv_icmp_ne (tgt := 15) hx hb d_I_stretchOf_5 (by decide) (fun c5 => ?_) (fun c5 => ?_)
  · refine lv_iconst (v := 0) hx hb d_I_stretchOf_15 (by decide) ?_
    exact z_iret cx.1 cx.2.1 cx.rt cx.lk hS hZ ⟨(Nat.le_of_ble_eq_true rfl), (Nat.le_of_ble_eq_true rfl)⟩ d_I_stretchOf_16 (⟨by simp_all, rfl⟩)
  · refine lv_aload_n hx hb d_I_stretchOf_8 rfl (lv_at hl 0 rfl) ?_
    refine gf_I_30 cx hZ ha rfl d_I_stretchOf_9 ?_
    refine lv_goto (tgt := 16) hx hb d_I_stretchOf_12 (by decide) ?_
    exact z_iret cx.1 cx.2.1 cx.rt cx.lk hS hZ ⟨(Nat.le_of_ble_eq_true rfl), (Nat.le_of_ble_eq_true rfl)⟩ d_I_stretchOf_16 (⟨by simp_all, rfl⟩)
set_option maxHeartbeats 4000000 in
set_option maxRecDepth 100000 in
theorem c_widthOrNumber (l : Launch) (G : zG) (n0 e0 : Nat) (w : zw) (a : Nat) (f : Nat → Int32) (ha : w a = some (.inr (1, fI f))) : Ct l G n0 e0 y_I_widthOrNumber b_I_widthOrNumber 1 (Option.some FieldType.int) ({ frames := 0, cells := 0, slots := 0, locals := 0 }) [.ref a] w (fun v w1 => v = some (.int (if f 0 = 7 then f 5 else f 1)) ∧ w1 = w) := by
  refine z_ct (by decide) (Nat.le_of_ble_eq_true rfl) ?_
  intro p e s m below meth c ls cx hnm hZ hS hl
  have hx := cx.1
  have hb := cx.2.1
  have hl : lv_has ls 1 [(0, .ref a)] := hl
  refine lv_aload_n hx hb d_I_widthOrNumber_0 rfl (lv_at hl 0 rfl) ?_
  refine gf_I_9 cx hZ ha rfl d_I_widthOrNumber_1 ?_
  refine lv_bipush (v := 7) hx hb d_I_widthOrNumber_4 (by decide) ?_
  refine lv_icmp_ne (tgt := 16) hx hb d_I_widthOrNumber_6 (by decide) (fun c6 => ?_) (fun c6 => ?_)
  · refine lv_aload_n hx hb d_I_widthOrNumber_16 rfl (lv_at hl 0 rfl) ?_
    refine gf_I_15 cx hZ ha rfl d_I_widthOrNumber_17 ?_
    exact z_iret cx.1 cx.2.1 cx.rt cx.lk hS hZ ⟨(Nat.le_of_ble_eq_true rfl), (Nat.le_of_ble_eq_true rfl)⟩ d_I_widthOrNumber_20 (⟨by simp_all, rfl⟩)
  · refine lv_aload_n hx hb d_I_widthOrNumber_9 rfl (lv_at hl 0 rfl) ?_
    refine gf_I_39 cx hZ ha rfl d_I_widthOrNumber_10 ?_
    refine lv_goto (tgt := 20) hx hb d_I_widthOrNumber_13 (by decide) ?_
    exact z_iret cx.1 cx.2.1 cx.rt cx.lk hS hZ ⟨(Nat.le_of_ble_eq_true rfl), (Nat.le_of_ble_eq_true rfl)⟩ d_I_widthOrNumber_20 (⟨by simp_all, rfl⟩)
set_option maxHeartbeats 4000000 in
set_option maxRecDepth 100000 in
theorem c_isBoxOrRule (l : Launch) (G : zG) (n0 e0 : Nat) (w : zw) (a : Nat) (f : Nat → Int32) (ha : w a = some (.inr (1, fI f))) : Ct l G n0 e0 y_I_isBoxOrRule b_I_isBoxOrRule 1 (Option.some FieldType.boolean) ({ frames := 0, cells := 0, slots := 0, locals := 0 }) [.ref a] w (fun v w1 => v = some (.int (zi (decide (f 0 = 2 ∨ f 0 = 3 ∨ f 0 = 4)))) ∧ w1 = w) := by
  refine z_ct (by decide) (Nat.le_of_ble_eq_true rfl) ?_
  intro p e s m below meth c ls cx hnm hZ hS hl
  have hx := cx.1
  have hb := cx.2.1
  have hl : lv_has ls 1 [(0, .ref a)] := hl
  refine lv_aload_n hx hb d_I_isBoxOrRule_0 rfl (lv_at hl 0 rfl) ?_
  refine gf_I_9 cx hZ ha rfl d_I_isBoxOrRule_1 ?_
  refine lv_iconst (v := 2) hx hb d_I_isBoxOrRule_4 (by decide) ?_
  refine lv_icmp_eq (tgt := 24) hx hb d_I_isBoxOrRule_5 (by decide) (fun c5 => ?_) (fun c5 => ?_)
  · refine lv_iconst (v := 1) hx hb d_I_isBoxOrRule_24 (by decide) ?_
    refine lv_goto (tgt := 29) hx hb d_I_isBoxOrRule_25 (by decide) ?_
    exact z_zret cx.1 cx.2.1 cx.rt cx.lk (by first | rfl | (simp [narrow]; done) | simp_all [narrow]) hS hZ ⟨(Nat.le_of_ble_eq_true rfl), (Nat.le_of_ble_eq_true rfl)⟩ d_I_isBoxOrRule_29 (⟨by simp_all [zi], rfl⟩)
  · refine lv_aload_n hx hb d_I_isBoxOrRule_8 rfl (lv_at hl 0 rfl) ?_
    refine gf_I_9 cx hZ ha rfl d_I_isBoxOrRule_9 ?_
    refine lv_iconst (v := 3) hx hb d_I_isBoxOrRule_12 (by decide) ?_
    refine lv_icmp_eq (tgt := 24) hx hb d_I_isBoxOrRule_13 (by decide) (fun c13 => ?_) (fun c13 => ?_)
    · refine lv_iconst (v := 1) hx hb d_I_isBoxOrRule_24 (by decide) ?_
      refine lv_goto (tgt := 29) hx hb d_I_isBoxOrRule_25 (by decide) ?_
      exact z_zret cx.1 cx.2.1 cx.rt cx.lk (by first | rfl | (simp [narrow]; done) | simp_all [narrow]) hS hZ ⟨(Nat.le_of_ble_eq_true rfl), (Nat.le_of_ble_eq_true rfl)⟩ d_I_isBoxOrRule_29 (⟨by simp_all [zi], rfl⟩)
    · refine lv_aload_n hx hb d_I_isBoxOrRule_16 rfl (lv_at hl 0 rfl) ?_
      refine gf_I_9 cx hZ ha rfl d_I_isBoxOrRule_17 ?_
      refine lv_iconst (v := 4) hx hb d_I_isBoxOrRule_20 (by decide) ?_
      refine lv_icmp_ne (tgt := 28) hx hb d_I_isBoxOrRule_21 (by decide) (fun c21 => ?_) (fun c21 => ?_)
      · refine lv_iconst (v := 0) hx hb d_I_isBoxOrRule_28 (by decide) ?_
        exact z_zret cx.1 cx.2.1 cx.rt cx.lk (by first | rfl | (simp [narrow]; done) | simp_all [narrow]) hS hZ ⟨(Nat.le_of_ble_eq_true rfl), (Nat.le_of_ble_eq_true rfl)⟩ d_I_isBoxOrRule_29 (⟨by simp_all [zi], rfl⟩)
      · refine lv_iconst (v := 1) hx hb d_I_isBoxOrRule_24 (by decide) ?_
        refine lv_goto (tgt := 29) hx hb d_I_isBoxOrRule_25 (by decide) ?_
        exact z_zret cx.1 cx.2.1 cx.rt cx.lk (by first | rfl | (simp [narrow]; done) | simp_all [narrow]) hS hZ ⟨(Nat.le_of_ble_eq_true rfl), (Nat.le_of_ble_eq_true rfl)⟩ d_I_isBoxOrRule_29 (⟨by simp_all [zi], rfl⟩)
set_option maxHeartbeats 4000000 in
set_option maxRecDepth 100000 in
theorem c_tellI (l : Launch) (G : zG) (n0 e0 : Nat) (w : zw) (a : Nat) (f : Nat → Int32) (what : Int32) (ha : w a = some (.inr (1, fI f))) : Ct l G n0 e0 y_I_tell b_I_tell 2 (Option.some FieldType.int) ({ frames := 1, cells := 0, slots := 0, locals := 21 }) [.ref a, .int what] w (fun v w1 => v = some (.int (tellI f what)) ∧ w1 = w) := by
  refine z_ct (by decide) (Nat.le_of_ble_eq_true rfl) ?_
  intro p e s m below meth c ls cx hnm hZ hS hl
  have hx := cx.1
  have hb := cx.2.1
  have hl : lv_has ls 2 [(0, .ref a), (1, .int what)] := hl
  refine lv_iload_n hx hb d_I_tell_0 rfl (lv_at hl 1 rfl) ?_
  by_cases e1_0 : what = 0
  · subst e1_0
    refine lv_tableIn (tgt := 36) (off := 35) hx hb d_I_tell_1 (by decide) (by decide) (by decide) (by decide) ?_
    refine lv_aload_n hx hb d_I_tell_36 rfl (lv_at hl 0 rfl) ?_
    refine gf_I_9 cx hZ ha rfl d_I_tell_37 ?_
    exact z_iret cx.1 cx.2.1 cx.rt cx.lk hS hZ ⟨(Nat.le_of_ble_eq_true rfl), (Nat.le_of_ble_eq_true rfl)⟩ d_I_tell_40 (⟨by simp_all [tellI, zi_0, zi_n0], rfl⟩)
  · skip
    by_cases e1_1 : what = 1
    · subst e1_1
      refine lv_tableIn (tgt := 41) (off := 40) hx hb d_I_tell_1 (by decide) (by decide) (by decide) (by decide) ?_
      refine lv_aload_n hx hb d_I_tell_41 rfl (lv_at hl 0 rfl) ?_
      refine lv_iconst (v := 1) hx hb d_I_tell_42 (by decide) ?_
      refine iv_I_68 (As := [.int 1]) (rest := []) cx (c_runs l G n0 e0 w a f 1 ha) ha ⟨(Nat.le_of_ble_eq_true rfl), (Nat.le_of_ble_eq_true rfl)⟩ ⟨(Nat.le_of_ble_eq_true rfl), (Nat.le_of_ble_eq_true rfl)⟩ rfl hl.1 rfl (Nat.le_of_ble_eq_true rfl) d_I_tell_43 hZ hS (fun v w_1 H locs hp_2 hZ hS => ?_)
      obtain ⟨rfl, hq⟩ := hp_2
      subst w_1
      refine W.eq (g2 := F0 m 46 ls [.int (zi (decide (f 4 &&& 1 ≠ 0)))]) rfl ?_
      refine lv_if_eq (tgt := 54) hx hb d_I_tell_46 (by decide) (fun c46 => ?_) (fun c46 => ?_)
      · refine lv_aload_n hx hb d_I_tell_54 rfl (lv_at hl 0 rfl) ?_
        refine iv_I_73 (As := []) (rest := []) cx (c_widthOrNumber l G n0 e0 w a f ha) ha ⟨(Nat.le_of_ble_eq_true rfl), (Nat.le_of_ble_eq_true rfl)⟩ ⟨(Nat.le_of_ble_eq_true rfl), (Nat.le_of_ble_eq_true rfl)⟩ rfl hl.1 rfl (Nat.le_of_ble_eq_true rfl) d_I_tell_55 hZ hS (fun v w_3 H locs hp_4 hZ hS => ?_)
        obtain ⟨rfl, hq⟩ := hp_4
        subst w_3
        refine W.eq (g2 := F0 m 58 ls [.int (if f 0 = 7 then f 5 else f 1)]) rfl ?_
        exact z_iret cx.1 cx.2.1 cx.rt cx.lk hS hZ ⟨(Nat.le_of_ble_eq_true rfl), (Nat.le_of_ble_eq_true rfl)⟩ d_I_tell_58 (⟨by simp_all [tellI, zi_0, zi_n0], rfl⟩)
      · refine lc_I_72 cx d_I_tell_49 ?_
        refine lv_goto (tgt := 58) hx hb d_I_tell_51 (by decide) ?_
        exact z_iret cx.1 cx.2.1 cx.rt cx.lk hS hZ ⟨(Nat.le_of_ble_eq_true rfl), (Nat.le_of_ble_eq_true rfl)⟩ d_I_tell_58 (⟨by simp_all [tellI, zi_0, zi_n0], rfl⟩)
    · skip
      by_cases e1_2 : what = 2
      · subst e1_2
        refine lv_tableIn (tgt := 59) (off := 58) hx hb d_I_tell_1 (by decide) (by decide) (by decide) (by decide) ?_
        refine lv_aload_n hx hb d_I_tell_59 rfl (lv_at hl 0 rfl) ?_
        refine lv_iconst (v := 2) hx hb d_I_tell_60 (by decide) ?_
        refine iv_I_68 (As := [.int 2]) (rest := []) cx (c_runs l G n0 e0 w a f 2 ha) ha ⟨(Nat.le_of_ble_eq_true rfl), (Nat.le_of_ble_eq_true rfl)⟩ ⟨(Nat.le_of_ble_eq_true rfl), (Nat.le_of_ble_eq_true rfl)⟩ rfl hl.1 rfl (Nat.le_of_ble_eq_true rfl) d_I_tell_61 hZ hS (fun v w_5 H locs hp_6 hZ hS => ?_)
        obtain ⟨rfl, hq⟩ := hp_6
        subst w_5
        refine W.eq (g2 := F0 m 64 ls [.int (zi (decide (f 4 &&& 2 ≠ 0)))]) rfl ?_
        refine lv_if_eq (tgt := 72) hx hb d_I_tell_64 (by decide) (fun c64 => ?_) (fun c64 => ?_)
        · refine lv_aload_n hx hb d_I_tell_72 rfl (lv_at hl 0 rfl) ?_
          refine gf_I_18 cx hZ ha rfl d_I_tell_73 ?_
          exact z_iret cx.1 cx.2.1 cx.rt cx.lk hS hZ ⟨(Nat.le_of_ble_eq_true rfl), (Nat.le_of_ble_eq_true rfl)⟩ d_I_tell_76 (⟨by simp_all [tellI, zi_0, zi_n0], rfl⟩)
        · refine lc_I_72 cx d_I_tell_67 ?_
          refine lv_goto (tgt := 76) hx hb d_I_tell_69 (by decide) ?_
          exact z_iret cx.1 cx.2.1 cx.rt cx.lk hS hZ ⟨(Nat.le_of_ble_eq_true rfl), (Nat.le_of_ble_eq_true rfl)⟩ d_I_tell_76 (⟨by simp_all [tellI, zi_0, zi_n0], rfl⟩)
      · skip
        by_cases e1_3 : what = 3
        · subst e1_3
          refine lv_tableIn (tgt := 77) (off := 76) hx hb d_I_tell_1 (by decide) (by decide) (by decide) (by decide) ?_
          refine lv_aload_n hx hb d_I_tell_77 rfl (lv_at hl 0 rfl) ?_
          refine lv_iconst (v := 4) hx hb d_I_tell_78 (by decide) ?_
          refine iv_I_68 (As := [.int 4]) (rest := []) cx (c_runs l G n0 e0 w a f 4 ha) ha ⟨(Nat.le_of_ble_eq_true rfl), (Nat.le_of_ble_eq_true rfl)⟩ ⟨(Nat.le_of_ble_eq_true rfl), (Nat.le_of_ble_eq_true rfl)⟩ rfl hl.1 rfl (Nat.le_of_ble_eq_true rfl) d_I_tell_79 hZ hS (fun v w_7 H locs hp_8 hZ hS => ?_)
          obtain ⟨rfl, hq⟩ := hp_8
          subst w_7
          refine W.eq (g2 := F0 m 82 ls [.int (zi (decide (f 4 &&& 4 ≠ 0)))]) rfl ?_
          refine lv_if_eq (tgt := 90) hx hb d_I_tell_82 (by decide) (fun c82 => ?_) (fun c82 => ?_)
          · refine lv_aload_n hx hb d_I_tell_90 rfl (lv_at hl 0 rfl) ?_
            refine gf_I_21 cx hZ ha rfl d_I_tell_91 ?_
            exact z_iret cx.1 cx.2.1 cx.rt cx.lk hS hZ ⟨(Nat.le_of_ble_eq_true rfl), (Nat.le_of_ble_eq_true rfl)⟩ d_I_tell_94 (⟨by simp_all [tellI, zi_0, zi_n0], rfl⟩)
          · refine lc_I_72 cx d_I_tell_85 ?_
            refine lv_goto (tgt := 94) hx hb d_I_tell_87 (by decide) ?_
            exact z_iret cx.1 cx.2.1 cx.rt cx.lk hS hZ ⟨(Nat.le_of_ble_eq_true rfl), (Nat.le_of_ble_eq_true rfl)⟩ d_I_tell_94 (⟨by simp_all [tellI, zi_0, zi_n0], rfl⟩)
        · skip
          by_cases e1_4 : what = 4
          · subst e1_4
            refine lv_tableIn (tgt := 95) (off := 94) hx hb d_I_tell_1 (by decide) (by decide) (by decide) (by decide) ?_
            refine lv_aload_n hx hb d_I_tell_95 rfl (lv_at hl 0 rfl) ?_
            refine gf_I_9 cx hZ ha rfl d_I_tell_96 ?_
            refine lv_iconst (v := 5) hx hb d_I_tell_99 (by decide) ?_
            refine lv_icmp_ne (tgt := 110) hx hb d_I_tell_100 (by decide) (fun c100 => ?_) (fun c100 => ?_)
            · refine lv_aload_n hx hb d_I_tell_110 rfl (lv_at hl 0 rfl) ?_
              refine gf_I_57 cx hZ ha rfl d_I_tell_111 ?_
              exact z_iret cx.1 cx.2.1 cx.rt cx.lk hS hZ ⟨(Nat.le_of_ble_eq_true rfl), (Nat.le_of_ble_eq_true rfl)⟩ d_I_tell_114 (⟨by simp_all [tellI, zi_0, zi_n0], rfl⟩)
            · refine lv_aload_n hx hb d_I_tell_103 rfl (lv_at hl 0 rfl) ?_
              refine gf_I_30 cx hZ ha rfl d_I_tell_104 ?_
              refine lv_goto (tgt := 114) hx hb d_I_tell_107 (by decide) ?_
              exact z_iret cx.1 cx.2.1 cx.rt cx.lk hS hZ ⟨(Nat.le_of_ble_eq_true rfl), (Nat.le_of_ble_eq_true rfl)⟩ d_I_tell_114 (⟨by simp_all [tellI, zi_0, zi_n0], rfl⟩)
          · skip
            have te1_0 := lv_neT e1_0 (show (0 : Int32).toInt = 0 from by decide)
            have te1_1 := lv_neT e1_1 (show (1 : Int32).toInt = 1 from by decide)
            have te1_2 := lv_neT e1_2 (show (2 : Int32).toInt = 2 from by decide)
            have te1_3 := lv_neT e1_3 (show (3 : Int32).toInt = 3 from by decide)
            have te1_4 := lv_neT e1_4 (show (4 : Int32).toInt = 4 from by decide)
            refine lv_tableOut (tgt := 115) hx hb d_I_tell_1 (by omega) (by decide) ?_
            refine lv_aload_n hx hb d_I_tell_115 rfl (lv_at hl 0 rfl) ?_
            refine gf_I_36 cx hZ ha rfl d_I_tell_116 ?_
            exact z_iret cx.1 cx.2.1 cx.rt cx.lk hS hZ ⟨(Nat.le_of_ble_eq_true rfl), (Nat.le_of_ble_eq_true rfl)⟩ d_I_tell_119 (⟨by simp_all [tellI, zi_0, zi_n0], rfl⟩)
