/-! the law's helpers -/
def rmH : Room := { frames := 10, cells := 210, slots := 4200, locals := 300 }
theorem map_one {α β : Type} {f : α → β} {l : List α} {b : β} (h : l.map f = [b]) : ∃ x, l = [x] ∧ f x = b := by
  cases l with
  | nil => cases h
  | cons x l =>
    cases l with
    | nil => exact ⟨x, rfl, by simpa using h⟩
    | cons y l => simp at h
theorem map_three {α β : Type} {f : α → β} {l : List α} {a b c : β} (h : l.map f = [a, b, c]) : ∃ x y z, l = [x, y, z] ∧ f x = a ∧ f y = b ∧ f z = c := by
  cases l with
  | nil => cases h
  | cons x l =>
    simp only [List.map_cons, List.cons.injEq] at h
    obtain ⟨h1, h⟩ := h
    cases l with
    | nil => cases h
    | cons y l =>
      simp only [List.map_cons, List.cons.injEq] at h
      obtain ⟨h2, h⟩ := h
      obtain ⟨z, e, h3⟩ := map_one h
      subst e
      exact ⟨x, y, z, rfl, h1, h2, h3⟩
/-- both sides of a call through a helper -/
def PairH (l : Launch) (G : zG) (n0 e0 : Nat) (w : zw) (d la ra o : Nat) (A : Nat → Nat) (P : List Nat) (ou c : Nat) (X : XS) (yW : MethodName) (bW : ByteArray) (nW : Nat) (hs : List (Nat × Nat × Nat × Nat)) (yR : MethodName) (bR : ByteArray) (nR : Nat) (aW aR : List Value) : Prop :=
  ∃ (j r : Int32) (X' : XS), CtH l G n0 e0 yW bW nW hs rmH (.ref d :: aW) w (fun v w1 => v = some (.int j) ∧ CI G e0 w1 d la ra P (c + 1) X' ∧ RI G w1 o A X ∧ ∃ f1, w1 ou = some (.inl (G.2 1, 1, .inr (.inl f1))) ∧ (j = 0 → f1 0 = r.toInt64)) ∧ ∀ w1, RI G w1 o A X → Ct l G n0 e0 yR bR nR (Option.some FieldType.int) rmR (.ref o :: aR) w1 (fun v w2 => ∃ b, v = some (.int b) ∧ (j = 0 → b = r) ∧ RIt G w2 o A X' j ∧ Fr (allR o A) w1 w2)
theorem ref_long {c : ClassId} {n : Nat} {f : Nat → Int64} : refE (.inl (c, n, .inr (.inl f))) := Or.inr (Or.inr ⟨_, _, _, rfl⟩)
theorem RI.store {G : zG} {w w1 : zw} {o ou : Nat} {A : Nat → Nat} {X : XS} {x : va_E} (h : RI G w o A X) (hw : w1 = va_up w ou (some x)) (hno : ou ∉ allR o A) : RI G w1 o A X := by
  have hk : ∀ t ∈ allR o A, w1 t = w t := by
    intro t ht
    rw [hw]
    exact va_up_ne _ _ (fun q => hno (q ▸ ht))
  obtain ⟨S, L, F, M, B, V, Z, T, sz, en, ⟨h0, ⟨a0, a1, a2, a3, a4, a5, a6, a7, a8⟩, a9, a10, a11, a12⟩, h⟩ := h
  exact ⟨S, L, F, M, B, V, Z, T, sz, en, ⟨by rw [hk _ (by simp)]; exact h0, ⟨by rw [hk _ (by simp)]; exact a0, by rw [hk _ (by simp)]; exact a1, by rw [hk _ (by simp)]; exact a2, by rw [hk _ (by simp)]; exact a3, by rw [hk _ (by simp)]; exact a4, by rw [hk _ (by simp)]; exact a5, by rw [hk _ (by simp)]; exact a6, by rw [hk _ (by simp)]; exact a7, by rw [hk _ (by simp)]; exact a8⟩, by rw [hk _ (by simp)]; exact a9, by rw [hk _ (by simp)]; exact a10, by rw [hk _ (by simp)]; exact a11, by rw [hk _ (by simp)]; exact a12⟩, h⟩
theorem CI.store {G : zG} {e0 : Nat} {w w1 : zw} {d la ra o ou : Nat} {A : Nat → Nat} {c : Nat} {X X2 : XS} {f f1 : Nat → Int64} (h : CI G e0 w d la ra (ou :: allR o A) c X) (hr : RI G w o A X2) (hou : w ou = some (.inl (G.2 1, 1, .inr (.inl f)))) (hw : w1 = va_up w ou (some (.inl (G.2 1, 1, .inr (.inl f1))))) (he : w1 e0 = none) : CI G e0 w1 d la ra (ou :: allR o A) c X := by
  refine h.keepR (Fr.rf.put hw (Or.inl List.mem_cons_self)) (fun t ht => ?_) he
  rcases List.mem_cons.mp ht with q | q
  · rw [q]; exact ⟨_, hou, ref_long⟩
  · exact hr.cells t q
theorem CI.d {G : zG} {e0 : Nat} {w : zw} {d la ra : Nat} {P : List Nat} {c : Nat} {X : XS} (h : CI G e0 w d la ra P c X) : ∃ fs, w d = some (.inr (5, fs)) := by
  obtain ⟨-, fl, fr, LAt, bs, -, gd, -⟩ := h
  exact ⟨_, gd⟩
set_option maxHeartbeats 4000000 in
set_option maxRecDepth 100000 in
theorem hp_W_about (l : Launch) (G : zG) (n0 e0 : Nat) {w : zw} {d la ra o ou : Nat} {A : Nat → Nat} {c : Nat} {X : XS} {f0 : Nat → Int64} (hI : CI G e0 w d la ra (ou :: allR o A) c X) (hRI : RI G w o A X) (hou : w ou = some (.inl (G.2 1, 1, .inr (.inl f0)))) (hno : ou ∉ allR o A) (p0 p1 : Int32) (hp : PairT l G n0 e0 w d la ra o A (ou :: allR o A) c X [(nIOB, 1)] y_D_about b_D_about 4 y_R_about b_R_about 4 [.int p0, .int p1] [.int p0, .int p1]) : PairH l G n0 e0 w d la ra o A (ou :: allR o A) ou c X y_W_about b_W_about 5 h_W_about y_R_about b_R_about 4 [.int p0, .int p1, .ref ou] [.int p0, .int p1] := by
  obtain ⟨fd, hd⟩ := hI.d
  rcases hp with ⟨N, j, hj, CC, RR⟩ | ⟨r, X1, CC, RR⟩
  · refine ⟨j, 0, X, ?_, fun w1 h1 => (RR w1 h1).mono (Nat.le_refl _) (Nat.le_refl _) (Nat.le_refl _) (Nat.le_refl _) ?_⟩
    · refine z_ctH (by decide) (Nat.le_of_ble_eq_true rfl) ?_
      intro p e s m below meth c1 ls cx hzt htab hZ hS hl
      have hx := cx.1
      have hb := cx.2.1
      have hl : lv_has ls 5 [(0, .ref d), (1, .int p0), (2, .int p1), (3, .ref ou)] := hl
      refine lv_aload_n hx hb d_W_about_0 rfl (lv_at hl 3 rfl) ?_
      refine lv_iconst (v := 0) hx hb d_W_about_1 (by decide) ?_
      refine lv_aload_n hx hb d_W_about_2 rfl (lv_at hl 0 rfl) ?_
      refine lv_iload_n hx hb d_W_about_3 rfl (lv_at hl 1 rfl) ?_
      refine lv_iload_n hx hb d_W_about_4 rfl (lv_at hl 2 rfl) ?_
      refine z_ivT (C := "BoxDesk") (n := 2) (As := [.int p0, .int p1]) (rest := [.int 0, .ref ou]) cx hzt tw_567 tw_1 tw_564 tw_565 tw_566 (by decide +kernel) (hZ.recv cx.K rfl hd) CC ⟨(Nat.le_of_ble_eq_true rfl), (Nat.le_of_ble_eq_true rfl)⟩ ⟨(Nat.le_of_ble_eq_true rfl), (Nat.le_of_ble_eq_true rfl)⟩ rfl hl.1 rfl (Nat.le_of_ble_eq_true rfl) d_W_about_5 hZ hS (fun v wm H locs hpm hZ hS => ?_) (fun N x wm H locs hpm hZ hS => ?_)
      · exact hpm.elim
      · obtain ⟨rfl, hci, hkp⟩ := hpm
        cases List.mem_singleton.mp hj
        obtain ⟨xe, hxe, hxq⟩ := map_one htab
        simp only [Prod.mk.injEq] at hxq
        obtain ⟨x1, x2, x3, x4⟩ := hxq
        refine ⟨13, ⟨[], xe, [], by rw [hxe]; rfl, by simp [covers, x1, x2], x3, by rw [x4]; decide, by rw [x4]; exact tw_563, fun y hy => absurd hy List.not_mem_nil⟩, ?_⟩
        refine lv_astore (lv' := [(4, .ref x), (0, .ref d), (1, .int p0), (2, .int p1), (3, .ref ou)]) hx hb d_W_about_13 hl (by decide) rfl (fun ls hl => ?_)
        refine lv_iconst (v := 1) hx hb d_W_about_15 (by decide) ?_
        exact z_iretT cx.1 cx.2.1 cx.rt cx.lk hS hZ ⟨(Nat.le_of_ble_eq_true rfl), (Nat.le_of_ble_eq_true rfl)⟩ d_W_about_16 ⟨rfl, hci (cx.ez hZ), hRI.keepK hkp, f0, hkp _ _ hou ref_long, fun q => absurd q (by decide)⟩
    · rintro v w2 ⟨⟨b, rfl⟩, h1, h2⟩
      exact ⟨b, rfl, fun q => absurd q (by cases List.mem_singleton.mp hj; decide), h1, h2⟩
  · refine ⟨0, r, X1, ?_, fun w1 h1 => (RR w1 h1).mono (Nat.le_refl _) (Nat.le_refl _) (Nat.le_refl _) (Nat.le_refl _) ?_⟩
    · refine z_ctH (by decide) (Nat.le_of_ble_eq_true rfl) ?_
      intro p e s m below meth c1 ls cx hzt htab hZ hS hl
      have hx := cx.1
      have hb := cx.2.1
      have hl : lv_has ls 5 [(0, .ref d), (1, .int p0), (2, .int p1), (3, .ref ou)] := hl
      refine lv_aload_n hx hb d_W_about_0 rfl (lv_at hl 3 rfl) ?_
      refine lv_iconst (v := 0) hx hb d_W_about_1 (by decide) ?_
      refine lv_aload_n hx hb d_W_about_2 rfl (lv_at hl 0 rfl) ?_
      refine lv_iload_n hx hb d_W_about_3 rfl (lv_at hl 1 rfl) ?_
      refine lv_iload_n hx hb d_W_about_4 rfl (lv_at hl 2 rfl) ?_
      refine z_ivT (C := "BoxDesk") (n := 2) (As := [.int p0, .int p1]) (rest := [.int 0, .ref ou]) cx hzt tw_567 tw_1 tw_564 tw_565 tw_566 (by decide +kernel) (hZ.recv cx.K rfl hd) CC ⟨(Nat.le_of_ble_eq_true rfl), (Nat.le_of_ble_eq_true rfl)⟩ ⟨(Nat.le_of_ble_eq_true rfl), (Nat.le_of_ble_eq_true rfl)⟩ rfl hl.1 rfl (Nat.le_of_ble_eq_true rfl) d_W_about_5 hZ hS (fun v wm H locs hpm hZ hS => ?_) (fun N x wm H locs hpm hZ hS => ?_)
      · obtain ⟨rfl, hci, hkp⟩ := hpm
        have hci := hci (cx.ez hZ)
        have hom := hkp _ _ hou ref_long
        refine W.eq (g2 := F0 m 8 ls [.int r, .int 0, .ref ou]) rfl ?_
        refine lv_i2l hx hb d_W_about_8 rfl ?_
        refine st_l cx hZ hS hom (vp_in_nI (n := 0) (by omega) (by omega)) d_W_about_9 (fun w1 H locs hw1 hZ hS => ?_)
        refine lv_goto (tgt := 17) hx hb d_W_about_10 (by decide) ?_
        refine lv_iconst (v := 0) hx hb d_W_about_17 (by decide) ?_
        exact z_iretT cx.1 cx.2.1 cx.rt cx.lk hS hZ ⟨(Nat.le_of_ble_eq_true rfl), (Nat.le_of_ble_eq_true rfl)⟩ d_W_about_18 ⟨rfl, hci.store (hRI.keepK hkp) hom hw1 (cx.ez hZ), (hRI.keepK hkp).store hw1 hno, _, up_self hw1, fun _ => rfl⟩
      · exact hpm.elim
    · rintro v w2 ⟨rfl, h1, h2⟩
      exact ⟨r, rfl, fun _ => rfl, h1, h2⟩
set_option maxHeartbeats 4000000 in
set_option maxRecDepth 100000 in
theorem hp_W_item (l : Launch) (G : zG) (n0 e0 : Nat) {w : zw} {d la ra o ou : Nat} {A : Nat → Nat} {c : Nat} {X : XS} {f0 : Nat → Int64} (hI : CI G e0 w d la ra (ou :: allR o A) c X) (hRI : RI G w o A X) (hou : w ou = some (.inl (G.2 1, 1, .inr (.inl f0)))) (hno : ou ∉ allR o A) (p0 p1 p2 : Int32) (hp : PairT l G n0 e0 w d la ra o A (ou :: allR o A) c X [(nIOB, 1)] y_D_item b_D_item 7 y_R_item b_R_item 8 [.int p0, .int p1, .int p2] [.int p0, .int p1, .int p2]) : PairH l G n0 e0 w d la ra o A (ou :: allR o A) ou c X y_W_item b_W_item 6 h_W_item y_R_item b_R_item 8 [.int p0, .int p1, .int p2, .ref ou] [.int p0, .int p1, .int p2] := by
  obtain ⟨fd, hd⟩ := hI.d
  rcases hp with ⟨N, j, hj, CC, RR⟩ | ⟨r, X1, CC, RR⟩
  · refine ⟨j, 0, X, ?_, fun w1 h1 => (RR w1 h1).mono (Nat.le_refl _) (Nat.le_refl _) (Nat.le_refl _) (Nat.le_refl _) ?_⟩
    · refine z_ctH (by decide) (Nat.le_of_ble_eq_true rfl) ?_
      intro p e s m below meth c1 ls cx hzt htab hZ hS hl
      have hx := cx.1
      have hb := cx.2.1
      have hl : lv_has ls 6 [(0, .ref d), (1, .int p0), (2, .int p1), (3, .int p2), (4, .ref ou)] := hl
      refine lv_aload hx hb d_W_item_0 (lv_at hl 4 rfl) ?_
      refine lv_iconst (v := 0) hx hb d_W_item_2 (by decide) ?_
      refine lv_aload_n hx hb d_W_item_3 rfl (lv_at hl 0 rfl) ?_
      refine lv_iload_n hx hb d_W_item_4 rfl (lv_at hl 1 rfl) ?_
      refine lv_iload_n hx hb d_W_item_5 rfl (lv_at hl 2 rfl) ?_
      refine lv_iload_n hx hb d_W_item_6 rfl (lv_at hl 3 rfl) ?_
      refine z_ivT (C := "BoxDesk") (n := 3) (As := [.int p0, .int p1, .int p2]) (rest := [.int 0, .ref ou]) cx hzt tw_595 tw_1 tw_592 tw_593 tw_594 (by decide +kernel) (hZ.recv cx.K rfl hd) CC ⟨(Nat.le_of_ble_eq_true rfl), (Nat.le_of_ble_eq_true rfl)⟩ ⟨(Nat.le_of_ble_eq_true rfl), (Nat.le_of_ble_eq_true rfl)⟩ rfl hl.1 rfl (Nat.le_of_ble_eq_true rfl) d_W_item_7 hZ hS (fun v wm H locs hpm hZ hS => ?_) (fun N x wm H locs hpm hZ hS => ?_)
      · exact hpm.elim
      · obtain ⟨rfl, hci, hkp⟩ := hpm
        cases List.mem_singleton.mp hj
        obtain ⟨xe, hxe, hxq⟩ := map_one htab
        simp only [Prod.mk.injEq] at hxq
        obtain ⟨x1, x2, x3, x4⟩ := hxq
        refine ⟨15, ⟨[], xe, [], by rw [hxe]; rfl, by simp [covers, x1, x2], x3, by rw [x4]; decide, by rw [x4]; exact tw_563, fun y hy => absurd hy List.not_mem_nil⟩, ?_⟩
        refine lv_astore (lv' := [(5, .ref x), (0, .ref d), (1, .int p0), (2, .int p1), (3, .int p2), (4, .ref ou)]) hx hb d_W_item_15 hl (by decide) rfl (fun ls hl => ?_)
        refine lv_iconst (v := 1) hx hb d_W_item_17 (by decide) ?_
        exact z_iretT cx.1 cx.2.1 cx.rt cx.lk hS hZ ⟨(Nat.le_of_ble_eq_true rfl), (Nat.le_of_ble_eq_true rfl)⟩ d_W_item_18 ⟨rfl, hci (cx.ez hZ), hRI.keepK hkp, f0, hkp _ _ hou ref_long, fun q => absurd q (by decide)⟩
    · rintro v w2 ⟨⟨b, rfl⟩, h1, h2⟩
      exact ⟨b, rfl, fun q => absurd q (by cases List.mem_singleton.mp hj; decide), h1, h2⟩
  · refine ⟨0, r, X1, ?_, fun w1 h1 => (RR w1 h1).mono (Nat.le_refl _) (Nat.le_refl _) (Nat.le_refl _) (Nat.le_refl _) ?_⟩
    · refine z_ctH (by decide) (Nat.le_of_ble_eq_true rfl) ?_
      intro p e s m below meth c1 ls cx hzt htab hZ hS hl
      have hx := cx.1
      have hb := cx.2.1
      have hl : lv_has ls 6 [(0, .ref d), (1, .int p0), (2, .int p1), (3, .int p2), (4, .ref ou)] := hl
      refine lv_aload hx hb d_W_item_0 (lv_at hl 4 rfl) ?_
      refine lv_iconst (v := 0) hx hb d_W_item_2 (by decide) ?_
      refine lv_aload_n hx hb d_W_item_3 rfl (lv_at hl 0 rfl) ?_
      refine lv_iload_n hx hb d_W_item_4 rfl (lv_at hl 1 rfl) ?_
      refine lv_iload_n hx hb d_W_item_5 rfl (lv_at hl 2 rfl) ?_
      refine lv_iload_n hx hb d_W_item_6 rfl (lv_at hl 3 rfl) ?_
      refine z_ivT (C := "BoxDesk") (n := 3) (As := [.int p0, .int p1, .int p2]) (rest := [.int 0, .ref ou]) cx hzt tw_595 tw_1 tw_592 tw_593 tw_594 (by decide +kernel) (hZ.recv cx.K rfl hd) CC ⟨(Nat.le_of_ble_eq_true rfl), (Nat.le_of_ble_eq_true rfl)⟩ ⟨(Nat.le_of_ble_eq_true rfl), (Nat.le_of_ble_eq_true rfl)⟩ rfl hl.1 rfl (Nat.le_of_ble_eq_true rfl) d_W_item_7 hZ hS (fun v wm H locs hpm hZ hS => ?_) (fun N x wm H locs hpm hZ hS => ?_)
      · obtain ⟨rfl, hci, hkp⟩ := hpm
        have hci := hci (cx.ez hZ)
        have hom := hkp _ _ hou ref_long
        refine W.eq (g2 := F0 m 10 ls [.int r, .int 0, .ref ou]) rfl ?_
        refine lv_i2l hx hb d_W_item_10 rfl ?_
        refine st_l cx hZ hS hom (vp_in_nI (n := 0) (by omega) (by omega)) d_W_item_11 (fun w1 H locs hw1 hZ hS => ?_)
        refine lv_goto (tgt := 19) hx hb d_W_item_12 (by decide) ?_
        refine lv_iconst (v := 0) hx hb d_W_item_19 (by decide) ?_
        exact z_iretT cx.1 cx.2.1 cx.rt cx.lk hS hZ ⟨(Nat.le_of_ble_eq_true rfl), (Nat.le_of_ble_eq_true rfl)⟩ d_W_item_20 ⟨rfl, hci.store (hRI.keepK hkp) hom hw1 (cx.ez hZ), (hRI.keepK hkp).store hw1 hno, _, up_self hw1, fun _ => rfl⟩
      · exact hpm.elim
    · rintro v w2 ⟨rfl, h1, h2⟩
      exact ⟨r, rfl, fun _ => rfl, h1, h2⟩
set_option maxHeartbeats 4000000 in
set_option maxRecDepth 100000 in
theorem hp_W_close (l : Launch) (G : zG) (n0 e0 : Nat) {w : zw} {d la ra o ou : Nat} {A : Nat → Nat} {c : Nat} {X : XS} {f0 : Nat → Int64} (hI : CI G e0 w d la ra (ou :: allR o A) c X) (hRI : RI G w o A X) (hou : w ou = some (.inl (G.2 1, 1, .inr (.inl f0)))) (hno : ou ∉ allR o A) (p0 p1 p2 p3 : Int32) (hp : PairT l G n0 e0 w d la ra o A (ou :: allR o A) c X [(nISE, 1), (nIAE, 2), (nUOE, 3)] y_D_close b_D_close 10 y_R_close b_R_close 13 [.int p0, .int p1, .int p2, .int p3] [.int p0, .int p1, .int p2, .int p3]) : PairH l G n0 e0 w d la ra o A (ou :: allR o A) ou c X y_W_close b_W_close 7 h_W_close y_R_close b_R_close 13 [.int p0, .int p1, .int p2, .int p3, .ref ou] [.int p0, .int p1, .int p2, .int p3] := by
  obtain ⟨fd, hd⟩ := hI.d
  rcases hp with ⟨N, j, hj, CC, RR⟩ | ⟨r, X1, CC, RR⟩
  · refine ⟨j, 0, X, ?_, fun w1 h1 => (RR w1 h1).mono (Nat.le_refl _) (Nat.le_refl _) (Nat.le_refl _) (Nat.le_refl _) ?_⟩
    · refine z_ctH (by decide) (Nat.le_of_ble_eq_true rfl) ?_
      intro p e s m below meth c1 ls cx hzt htab hZ hS hl
      have hx := cx.1
      have hb := cx.2.1
      have hl : lv_has ls 7 [(0, .ref d), (1, .int p0), (2, .int p1), (3, .int p2), (4, .int p3), (5, .ref ou)] := hl
      refine lv_aload hx hb d_W_close_0 (lv_at hl 5 rfl) ?_
      refine lv_iconst (v := 0) hx hb d_W_close_2 (by decide) ?_
      refine lv_aload_n hx hb d_W_close_3 rfl (lv_at hl 0 rfl) ?_
      refine lv_iload_n hx hb d_W_close_4 rfl (lv_at hl 1 rfl) ?_
      refine lv_iload_n hx hb d_W_close_5 rfl (lv_at hl 2 rfl) ?_
      refine lv_iload_n hx hb d_W_close_6 rfl (lv_at hl 3 rfl) ?_
      refine lv_iload hx hb d_W_close_7 (lv_at hl 4 rfl) ?_
      refine z_ivT (C := "BoxDesk") (n := 4) (As := [.int p0, .int p1, .int p2, .int p3]) (rest := [.int 0, .ref ou]) cx hzt tw_311 tw_1 tw_308 tw_309 tw_310 (by decide +kernel) (hZ.recv cx.K rfl hd) CC ⟨(Nat.le_of_ble_eq_true rfl), (Nat.le_of_ble_eq_true rfl)⟩ ⟨(Nat.le_of_ble_eq_true rfl), (Nat.le_of_ble_eq_true rfl)⟩ rfl hl.1 rfl (Nat.le_of_ble_eq_true rfl) d_W_close_9 hZ hS (fun v wm H locs hpm hZ hS => ?_) (fun N x wm H locs hpm hZ hS => ?_)
      · exact hpm.elim
      · obtain ⟨rfl, hci, hkp⟩ := hpm
        obtain ⟨xa, xb, xc, hxe, ha, hbq, hcq⟩ := map_three htab
        simp only [Prod.mk.injEq] at ha hbq hcq
        obtain ⟨a1, a2, a3, a4⟩ := ha
        obtain ⟨b1, b2, b3, b4⟩ := hbq
        obtain ⟨k1, k2, k3, k4⟩ := hcq
        simp only [List.mem_cons, List.not_mem_nil, or_false, Prod.mk.injEq] at hj
        obtain ⟨z1, z2, z3⟩ := hzt.2.2.2.2
        rcases hj with ⟨rfl, rfl⟩ | ⟨rfl, rfl⟩ | ⟨rfl, rfl⟩
        · refine ⟨17, ⟨[], xa, [xb, xc], by rw [hxe]; rfl, by simp [covers, a1, a2], a3, by rw [a4]; decide, by rw [a4]; exact tw_305, fun y hy => absurd hy List.not_mem_nil⟩, ?_⟩
          refine lv_astore (lv' := [(6, .ref x), (0, .ref d), (1, .int p0), (2, .int p1), (3, .int p2), (4, .int p3), (5, .ref ou)]) hx hb d_W_close_17 hl (by decide) rfl (fun ls hl => ?_)
          refine lv_iconst (v := 1) hx hb d_W_close_19 (by decide) ?_
          exact z_iretT cx.1 cx.2.1 cx.rt cx.lk hS hZ ⟨(Nat.le_of_ble_eq_true rfl), (Nat.le_of_ble_eq_true rfl)⟩ d_W_close_20 ⟨rfl, hci (cx.ez hZ), hRI.keepK hkp, f0, hkp _ _ hou ref_long, fun q => absurd q (by decide)⟩
        · refine ⟨21, ⟨[xa], xb, [xc], by rw [hxe]; rfl, by simp [covers, b1, b2], b3, by rw [b4]; decide, by rw [b4]; exact tw_306, fun y hy => by rw [List.mem_singleton.mp hy, a4]; exact ⟨by decide, nISE, tw_305, z1⟩⟩, ?_⟩
          refine lv_astore (lv' := [(6, .ref x), (0, .ref d), (1, .int p0), (2, .int p1), (3, .int p2), (4, .int p3), (5, .ref ou)]) hx hb d_W_close_21 hl (by decide) rfl (fun ls hl => ?_)
          refine lv_iconst (v := 2) hx hb d_W_close_23 (by decide) ?_
          exact z_iretT cx.1 cx.2.1 cx.rt cx.lk hS hZ ⟨(Nat.le_of_ble_eq_true rfl), (Nat.le_of_ble_eq_true rfl)⟩ d_W_close_24 ⟨rfl, hci (cx.ez hZ), hRI.keepK hkp, f0, hkp _ _ hou ref_long, fun q => absurd q (by decide)⟩
        · refine ⟨25, ⟨[xa, xb], xc, [], by rw [hxe]; rfl, by simp [covers, k1, k2], k3, by rw [k4]; decide, by rw [k4]; exact tw_307, fun y hy => by
              rcases List.mem_cons.mp hy with q | q
              · rw [q, a4]; exact ⟨by decide, nISE, tw_305, z2⟩
              · rw [List.mem_singleton.mp q, b4]; exact ⟨by decide, nIAE, tw_306, z3⟩⟩, ?_⟩
          refine lv_astore (lv' := [(6, .ref x), (0, .ref d), (1, .int p0), (2, .int p1), (3, .int p2), (4, .int p3), (5, .ref ou)]) hx hb d_W_close_25 hl (by decide) rfl (fun ls hl => ?_)
          refine lv_iconst (v := 3) hx hb d_W_close_27 (by decide) ?_
          exact z_iretT cx.1 cx.2.1 cx.rt cx.lk hS hZ ⟨(Nat.le_of_ble_eq_true rfl), (Nat.le_of_ble_eq_true rfl)⟩ d_W_close_28 ⟨rfl, hci (cx.ez hZ), hRI.keepK hkp, f0, hkp _ _ hou ref_long, fun q => absurd q (by decide)⟩
    · rintro v w2 ⟨⟨b, rfl⟩, h1, h2⟩
      exact ⟨b, rfl, fun q => absurd q (by simp only [List.mem_cons, List.not_mem_nil, or_false, Prod.mk.injEq] at hj; rcases hj with ⟨-, rfl⟩ | ⟨-, rfl⟩ | ⟨-, rfl⟩ <;> decide), h1, h2⟩
  · refine ⟨0, r, X1, ?_, fun w1 h1 => (RR w1 h1).mono (Nat.le_refl _) (Nat.le_refl _) (Nat.le_refl _) (Nat.le_refl _) ?_⟩
    · refine z_ctH (by decide) (Nat.le_of_ble_eq_true rfl) ?_
      intro p e s m below meth c1 ls cx hzt htab hZ hS hl
      have hx := cx.1
      have hb := cx.2.1
      have hl : lv_has ls 7 [(0, .ref d), (1, .int p0), (2, .int p1), (3, .int p2), (4, .int p3), (5, .ref ou)] := hl
      refine lv_aload hx hb d_W_close_0 (lv_at hl 5 rfl) ?_
      refine lv_iconst (v := 0) hx hb d_W_close_2 (by decide) ?_
      refine lv_aload_n hx hb d_W_close_3 rfl (lv_at hl 0 rfl) ?_
      refine lv_iload_n hx hb d_W_close_4 rfl (lv_at hl 1 rfl) ?_
      refine lv_iload_n hx hb d_W_close_5 rfl (lv_at hl 2 rfl) ?_
      refine lv_iload_n hx hb d_W_close_6 rfl (lv_at hl 3 rfl) ?_
      refine lv_iload hx hb d_W_close_7 (lv_at hl 4 rfl) ?_
      refine z_ivT (C := "BoxDesk") (n := 4) (As := [.int p0, .int p1, .int p2, .int p3]) (rest := [.int 0, .ref ou]) cx hzt tw_311 tw_1 tw_308 tw_309 tw_310 (by decide +kernel) (hZ.recv cx.K rfl hd) CC ⟨(Nat.le_of_ble_eq_true rfl), (Nat.le_of_ble_eq_true rfl)⟩ ⟨(Nat.le_of_ble_eq_true rfl), (Nat.le_of_ble_eq_true rfl)⟩ rfl hl.1 rfl (Nat.le_of_ble_eq_true rfl) d_W_close_9 hZ hS (fun v wm H locs hpm hZ hS => ?_) (fun N x wm H locs hpm hZ hS => ?_)
      · obtain ⟨rfl, hci, hkp⟩ := hpm
        have hci := hci (cx.ez hZ)
        have hom := hkp _ _ hou ref_long
        refine W.eq (g2 := F0 m 12 ls [.int r, .int 0, .ref ou]) rfl ?_
        refine lv_i2l hx hb d_W_close_12 rfl ?_
        refine st_l cx hZ hS hom (vp_in_nI (n := 0) (by omega) (by omega)) d_W_close_13 (fun w1 H locs hw1 hZ hS => ?_)
        refine lv_goto (tgt := 29) hx hb d_W_close_14 (by decide) ?_
        refine lv_iconst (v := 0) hx hb d_W_close_29 (by decide) ?_
        exact z_iretT cx.1 cx.2.1 cx.rt cx.lk hS hZ ⟨(Nat.le_of_ble_eq_true rfl), (Nat.le_of_ble_eq_true rfl)⟩ d_W_close_30 ⟨rfl, hci.store (hRI.keepK hkp) hom hw1 (cx.ez hZ), (hRI.keepK hkp).store hw1 hno, _, up_self hw1, fun _ => rfl⟩
      · exact hpm.elim
    · rintro v w2 ⟨rfl, h1, h2⟩
      exact ⟨r, rfl, fun _ => rfl, h1, h2⟩
