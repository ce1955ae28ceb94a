/-! what holds at the start -/
theorem ti_70 : (Jvm.Cond.laysStatic "java/util/ArrayList" "DEFAULTCAPACITY_EMPTY_ELEMENTDATA" "[Ljava/lang/Object;") ∈ lw_tbl := List.mem_append_right _ (tg_1 (List.mem_of_getElem? (i := 70) rfl))
theorem ti_339 : (Jvm.Cond.laysStatic "java/lang/Throwable" "UNASSIGNED_STACK" "[Ljava/lang/StackTraceElement;") ∈ lw_tbl := List.mem_append_right _ (tg_2 (List.mem_of_getElem? (i := 99) rfl))
theorem ti_341 : (Jvm.Cond.laysStatic "java/lang/Throwable" "SUPPRESSED_SENTINEL" "Ljava/util/List;") ∈ lw_tbl := List.mem_append_right _ (tg_2 (List.mem_of_getElem? (i := 101) rfl))
theorem ti_354 : (Jvm.Cond.stringRef "BoxDesk" (66 : Nat) "no list is open") ∈ lw_tbl := List.mem_append_right _ (tg_2 (List.mem_of_getElem? (i := 114) rfl))
theorem ti_390 : (Jvm.Cond.stringRef "BoxDesk" (77 : Nat) "no such spec, amount, limit or register") ∈ lw_tbl := List.mem_append_right _ (tg_2 (List.mem_of_getElem? (i := 150) rfl))
theorem ti_486 : (Jvm.Cond.stringRef "BoxDesk" (103 : Nat) "the box can't be made") ∈ lw_tbl := List.mem_append_right _ (tg_3 (List.mem_of_getElem? (i := 6) rfl))
theorem ti_577 : (Jvm.Cond.stringRef "BoxDesk" (154 : Nat) "no such register or what") ∈ lw_tbl := List.mem_append_right _ (tg_3 (List.mem_of_getElem? (i := 97) rfl))
theorem ti_596 : (Jvm.Cond.stringRef "BoxDesk" (161 : Nat) "no such register, item or what") ∈ lw_tbl := List.mem_append_right _ (tg_3 (List.mem_of_getElem? (i := 116) rfl))
theorem ti_316 : (Jvm.Cond.declares ({ cls := "java/lang/RuntimeException", name := "<init>", desc := "(Ljava/lang/String;)V" } : Jvm.MethodName)) ∈ lw_tbl := List.mem_append_right _ (tg_2 (List.mem_of_getElem? (i := 76) rfl))
theorem ti_318 : (Jvm.Cond.declares ({ cls := "java/lang/Exception", name := "<init>", desc := "(Ljava/lang/String;)V" } : Jvm.MethodName)) ∈ lw_tbl := List.mem_append_right _ (tg_2 (List.mem_of_getElem? (i := 78) rfl))
theorem ti_320 : (Jvm.Cond.declares ({ cls := "java/lang/Throwable", name := "<init>", desc := "(Ljava/lang/String;)V" } : Jvm.MethodName)) ∈ lw_tbl := List.mem_append_right _ (tg_2 (List.mem_of_getElem? (i := 80) rfl))
theorem ti_830 : (Jvm.Cond.declares ({ cls := "java/lang/Object", name := "getClass", desc := "()Ljava/lang/Class;" } : Jvm.MethodName)) ∈ lw_tbl := List.mem_append_right _ (tg_4 (List.mem_of_getElem? (i := 110) rfl))
theorem ka_prim {args : Array Value} {s : State} {ty : FieldType} (h : (Cond.arrayClass ty).before args s = true) (hp : ty = .int ∨ ty = .long ∨ ty = .boolean) : ∃ cA, ArrOfT s cA ty ∧ va_RA s cA ty := by
  obtain ⟨cA, kA, comp, h1, h2, h3⟩ := Cond.arrayClass_spec h
  refine ⟨cA, fun n z => ⟨fun k h => (by cases h), kA, h2, comp, h3⟩, ?_⟩
  rcases hp with rfl | rfl | rfl <;> exact h1
theorem ka_obj {args : Array Value} {s : State} {C : String} (h : (Cond.arrayOver (.object C)).before args s = true) : ∃ cA, ArrOfT s cA (.object C) ∧ va_RA s cA (.object C) := by
  obtain ⟨comp, cA, kA, f4, -, f2, f3, f1⟩ := Cond.arrayOver_spec h
  exact ⟨cA, fun N z => ⟨(fun k h => by cases h), kA, f2, comp, f3⟩, kA, comp, f2, f3, f4, f1⟩
theorem zN_of {X Y : String} {args : Array Value} {s : State} (h : (Cond.not (.castable X Y)).before args s = true) : zN X Y s := by
  intro cX cY h1 h2
  have hv := Cond.holds_not_iff.mp h
  simp only [Cond.value, h1, h2] at hv
  exact Option.some.inj hv
theorem vk_of {own tx cls : String} {k : Nat} {args : Array Value} {s : State} (h1 : (Cond.stringRef own k tx).before args s = true) (h2 : (Cond.exactly (.string own k) cls).before args s = true) : ∃ a, vk_R own k tx a s := by
  obtain ⟨a, c, cell, kk, ha, -⟩ := Cond.exactly_spec h2
  exact ⟨a, vk_R.of h1 ha⟩
theorem zw_0 {D : va_G} {cl : List vw_C} {A : Nat → Prop} {H : Heap} : Zw D cl A (fun _ => none) H := ⟨[], fun k q h => by simp at h, ⟨fun i j p q h => by simp at h, fun k q h => by simp at h⟩, rfl⟩
set_option maxRecDepth 100000 in
set_option maxHeartbeats 4000000 in
theorem st_zT {b : Nat} {s : State} (hts : ∀ w ∈ lw_tbl, w.before #[Value.ref b] s = true) (hgv : (Jvm.Cond.and given_1 narrow_1).before #[Value.ref b] s = true) : zT s.heap.size s := by
  have hs := flat_of_before _ hgv
  refine ⟨zS.of (hts _ ti_339) (hs (.isRef (.static "java/lang/Throwable" "UNASSIGNED_STACK" "[Ljava/lang/StackTraceElement;")) (by decide +kernel)) (Nat.le_refl _), zS.of (hts _ ti_341) (hs (.isRef (.static "java/lang/Throwable" "SUPPRESSED_SENTINEL" "Ljava/util/List;")) (by decide +kernel)) (Nat.le_refl _), ⟨va_Nw.of rfl (hts _ ti_316), va_Nw.of rfl (hts _ ti_318), va_Nw.of rfl (hts _ ti_320)⟩, ⟨vk_of (hts _ ti_354) (hs (.exactly (.string "BoxDesk" 66) "java/lang/String") (by decide +kernel)), vk_of (hts _ ti_390) (hs (.exactly (.string "BoxDesk" 77) "java/lang/String") (by decide +kernel)), vk_of (hts _ ti_486) (hs (.exactly (.string "BoxDesk" 103) "java/lang/String") (by decide +kernel)), vk_of (hts _ ti_577) (hs (.exactly (.string "BoxDesk" 154) "java/lang/String") (by decide +kernel)), vk_of (hts _ ti_596) (hs (.exactly (.string "BoxDesk" 161) "java/lang/String") (by decide +kernel))⟩, zN_of (hs (.not (.castable nIAE nISE)) (by decide +kernel)), zN_of (hs (.not (.castable nUOE nISE)) (by decide +kernel)), zN_of (hs (.not (.castable nUOE nIAE)) (by decide +kernel))⟩
set_option maxRecDepth 100000 in
set_option maxHeartbeats 4000000 in
theorem st_cx {p : Program} {s : State} {m : MethodId} {meth : Method} {c : Code} {b L : Nat} {xs : Nat → Int32} (C0 : lw_At p s m meth c b L xs) : ∃ (G : zG) (e0 : Nat), Cx G s.heap.size e0 p s m #[Value.ref b] meth c code 7 "BoxDeskLaw" ret := by
  obtain ⟨hx, hb, hr, hml, hown, hts, hX, hbl, hlocks, hgv⟩ := id C0
  have hs := flat_of_before _ hgv
  have tb : ∀ w ∈ TB, w.before #[Value.ref b] s = true := fun w hw => hts w (TB_lw w hw)
  have nb : ∀ w ∈ NB, va_Nw w s := fun w hw => nb_of (NB_lw w hw).2 (hts w (NB_lw w hw).1)
  have nA : ∀ a : Nat, a < s.heap.size → ¬ zA s.heap.size a := fun a h q => absurd h (Nat.not_lt.mpr q)
  have hlen : (Term.length (.static "java/util/ArrayList" "DEFAULTCAPACITY_EMPTY_ELEMENTDATA" "[Ljava/lang/Object;")).eval #[Value.ref b] s none [] s = some (.int (Int32.ofNat 0)) := Cond.eq_int (hs (.eq (.length (.static "java/util/ArrayList" "DEFAULTCAPACITY_EMPTY_ELEMENTDATA" "[Ljava/lang/Object;")) (.int 0)) (by decide +kernel)) rfl
  obtain ⟨e0, he0, hT0⟩ := va_Tof (ty := .object "java/lang/Object") (f := fun _ => Value.null) (A := zA s.heap.size) (N := 0) (by decide) (hs (.arrayOf (.static "java/util/ArrayList" "DEFAULTCAPACITY_EMPTY_ELEMENTDATA" "[Ljava/lang/Object;") (.object "java/lang/Object")) (by decide +kernel)) hlen (fun j hj => absurd hj (Nat.not_lt_zero _)) nA
  have hZ0 := va_Zref (hts _ ti_70) (tb _ tw_6) he0 nA
  obtain ⟨mi, hMi⟩ := va_Mi.of (hs (.isRef (.mirror "[Ljava/lang/Object;")) (by decide +kernel))
  obtain ⟨c0, i0, k0⟩ := u_known (C := R_A) (T := T_A) (N := 3) (n := 3) tb in_A (tb _ tw_58)
  obtain ⟨c1, i1, k1⟩ := u_known (C := R_I) (T := T_I) (N := 12) (n := 12) tb in_I (tb _ tw_112)
  obtain ⟨c2, i2, k2⟩ := u_known (C := R_L) (T := T_L) (N := 2) (n := 2) tb in_L (tb _ tw_52)
  obtain ⟨c3, i3, k3⟩ := u_known (C := R_M) (T := T_M) (N := 8) (n := 8) tb in_M (tb _ tw_401)
  obtain ⟨c4, i4, k4⟩ := u_known (C := R_B) (T := T_B) (N := 7) (n := 7) tb in_B (tb _ tw_493)
  obtain ⟨c5, i5, k5⟩ := u_known (C := R_D) (T := T_D) (N := 4) (n := 4) tb in_D (tb _ tw_24)
  obtain ⟨c6, i6, k6⟩ := u_known (C := R_R) (T := T_R) (N := 21) (n := 21) tb in_R (tb _ tw_608)
  obtain ⟨a0, r0⟩ := ka_prim (tb _ tw_559) (Or.inl rfl)
  obtain ⟨a1, r1⟩ := ka_prim (tb _ tw_440) (Or.inr (Or.inl rfl))
  obtain ⟨a2, r2⟩ := ka_prim (tb _ tw_677) (Or.inr (Or.inr rfl))
  obtain ⟨a3, r3⟩ := ka_obj (nb _ nw_218)
  obtain ⟨a4, r4⟩ := ka_obj (nb _ nw_32)
  obtain ⟨a5, r5⟩ := ka_obj (nb _ nw_34)
  refine ⟨((fun k => match k with | 0 => c0 | 1 => c1 | 2 => c2 | 3 => c3 | 4 => c4 | 5 => c5 | _ => c6, fun k => match k with | 0 => i0 | 1 => i1 | 2 => i2 | 3 => i3 | 4 => i4 | 5 => i5 | _ => i6), fun k => match k with | 0 => a0 | 1 => a1 | 2 => a2 | 3 => a3 | 4 => a4 | 5 => a5 | _ => mi), e0, hx, hb, hml, hown, tb, ⟨fun k q hq => ?_, fun k q hq => ?_⟩, Nat.le_refl _, ⟨nb, hZ0, hT0, hMi, va_Dc.of (hts _ ti_830)⟩, hlocks, hr⟩
  · match k, hq with
    | 0, hq => cases hq; exact k0
    | 1, hq => cases hq; exact k1
    | 2, hq => cases hq; exact k2
    | 3, hq => cases hq; exact k3
    | 4, hq => cases hq; exact k4
    | 5, hq => cases hq; exact k5
    | 6, hq => cases hq; exact k6
    | k + 7, hq => simp [vwC] at hq
  · match k, hq with
    | 0, hq => cases hq; exact r0
    | 1, hq => cases hq; exact r1
    | 2, hq => cases hq; exact r2
    | 3, hq => cases hq; exact r3
    | 4, hq => cases hq; exact r4
    | 5, hq => cases hq; exact r5
    | k + 6, hq => simp [ztys] at hq
set_option maxRecDepth 100000 in
set_option maxHeartbeats 4000000 in
/-- THE LAW, from its entry -/
theorem whole_start {p : Program} {e : Env} {s : State} {m : MethodId} {below : List Frame} {meth : Method} {c : Code} (l : Launch) (hTr : l.stackTraces = false) {b L : Nat} {xs : Nat → Int32} (hL : L ≤ 2560) (C0 : lw_At p s m meth c b L xs) : W p l e room_1 s m #[Value.ref b] below meth c s.heap [] 0 0 (lw_Z below #[Value.ref b] s) (entryFrame m ([Value.ref b] : List Value).toArray 7) := by
  obtain ⟨G, e0, cx⟩ := st_cx C0
  obtain ⟨hx, hb, hr, hml, hown, hts, hX, hbl, hlocks, hgv⟩ := id C0
  have hzt := st_zT hts hgv
  have hS : va_S (zA s.heap.size) s.heap s.heap [] := va_S.rf
  have hZ : Zw G.1 vwC (zA s.heap.size) (fun _ => none) s.heap := zw_0
  have hl := lv_entry ([.ref b]) (n := 7) (Nat.le_of_ble_eq_true rfl)
  rw [lg_entry_eq]
  generalize (lg_sl ([.ref b]) ++ List.replicate (7 - (lg_sl ([.ref b])).length) Slot.unset).toArray = ls at hl ⊢
  have hl : lv_has ls 7 [(0, .ref b)] := hl
  refine z_new (T := T_D) cx.1 cx.2.1 cx.tb in_D ty_D ty_D_ok cx.ow (cx.tb _ tw_23) (cx.tb _ tw_24) (cx.tb _ tw_1) cx.K hZ hS cx.hA (ci := 5) rfl (fs := [.null, .int 0, .null, .int 0]) (fun j hj => by rcases (show j = 0 ∨ j = 1 ∨ j = 2 ∨ j = 3 by omega) with rfl | rfl | rfl | rfl <;> rfl) (Nat.le_of_ble_eq_true rfl) (Nat.le_of_ble_eq_true rfl) d_law_0 (fun d H hd0 hZ hS => ?_)
  refine lv_dup cx.1 cx.2.1 d_law_3 rfl ?_
  refine z_ivI (n := 0) (As := []) (rest := [.ref d]) cx tw_27 tw_1 tw_25 tw_26 rfl (by decide +kernel) (c_D_init l G s.heap.size e0 _ d (va_up_self _ _ _)) ⟨(Nat.le_of_ble_eq_true rfl), (Nat.le_of_ble_eq_true rfl)⟩ ⟨(Nat.le_of_ble_eq_true rfl), (Nat.le_of_ble_eq_true rfl)⟩ rfl hl.1 rfl (Nat.le_of_ble_eq_true rfl) d_law_4 hZ hS (fun v w1 H locs hp hZ hS => ?_)
  obtain ⟨la, ra, rfl, -, -, hla, hra, hd, hF1⟩ := hp
  refine W.eq (g2 := F0 m 7 ls [.ref d]) rfl ?_
  refine lv_astore_n (lv' := [(1, .ref d), (0, .ref b)]) cx.1 cx.2.1 d_law_7 rfl hl (by decide) rfl (fun ls hl => ?_)
  refine z_new (T := T_R) cx.1 cx.2.1 cx.tb in_R ty_R ty_R_ok cx.ow (cx.tb _ tw_607) (cx.tb _ tw_608) (cx.tb _ tw_2) cx.K hZ hS cx.hA (ci := 6) rfl (fs := [.int 0, .null, .null, .null, .null, .null, .null, .null, .null, .null, .int 0, .null, .null, .int 0, .null, .long 0, .long 0, .long 0, .long 0, .null, .long 0]) (fun j hj => by rcases (show j = 0 ∨ j = 1 ∨ j = 2 ∨ j = 3 ∨ j = 4 ∨ j = 5 ∨ j = 6 ∨ j = 7 ∨ j = 8 ∨ j = 9 ∨ j = 10 ∨ j = 11 ∨ j = 12 ∨ j = 13 ∨ j = 14 ∨ j = 15 ∨ j = 16 ∨ j = 17 ∨ j = 18 ∨ j = 19 ∨ j = 20 by omega) with rfl | rfl | rfl | rfl | rfl | rfl | rfl | rfl | rfl | rfl | rfl | rfl | rfl | rfl | rfl | rfl | rfl | rfl | rfl | rfl | rfl <;> rfl) (Nat.le_of_ble_eq_true rfl) (Nat.le_of_ble_eq_true rfl) d_law_8 (fun o H ho0 hZ hS => ?_)
  refine lv_dup cx.1 cx.2.1 d_law_11 rfl ?_
  have nd : d ≠ o := fun q => by rw [q, ho0] at hd; cases hd
  have nla : la ≠ o := fun q => by rw [q, ho0] at hla; cases hla
  have nra : ra ≠ o := fun q => by rw [q, ho0] at hra; cases hra
  have hd := (va_up_ne w1 (some (.inr (6, [.int 0, .null, .null, .null, .null, .null, .null, .null, .null, .null, .int 0, .null, .null, .int 0, .null, .long 0, .long 0, .long 0, .long 0, .null, .long 0]))) nd).trans hd
  have hla := (va_up_ne w1 (some (.inr (6, [.int 0, .null, .null, .null, .null, .null, .null, .null, .null, .null, .int 0, .null, .null, .int 0, .null, .long 0, .long 0, .long 0, .long 0, .null, .long 0]))) nla).trans hla
  have hra := (va_up_ne w1 (some (.inr (6, [.int 0, .null, .null, .null, .null, .null, .null, .null, .null, .null, .int 0, .null, .null, .int 0, .null, .long 0, .long 0, .long 0, .long 0, .null, .long 0]))) nra).trans hra
  refine z_ivI (n := 0) (As := []) (rest := [.ref o]) cx tw_611 tw_2 tw_609 tw_610 rfl (by decide +kernel) (r_init l G s.heap.size e0 _ o (va_up_self _ _ _)) ⟨(Nat.le_of_ble_eq_true rfl), (Nat.le_of_ble_eq_true rfl)⟩ ⟨(Nat.le_of_ble_eq_true rfl), (Nat.le_of_ble_eq_true rfl)⟩ rfl hl.1 rfl (Nat.le_of_ble_eq_true rfl) d_law_12 hZ hS (fun v w2 H locs hp hZ hS => ?_)
  obtain ⟨A, rfl, hA, hAn, hAr, ho, hF2⟩ := hp
  have hd := hF2.keep hd (by simp [nd])
  have hla := hF2.keep hla (by simp [nla])
  have hra := hF2.keep hra (by simp [nra])
  refine W.eq (g2 := F0 m 15 ls [.ref o]) rfl ?_
  refine lv_astore_n (lv' := [(2, .ref o), (1, .ref d), (0, .ref b)]) cx.1 cx.2.1 d_law_15 rfl hl (by decide) rfl (fun ls hl => ?_)
  refine lv_iconst (v := 1) cx.1 cx.2.1 d_law_16 (by decide) ?_
  refine new_l cx hZ hS (N := 1) (by decide) (by decide) (by decide) (Nat.le_of_ble_eq_true rfl) (Nat.le_of_ble_eq_true rfl) d_law_17 (fun ou w3 H hou0 hw3 hZ hS => ?_)
  refine lv_astore_n (lv' := [(3, .ref ou), (2, .ref o), (1, .ref d), (0, .ref b)]) cx.1 cx.2.1 d_law_19 rfl hl (by decide) rfl (fun ls hl => ?_)
  refine lv_iconst (v := 0) cx.1 cx.2.1 d_law_20 (by decide) ?_
  refine lv_istore (lv' := lwL 0 d o ou b) cx.1 cx.2.1 d_law_21 hl (by decide) rfl (fun ls hl => ?_)
  have hri2 : RI G w2 o A X0 := ri_init hAr ho
  have hno : ou ∉ allR o A := by
    intro q
    obtain ⟨y, hy, -⟩ := hri2.cells ou q
    rw [hou0] at hy; cases hy
  have nou : ∀ {x : Nat} {y : va_E}, w2 x = some y → w3 x = some y := fun hx => up_ne hw3 hx (fun q => by rw [q, hou0] at hx; cases hx)
  refine W.widen (k := 18 + 210 * 0) (n := 74242 + 4200 * 0) (Nat.le_of_ble_eq_true rfl) (Nat.le_of_ble_eq_true rfl) ?_
  exact law_loop hTr hzt cx hX hbl hL hA hno (L + 1) 0 X0 w3 H _ ls (by omega) (Nat.zero_le _) (ci_init (nou hd) (nou hla) (nou hra) (cx.ez hZ) cx.g43 cx.g53) (hri2.store hw3 hno) ⟨_, up_self hw3⟩ hZ hS hl
