/-! the law's loop -/
theorem lw_go {L k : Nat} (hL : L ≤ 2560) (hk : 5 * k ≤ L) : (nI L - 5 < nI (5 * k)) ↔ L < 5 * k + 5 := by
  rw [Int32.lt_iff_toInt_lt, show (5 : Int32) = nI 5 from by decide, pk_sub_toInt (by omega) (by omega), nI_toInt (by omega)]
  omega
set_option maxHeartbeats 4000000 in
theorem law_loop {p : Program} {e : Env} {s : State} {m : MethodId} {below : List Frame} {meth : Method} {c : Code} {l : Launch} {b L : Nat} {xs : Nat → Int32} {G : zG} {e0 : Nat} {d la ra o ou : Nat} {A : Nat → Nat} (hTr : l.stackTraces = false) (hzt : zT s.heap.size s) (cx : Cx G s.heap.size e0 p s m #[Value.ref b] meth c code 7 "BoxDeskLaw" ret) (hX : va_X b L xs s s.heap) (hbl : b < s.heap.size) (hL : L ≤ 2560) (hA : ∀ i j, i < 13 → j < 13 → i ≠ j → A i ≠ A j) (hno : ou ∉ allR o A) :
    ∀ (n k : Nat) (X : XS) (w : zw) (H : Heap) (locs : List Loc) (ls : Array Slot), L ≤ 5 * k + 5 * n + 4 → 5 * k ≤ L → CI G e0 w d la ra (ou :: allR o A) k X → RI G w o A X → ouC G w ou → Zw G.1 vwC (zA s.heap.size) w H → va_S (zA s.heap.size) s.heap H locs → lv_has ls 7 (lwL k d o ou b) →
      W p l e room_1 s m #[Value.ref b] below meth c H locs (18 + 210 * k) (74242 + 4200 * k) (lw_Z below #[Value.ref b] s) (F0 m 23 ls []) := by
  intro n
  induction n with
  | zero =>
    intro k X w H locs ls hn hk hI hRI hou hZ hS hl
    refine lv_iload cx.1 cx.2.1 d_law_23 (lv_at hl 0 rfl) ?_
    refine lv_aload_n cx.1 cx.2.1 d_law_25 rfl (lv_at hl 4 rfl) ?_
    refine va_slen (A := zA s.heap.size) cx.1 cx.2.1 hX hbl (Nat.not_le.mpr hbl) hS d_law_26 ?_
    refine lv_iconst (v := 5) cx.1 cx.2.1 d_law_27 (by decide) ?_
    refine lv_isub cx.1 cx.2.1 d_law_28 ?_
    refine lv_icmp_gt (tgt := 776) cx.1 cx.2.1 d_law_29 (by decide) (fun _ => ?_) (fun q => absurd ((lw_go hL hk).mpr (by omega)) q)
    refine lv_iconst (v := 1) cx.1 cx.2.1 d_law_776 (by decide) ?_
    exact va_forget (fun q hq => hS.2.2 q hq) (W.widen (k := 601024) (n := 7293034) (by omega) (by omega) (lw_ret cx.1 cx.2.1 cx.rt cx.lk d_law_777))
  | succ n ih =>
    intro k X w H locs ls hn hk hI hRI hou hZ hS hl
    refine lv_iload cx.1 cx.2.1 d_law_23 (lv_at hl 0 rfl) ?_
    refine lv_aload_n cx.1 cx.2.1 d_law_25 rfl (lv_at hl 4 rfl) ?_
    refine va_slen (A := zA s.heap.size) cx.1 cx.2.1 hX hbl (Nat.not_le.mpr hbl) hS d_law_26 ?_
    refine lv_iconst (v := 5) cx.1 cx.2.1 d_law_27 (by decide) ?_
    refine lv_isub cx.1 cx.2.1 d_law_28 ?_
    refine lv_icmp_gt (tgt := 776) cx.1 cx.2.1 d_law_29 (by decide) (fun _ => ?_) (fun q => ?_)
    · refine lv_iconst (v := 1) cx.1 cx.2.1 d_law_776 (by decide) ?_
      exact va_forget (fun q hq => hS.2.2 q hq) (W.widen (k := 601024) (n := 7293034) (by omega) (by omega) (lw_ret cx.1 cx.2.1 cx.rt cx.lk d_law_777))
    · have hk5 : 5 * k + 5 ≤ L := Nat.le_of_not_lt (fun r => q ((lw_go hL hk).mpr r))
      have hc : 18 + 210 * k + 210 ≤ 601024 ∧ 74242 + 4200 * k + 4200 ≤ 7293034 := ⟨by omega, by omega⟩
      have kk : ∀ (X' : XS) (w2 : zw) (H2 : Heap) (locs2 : List Loc) (ls2 : Array Slot), CI G e0 w2 d la ra (ou :: allR o A) (k + 1) X' → RI G w2 o A X' → ouC G w2 ou → Zw G.1 vwC (zA s.heap.size) w2 H2 → va_S (zA s.heap.size) s.heap H2 locs2 → lv_has ls2 7 (lwL k d o ou b) → W p l e room_1 s m #[Value.ref b] below meth c H2 locs2 (18 + 210 * k + 210) (74242 + 4200 * k + 4200) (lw_Z below #[Value.ref b] s) (F0 m 770 ls2 []) := by
        intro X' w2 H2 locs2 ls2 h1 h2 h3 h4 h5 h6
        refine lv_iinc (k := 0) (lv' := lwL (k + 1) d o ou b) cx.1 cx.2.1 d_law_770 h6 rfl (v := nI (5 * (k + 1))) ?_ (by decide) rfl (fun ls3 hl3 => ?_)
        · rw [show Int32.ofInt 5 = nI 5 from by decide, nI_add]
          congr 1
        · refine lv_goto (tgt := 23) cx.1 cx.2.1 d_law_773 (by decide) ?_
          rw [show 18 + 210 * k + 210 = 18 + 210 * (k + 1) by omega, show 74242 + 4200 * k + 4200 = 74242 + 4200 * (k + 1) by omega]
          exact ih (k + 1) X' w2 H2 locs2 ls3 (by omega) (by omega) h1 h2 h3 h4 h5 hl3
      refine lv_aload_n cx.1 cx.2.1 d_law_32 rfl (lv_at hl 4 rfl) ?_
      refine lv_iload cx.1 cx.2.1 d_law_33 (lv_at hl 0 rfl) ?_
      refine va_sld (A := zA s.heap.size) cx.1 cx.2.1 hX hbl (Nat.not_le.mpr hbl) hS (vp_in_nI (n := 5 * k) (by omega) (by omega)) d_law_35 ?_
      refine lv_bipush (v := 15) cx.1 cx.2.1 d_law_36 (by decide) ?_
      refine lv_iand cx.1 cx.2.1 d_law_38 ?_
      obtain ⟨q0, hq0, e0'⟩ := and_15 (xs (nI (5 * k)).toNatClampNeg)
      rw [e0']
      have dflt : W p l e room_1 s m #[Value.ref b] below meth c H locs (18 + 210 * k) (74242 + 4200 * k) (lw_Z below #[Value.ref b] s) (F0 m 770 ls []) := W.widen (k := 18 + 210 * k + 210) (n := 74242 + 4200 * k + 4200) (by omega) (by omega) (kk X w H locs ls (hI.mono (Nat.le_succ k)) hRI hou hZ hS hl)
      match q0, hq0 with
      | 0, _ => exact lv_tableIn (off := 65) (tgt := 104) cx.1 cx.2.1 d_law_39 (by decide) (by decide) (by decide) (by decide) (lw_case_0 cx hX hbl hL hA hno hk5 hc hI hRI hou hZ hS hl kk)
      | 1, _ => exact lv_tableIn (off := 106) (tgt := 145) cx.1 cx.2.1 d_law_39 (by decide) (by decide) (by decide) (by decide) (lw_case_1 cx hX hbl hL hA hno hk5 hc hI hRI hou hZ hS hl kk)
      | 2, _ => exact lv_tableIn (off := 155) (tgt := 194) cx.1 cx.2.1 d_law_39 (by decide) (by decide) (by decide) (by decide) (lw_case_2 cx hX hbl hL hA hno hk5 hc hI hRI hou hZ hS hl kk)
      | 3, _ => exact lv_tableIn (off := 216) (tgt := 255) cx.1 cx.2.1 d_law_39 (by decide) (by decide) (by decide) (by decide) (lw_case_3 cx hX hbl hL hA hno hk5 hc hI hRI hou hZ hS hl kk)
      | 4, _ => exact lv_tableIn (off := 277) (tgt := 316) cx.1 cx.2.1 d_law_39 (by decide) (by decide) (by decide) (by decide) (lw_case_4 cx hX hbl hL hA hno hk5 hc hI hRI hou hZ hS hl kk)
      | 5, _ => exact lv_tableIn (off := 302) (tgt := 341) cx.1 cx.2.1 d_law_39 (by decide) (by decide) (by decide) (by decide) (lw_case_5 cx hX hbl hL hA hno hk5 hc hI hRI hou hZ hS hl kk)
      | 6, _ => exact lv_tableIn (off := 327) (tgt := 366) cx.1 cx.2.1 d_law_39 (by decide) (by decide) (by decide) (by decide) (lw_case_6 cx hX hbl hL hA hno hk5 hc hI hRI hou hZ hS hl hTr hzt kk)
      | 7, _ => exact lv_tableIn (off := 419) (tgt := 458) cx.1 cx.2.1 d_law_39 (by decide) (by decide) (by decide) (by decide) (lw_case_7 cx hX hbl hL hA hno hk5 hc hI hRI hou hZ hS hl kk)
      | 8, _ => exact lv_tableIn (off := 484) (tgt := 523) cx.1 cx.2.1 d_law_39 (by decide) (by decide) (by decide) (by decide) (lw_case_8 cx hX hbl hL hA hno hk5 hc hI hRI hou hZ hS hl kk)
      | 9, _ => exact lv_tableIn (off := 509) (tgt := 548) cx.1 cx.2.1 d_law_39 (by decide) (by decide) (by decide) (by decide) (lw_case_9 cx hX hbl hL hA hno hk5 hc hI hRI hou hZ hS hl kk)
      | 10, _ => exact lv_tableIn (off := 558) (tgt := 597) cx.1 cx.2.1 d_law_39 (by decide) (by decide) (by decide) (by decide) (lw_case_10 cx hX hbl hL hA hno hk5 hc hI hRI hou hZ hS hl hTr hzt kk)
      | 11, _ => exact lv_tableIn (off := 626) (tgt := 665) cx.1 cx.2.1 d_law_39 (by decide) (by decide) (by decide) (by decide) (lw_case_11 cx hX hbl hL hA hno hk5 hc hI hRI hou hZ hS hl hTr hzt kk)
      | 12, _ => exact lv_tableIn (off := 706) (tgt := 745) cx.1 cx.2.1 d_law_39 (by decide) (by decide) (by decide) (by decide) (lw_case_12 cx hX hbl hL hA hno hk5 hc hI hRI hou hZ hS hl kk)
      | 13, _ => exact lv_tableOut (tgt := 770) cx.1 cx.2.1 d_law_39 (by decide) (by decide) dflt
      | 14, _ => exact lv_tableOut (tgt := 770) cx.1 cx.2.1 d_law_39 (by decide) (by decide) dflt
      | 15, _ => exact lv_tableOut (tgt := 770) cx.1 cx.2.1 d_law_39 (by decide) (by decide) dflt
      | q0 + 16, h => exact absurd h (by omega)
