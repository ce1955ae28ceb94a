/-! THE CLAIM OUT OF ONE WALK OF THE LAW'S BODY. Your part is whole_start (and what it stands on); all else here is the same for every law, but numbers. -/
def R_law : String := "BoxDeskLaw"
def lw_P (b : Addr) (xs : List Int32) (args : Array Value) (s : State) : Prop := args = #[.ref b] ∧ s.IntsAt b xs ∧ xs.length ≤ 2560 ∧ (Jvm.Cond.and given_1 narrow_1).before args s = true
def lw_Q (_ : Array Value) (s : State) (o : Outcome) (t : State) : Prop := o = .returned (some (.int 1)) ∧ Framed s o t [] 601024 7293034
def lw_Z (below : List Frame) (a : Array Value) (s : State) : State → Prop := fun t => ∃ o, t.status = .running ∧ Ended t below o ∧ lw_Q a s o t
/-- the law's own end, with 1 on the stack, nothing written that was there before, its room as the claim has it -/
theorem lw_ret {p : Program} {l : Launch} {e : Env} {s : State} {m : MethodId} {below : List Frame} {meth : Method} {c : Code} {b : Nat} (hx : p.tables.exec = Jvm.exec) (hb : c.code = code) (hr : meth.sig.returnType = ret) (hlocks : meth.locks = false) {pc : Nat} {H : Heap} {ls : Array Slot} (hdg : decode code pc = .ok (.ireturn, 1)) : W p l e room_1 s m #[Value.ref b] below meth c H [] 601024 7293034 (lw_Z below #[Value.ref b] s) (F0 m pc ls [.int 1]) := by
  intro T hT X
  obtain ⟨fs, hret, hrun, hended, hW, hframe⟩ := X.leave (v := some (.int 1)) (hlocks := hlocks) (fun h => by rw [hr] at h; cases h)
  have hmeth' : T.vm.method? m = some meth := X.method'
  refine ⟨T.setFrames fs, ?_, .returned (some (.int 1)), hrun, hended, rfl, ⟨_, rfl⟩, hW, hframe⟩
  jvm_step X.here [X.here.top, hx, hb, hdg, hmeth', hr, ret, narrow_b1]
  (try refine ⟨rfl, ?_⟩); (try refine ⟨rfl, ?_⟩)
  first | (intro acts; rw [hret _ acts rfl rfl rfl]) | rw [hret _ _ rfl rfl rfl]
  exact Steps.refl _
/-- what holds at the law's entry: the machine, the code, the tables' words (any of lw_tbl by 'hts w (by decide +kernel)'), the script of L ints xs at the cell b, what the Statement gives of the start (any of its parts by flat_of_before) -/
def lw_At (p : Program) (s : State) (m : MethodId) (meth : Method) (c : Code) (b L : Nat) (xs : Nat → Int32) : Prop :=
  p.tables.exec = Jvm.exec ∧ c.code = code ∧ meth.sig.returnType = ret ∧ c.maxLocals = 7 ∧ s.vm.findClass R_law = some m.cls ∧ (∀ w ∈ lw_tbl, w.before #[Value.ref b] s = true) ∧ va_X b L xs s s.heap ∧ b < s.heap.size ∧ meth.locks = false ∧ (Jvm.Cond.and given_1 narrow_1).before #[Value.ref b] s = true
/-! rows of the law's body -/
section LW
variable {p : Program} {l : Launch} {e : Env} {R : Room} {s : State} {m : MethodId} {args : Array Value} {below : List Frame} {meth : Method} {c : Code} {H : Heap} {locs : List Loc} {cells slots : Nat} {Q : State → Prop}
variable {pc : Nat} {ls : Array Slot} {rest : List Value} {G : zG} {n0 e0 : Nat} {ret0 : Option FieldType} {b L k : Nat} {xs : Nat → Int32}
/-- script[i + j] -/
theorem sl_arg (cx : Cx G n0 e0 p s m args meth c code 7 "BoxDeskLaw" ret0) (hX : va_X b L xs s s.heap) (hbl : b < s.heap.size) (hn : s.heap.size ≤ n0) (hL : L ≤ 2560) (hS : va_S (zA n0) s.heap H locs) (hl4 : ls[4]? = some (.val (.int (nI (5 * k))))) (hl0 : ls[0]? = some (.val (.ref b))) {j : Nat} {ji : Int} (hj : 5 * k + j < L) (d0 : decode code pc = .ok (.aload_n 0, 1)) (d1 : decode code (pc + 1) = .ok (.iload 4, 2)) (d3 : decode code (pc + 1 + 2) = .ok (.iconst ji, 1)) (hji : Int32.ofInt ji = nI j) (d4 : decode code (pc + 1 + 2 + 1) = .ok (.iadd, 1)) (d5 : decode code (pc + 1 + 2 + 1 + 1) = .ok (.iaload, 1))
    (kk : W p l e R s m args below meth c H locs cells slots Q (F0 m (pc + 1 + 2 + 1 + 1 + 1) ls (.int (xs (5 * k + j)) :: rest))) : W p l e R s m args below meth c H locs cells slots Q (F0 m pc ls rest) := by
  refine lv_aload_n cx.1 cx.2.1 d0 rfl hl0 ?_
  refine lv_iload cx.1 cx.2.1 d1 hl4 ?_
  refine lv_iconst (v := nI j) cx.1 cx.2.1 d3 hji ?_
  refine lv_iadd cx.1 cx.2.1 d4 ?_
  rw [nI_add]
  refine va_sld (A := zA n0) cx.1 cx.2.1 hX hbl (Nat.not_le.mpr (Nat.lt_of_lt_of_le hbl hn)) hS (vp_in_nI hj (by omega)) d5 ?_
  rw [nI_clamp (by omega)]
  exact kk
/-- an int as a boolean -/
theorem sl_bool (cx : Cx G n0 e0 p s m args meth c code 7 "BoxDeskLaw" ret0) {x : Int32} {a1 a2 : Nat} (d0 : decode code pc = .ok (.ifCond .eq 7, 3)) (d3 : decode code (pc + 3) = .ok (.iconst 1, 1)) (d4 : decode code (pc + 3 + 1) = .ok (.goto 4, 3)) (e1 : pc + 7 = a1) (e2 : a1 + 1 = a2) (d7 : decode code a1 = .ok (.iconst 0, 1))
    (kk : W p l e R s m args below meth c H locs cells slots Q (F0 m a2 ls (.int (zi (decide (¬ x = 0))) :: rest))) : W p l e R s m args below meth c H locs cells slots Q (F0 m pc ls (.int x :: rest)) := by
  refine lv_if_eq (tgt := a1) cx.1 cx.2.1 d0 (by omega) (fun q => ?_) (fun q => ?_)
  · refine lv_iconst (v := 0) cx.1 cx.2.1 d7 (by decide) ?_
    rw [show decide (¬ x = 0) = false from decide_eq_false (fun r => r q)] at kk
    rw [e2]
    exact kk
  · refine lv_iconst (v := 1) cx.1 cx.2.1 d3 (by decide) ?_
    refine lv_goto (tgt := a2) cx.1 cx.2.1 d4 (by omega) ?_
    rw [show decide (¬ x = 0) = true from decide_eq_true q] at kk
    exact kk
end LW
theorem RI.o {G : zG} {w : zw} {o : Nat} {A : Nat → Nat} {X : XS} (h : RI G w o A X) : ∃ fs, w o = some (.inr (6, fs)) := by
  obtain ⟨S, L, F, M, B, V, Z, T, sz, en, hr, -⟩ := h
  exact ⟨_, hr.1⟩
theorem CI.ref {G : zG} {e0 : Nat} {w w2 : zw} {d la ra o ou : Nat} {A : Nat → Nat} {c : Nat} {X X2 : XS} {f : Nat → Int64} (h : CI G e0 w d la ra (ou :: allR o A) c X) (hr : RI G w o A X2) (hou : w ou = some (.inl (G.2 1, 1, .inr (.inl f)))) (hF : Fr (allR o A) w w2) (he : w2 e0 = none) : CI G e0 w2 d la ra (ou :: allR o A) c X := by
  refine h.keepR (hF.sub (fun t ht => List.mem_cons_of_mem _ ht)) (fun t ht => ?_) he
  rcases List.mem_cons.mp ht with q | q
  · rw [q]; exact ⟨_, hou, ref_long⟩
  · exact hr.cells t q
theorem and_15 (x : Int32) : ∃ n, n < 16 ∧ x &&& 15 = nI n := by
  have h2 : (x &&& 15).toBitVec.toNat = x.toBitVec.toNat &&& 15 := by simp
  refine ⟨(x &&& 15).toBitVec.toNat, ?_, ?_⟩
  · rw [h2]; exact Nat.lt_of_le_of_lt Nat.and_le_right (by decide)
  · apply Int32.toBitVec_inj.mp
    apply BitVec.eq_of_toNat_eq
    rw [pk_tn (Nat.lt_of_lt_of_le (x &&& 15).toBitVec.isLt (by decide))]
def ouC (G : zG) (w : zw) (ou : Nat) : Prop := ∃ f : Nat → Int64, w ou = some (.inl (G.2 1, 1, .inr (.inl f)))
abbrev lwL (k d o ou b : Nat) : List (Nat × Value) := [(4, .int (nI (5 * k))), (3, .ref ou), (2, .ref o), (1, .ref d), (0, .ref b)]
theorem lw_cmp0 (x : Int64) : lg_cmp x x = 0 := by
  unfold lg_cmp
  simp
set_option maxHeartbeats 2000000 in
theorem lw_case_0 {p : Program} {e : Env} {s : State} {m : MethodId} {below : List Frame} {meth : Method} {c : Code} {l : Launch} {b L : Nat} {xs : Nat → Int32} {G : zG} {e0 : Nat} {d la ra o ou : Nat} {A : Nat → Nat} {k : Nat} {X : XS} {w : zw} {H : Heap} {locs : List Loc} {cells slots : Nat} {ls : Array Slot} {Q : State → Prop} (cx : Cx G s.heap.size e0 p s m #[Value.ref b] meth c code 7 "BoxDeskLaw" ret) (hX : va_X b L xs s s.heap) (hbl : b < s.heap.size) (hL : L ≤ 2560) (hA : ∀ i j, i < 13 → j < 13 → i ≠ j → A i ≠ A j) (hno : ou ∉ allR o A) (hk : 5 * k + 5 ≤ L) (hc : cells + 210 ≤ 601024 ∧ slots + 4200 ≤ 7293034) (hI : CI G e0 w d la ra (ou :: allR o A) k X) (hRI : RI G w o A X) (hou : ouC G w ou) (hZ : Zw G.1 vwC (zA s.heap.size) w H) (hS : va_S (zA s.heap.size) s.heap H locs) (hl : lv_has ls 7 (lwL k d o ou b)) (kk : ∀ (X' : XS) (w2 : zw) (H2 : Heap) (locs2 : List Loc) (ls2 : Array Slot), CI G e0 w2 d la ra (ou :: allR o A) (k + 1) X' → RI G w2 o A X' → ouC G w2 ou → Zw G.1 vwC (zA s.heap.size) w2 H2 → va_S (zA s.heap.size) s.heap H2 locs2 → lv_has ls2 7 (lwL k d o ou b) → W p l e room_1 s m #[Value.ref b] below meth c H2 locs2 (cells + 210) (slots + 4200) Q (F0 m 770 ls2 [])) : W p l e room_1 s m #[Value.ref b] below meth c H locs cells slots Q (F0 m 104 ls []) := by
  have hk5 : k ≤ 512 := by omega
  obtain ⟨r, X1, CC, RR⟩ := p_open l G s.heap.size e0 hA hI hRI (decide (¬ xs (5 * k + 1) = 0))
  obtain ⟨fd, hd⟩ := hI.d
  obtain ⟨f0, hou⟩ := hou
  refine lv_aload_n cx.1 cx.2.1 d_law_104 rfl (lv_at hl 3 rfl) ?_
  refine sl_arg (j := 1) cx hX hbl (Nat.le_refl _) hL hS (lv_at hl 0 rfl) (lv_at hl 4 rfl) (by omega) d_law_105 d_law_106 d_law_108 (by decide) d_law_109 d_law_110 ?_
  refine sl_bool (a1 := 118) (a2 := 119) cx d_law_111 d_law_114 d_law_115 rfl rfl d_law_118 ?_
  refine z_ivV (C := "BoxDesk") (n := 1) (As := [.int (zi (decide (¬ xs (5 * k + 1) = 0)))]) (rest := []) cx tw_51 tw_1 tw_48 tw_49 tw_50 (by decide +kernel) (hZ.recv cx.K rfl hd) CC ⟨(Nat.le_of_ble_eq_true rfl), (Nat.le_of_ble_eq_true rfl)⟩ ⟨hc.1, hc.2⟩ rfl hl.1 rfl (Nat.le_of_ble_eq_true rfl) d_law_119 hZ hS (fun v w1 H locs hp1 hZ hS => ?_)
  obtain ⟨rfl, hci, hkp⟩ := hp1
  have hci := hci (cx.ez hZ)
  have hri := hRI.keepK hkp
  have hou := hkp _ _ hou ref_long
  obtain ⟨fo, ho⟩ := hri.o
  refine W.eq (g2 := F0 m 122 ls [.int r]) rfl ?_
  refine lv_aload_n cx.1 cx.2.1 d_law_122 rfl (lv_at hl 2 rfl) ?_
  refine sl_arg (j := 1) cx hX hbl (Nat.le_refl _) hL hS (lv_at hl 0 rfl) (lv_at hl 4 rfl) (by omega) d_law_123 d_law_124 d_law_126 (by decide) d_law_127 d_law_128 ?_
  refine sl_bool (a1 := 136) (a2 := 137) cx d_law_129 d_law_132 d_law_133 rfl rfl d_law_136 ?_
  refine z_ivV (C := "BoxDeskModel") (n := 1) (As := [.int (zi (decide (¬ xs (5 * k + 1) = 0)))]) (rest := [.int r]) cx tw_685 tw_2 tw_682 tw_683 tw_684 (by decide +kernel) (hZ.recv cx.K rfl ho) (RR w1 hri) ⟨(Nat.le_of_ble_eq_true rfl), (Nat.le_of_ble_eq_true rfl)⟩ ⟨by show cells + 210 + 0 ≤ 601024; omega, by show slots + 4200 + 0 ≤ 7293034; omega⟩ rfl hl.1 rfl (Nat.le_of_ble_eq_true rfl) d_law_137 hZ hS (fun v w2 H locs hp2 hZ hS => ?_)
  obtain ⟨rfl, hri2, hF2⟩ := hp2
  refine W.eq (g2 := F0 m 140 ls [.int r, .int r]) rfl ?_
  refine lv_icmp_eq (tgt := 770) cx.1 cx.2.1 d_law_140 (by decide) (fun _ => ?_) (fun q => absurd rfl q)
  exact kk X1 w2 H locs ls (hci.ref hri hou hF2 (cx.ez hZ)) hri2 ⟨f0, hF2.keep hou hno⟩ hZ hS hl
set_option maxHeartbeats 2000000 in
theorem lw_case_1 {p : Program} {e : Env} {s : State} {m : MethodId} {below : List Frame} {meth : Method} {c : Code} {l : Launch} {b L : Nat} {xs : Nat → Int32} {G : zG} {e0 : Nat} {d la ra o ou : Nat} {A : Nat → Nat} {k : Nat} {X : XS} {w : zw} {H : Heap} {locs : List Loc} {cells slots : Nat} {ls : Array Slot} {Q : State → Prop} (cx : Cx G s.heap.size e0 p s m #[Value.ref b] meth c code 7 "BoxDeskLaw" ret) (hX : va_X b L xs s s.heap) (hbl : b < s.heap.size) (hL : L ≤ 2560) (hA : ∀ i j, i < 13 → j < 13 → i ≠ j → A i ≠ A j) (hno : ou ∉ allR o A) (hk : 5 * k + 5 ≤ L) (hc : cells + 210 ≤ 601024 ∧ slots + 4200 ≤ 7293034) (hI : CI G e0 w d la ra (ou :: allR o A) k X) (hRI : RI G w o A X) (hou : ouC G w ou) (hZ : Zw G.1 vwC (zA s.heap.size) w H) (hS : va_S (zA s.heap.size) s.heap H locs) (hl : lv_has ls 7 (lwL k d o ou b)) (kk : ∀ (X' : XS) (w2 : zw) (H2 : Heap) (locs2 : List Loc) (ls2 : Array Slot), CI G e0 w2 d la ra (ou :: allR o A) (k + 1) X' → RI G w2 o A X' → ouC G w2 ou → Zw G.1 vwC (zA s.heap.size) w2 H2 → va_S (zA s.heap.size) s.heap H2 locs2 → lv_has ls2 7 (lwL k d o ou b) → W p l e room_1 s m #[Value.ref b] below meth c H2 locs2 (cells + 210) (slots + 4200) Q (F0 m 770 ls2 [])) : W p l e room_1 s m #[Value.ref b] below meth c H locs cells slots Q (F0 m 145 ls []) := by
  have hk5 : k ≤ 512 := by omega
  obtain ⟨r, X1, CC, RR⟩ := p_character l G s.heap.size e0 hA hI hRI hk5 (xs (5 * k + 1)) (xs (5 * k + 2)) (xs (5 * k + 3))
  obtain ⟨fd, hd⟩ := hI.d
  obtain ⟨f0, hou⟩ := hou
  refine lv_aload_n cx.1 cx.2.1 d_law_145 rfl (lv_at hl 3 rfl) ?_
  refine sl_arg (j := 1) cx hX hbl (Nat.le_refl _) hL hS (lv_at hl 0 rfl) (lv_at hl 4 rfl) (by omega) d_law_146 d_law_147 d_law_149 (by decide) d_law_150 d_law_151 ?_
  refine sl_arg (j := 2) cx hX hbl (Nat.le_refl _) hL hS (lv_at hl 0 rfl) (lv_at hl 4 rfl) (by omega) d_law_152 d_law_153 d_law_155 (by decide) d_law_156 d_law_157 ?_
  refine sl_arg (j := 3) cx hX hbl (Nat.le_refl _) hL hS (lv_at hl 0 rfl) (lv_at hl 4 rfl) (by omega) d_law_158 d_law_159 d_law_161 (by decide) d_law_162 d_law_163 ?_
  refine z_ivV (C := "BoxDesk") (n := 3) (As := [.int (xs (5 * k + 1)), .int (xs (5 * k + 2)), .int (xs (5 * k + 3))]) (rest := []) cx tw_98 tw_1 tw_95 tw_96 tw_97 (by decide +kernel) (hZ.recv cx.K rfl hd) CC ⟨(Nat.le_of_ble_eq_true rfl), (Nat.le_of_ble_eq_true rfl)⟩ ⟨hc.1, hc.2⟩ rfl hl.1 rfl (Nat.le_of_ble_eq_true rfl) d_law_164 hZ hS (fun v w1 H locs hp1 hZ hS => ?_)
  obtain ⟨rfl, hci, hkp⟩ := hp1
  have hci := hci (cx.ez hZ)
  have hri := hRI.keepK hkp
  have hou := hkp _ _ hou ref_long
  obtain ⟨fo, ho⟩ := hri.o
  refine W.eq (g2 := F0 m 167 ls [.int r]) rfl ?_
  refine lv_aload_n cx.1 cx.2.1 d_law_167 rfl (lv_at hl 2 rfl) ?_
  refine sl_arg (j := 1) cx hX hbl (Nat.le_refl _) hL hS (lv_at hl 0 rfl) (lv_at hl 4 rfl) (by omega) d_law_168 d_law_169 d_law_171 (by decide) d_law_172 d_law_173 ?_
  refine sl_arg (j := 2) cx hX hbl (Nat.le_refl _) hL hS (lv_at hl 0 rfl) (lv_at hl 4 rfl) (by omega) d_law_174 d_law_175 d_law_177 (by decide) d_law_178 d_law_179 ?_
  refine sl_arg (j := 3) cx hX hbl (Nat.le_refl _) hL hS (lv_at hl 0 rfl) (lv_at hl 4 rfl) (by omega) d_law_180 d_law_181 d_law_183 (by decide) d_law_184 d_law_185 ?_
  refine z_ivV (C := "BoxDeskModel") (n := 3) (As := [.int (xs (5 * k + 1)), .int (xs (5 * k + 2)), .int (xs (5 * k + 3))]) (rest := [.int r]) cx tw_689 tw_2 tw_686 tw_687 tw_688 (by decide +kernel) (hZ.recv cx.K rfl ho) (RR w1 hri) ⟨(Nat.le_of_ble_eq_true rfl), (Nat.le_of_ble_eq_true rfl)⟩ ⟨by show cells + 210 + 0 ≤ 601024; omega, by show slots + 4200 + 0 ≤ 7293034; omega⟩ rfl hl.1 rfl (Nat.le_of_ble_eq_true rfl) d_law_186 hZ hS (fun v w2 H locs hp2 hZ hS => ?_)
  obtain ⟨rfl, hri2, hF2⟩ := hp2
  refine W.eq (g2 := F0 m 189 ls [.int r, .int r]) rfl ?_
  refine lv_icmp_eq (tgt := 770) cx.1 cx.2.1 d_law_189 (by decide) (fun _ => ?_) (fun q => absurd rfl q)
  exact kk X1 w2 H locs ls (hci.ref hri hou hF2 (cx.ez hZ)) hri2 ⟨f0, hF2.keep hou hno⟩ hZ hS hl
set_option maxHeartbeats 2000000 in
theorem lw_case_2 {p : Program} {e : Env} {s : State} {m : MethodId} {below : List Frame} {meth : Method} {c : Code} {l : Launch} {b L : Nat} {xs : Nat → Int32} {G : zG} {e0 : Nat} {d la ra o ou : Nat} {A : Nat → Nat} {k : Nat} {X : XS} {w : zw} {H : Heap} {locs : List Loc} {cells slots : Nat} {ls : Array Slot} {Q : State → Prop} (cx : Cx G s.heap.size e0 p s m #[Value.ref b] meth c code 7 "BoxDeskLaw" ret) (hX : va_X b L xs s s.heap) (hbl : b < s.heap.size) (hL : L ≤ 2560) (hA : ∀ i j, i < 13 → j < 13 → i ≠ j → A i ≠ A j) (hno : ou ∉ allR o A) (hk : 5 * k + 5 ≤ L) (hc : cells + 210 ≤ 601024 ∧ slots + 4200 ≤ 7293034) (hI : CI G e0 w d la ra (ou :: allR o A) k X) (hRI : RI G w o A X) (hou : ouC G w ou) (hZ : Zw G.1 vwC (zA s.heap.size) w H) (hS : va_S (zA s.heap.size) s.heap H locs) (hl : lv_has ls 7 (lwL k d o ou b)) (kk : ∀ (X' : XS) (w2 : zw) (H2 : Heap) (locs2 : List Loc) (ls2 : Array Slot), CI G e0 w2 d la ra (ou :: allR o A) (k + 1) X' → RI G w2 o A X' → ouC G w2 ou → Zw G.1 vwC (zA s.heap.size) w2 H2 → va_S (zA s.heap.size) s.heap H2 locs2 → lv_has ls2 7 (lwL k d o ou b) → W p l e room_1 s m #[Value.ref b] below meth c H2 locs2 (cells + 210) (slots + 4200) Q (F0 m 770 ls2 [])) : W p l e room_1 s m #[Value.ref b] below meth c H locs cells slots Q (F0 m 194 ls []) := by
  have hk5 : k ≤ 512 := by omega
  obtain ⟨r, X1, CC, RR⟩ := p_rule l G s.heap.size e0 hA hI hRI hk5 (xs (5 * k + 1)) (xs (5 * k + 2)) (xs (5 * k + 3)) (xs (5 * k + 4))
  obtain ⟨fd, hd⟩ := hI.d
  obtain ⟨f0, hou⟩ := hou
  refine lv_aload_n cx.1 cx.2.1 d_law_194 rfl (lv_at hl 3 rfl) ?_
  refine sl_arg (j := 1) cx hX hbl (Nat.le_refl _) hL hS (lv_at hl 0 rfl) (lv_at hl 4 rfl) (by omega) d_law_195 d_law_196 d_law_198 (by decide) d_law_199 d_law_200 ?_
  refine sl_arg (j := 2) cx hX hbl (Nat.le_refl _) hL hS (lv_at hl 0 rfl) (lv_at hl 4 rfl) (by omega) d_law_201 d_law_202 d_law_204 (by decide) d_law_205 d_law_206 ?_
  refine sl_arg (j := 3) cx hX hbl (Nat.le_refl _) hL hS (lv_at hl 0 rfl) (lv_at hl 4 rfl) (by omega) d_law_207 d_law_208 d_law_210 (by decide) d_law_211 d_law_212 ?_
  refine sl_arg (j := 4) cx hX hbl (Nat.le_refl _) hL hS (lv_at hl 0 rfl) (lv_at hl 4 rfl) (by omega) d_law_213 d_law_214 d_law_216 (by decide) d_law_217 d_law_218 ?_
  refine z_ivV (C := "BoxDesk") (n := 4) (As := [.int (xs (5 * k + 1)), .int (xs (5 * k + 2)), .int (xs (5 * k + 3)), .int (xs (5 * k + 4))]) (rest := []) cx tw_231 tw_1 tw_228 tw_229 tw_230 (by decide +kernel) (hZ.recv cx.K rfl hd) CC ⟨(Nat.le_of_ble_eq_true rfl), (Nat.le_of_ble_eq_true rfl)⟩ ⟨hc.1, hc.2⟩ rfl hl.1 rfl (Nat.le_of_ble_eq_true rfl) d_law_219 hZ hS (fun v w1 H locs hp1 hZ hS => ?_)
  obtain ⟨rfl, hci, hkp⟩ := hp1
  have hci := hci (cx.ez hZ)
  have hri := hRI.keepK hkp
  have hou := hkp _ _ hou ref_long
  obtain ⟨fo, ho⟩ := hri.o
  refine W.eq (g2 := F0 m 222 ls [.int r]) rfl ?_
  refine lv_aload_n cx.1 cx.2.1 d_law_222 rfl (lv_at hl 2 rfl) ?_
  refine sl_arg (j := 1) cx hX hbl (Nat.le_refl _) hL hS (lv_at hl 0 rfl) (lv_at hl 4 rfl) (by omega) d_law_223 d_law_224 d_law_226 (by decide) d_law_227 d_law_228 ?_
  refine sl_arg (j := 2) cx hX hbl (Nat.le_refl _) hL hS (lv_at hl 0 rfl) (lv_at hl 4 rfl) (by omega) d_law_229 d_law_230 d_law_232 (by decide) d_law_233 d_law_234 ?_
  refine sl_arg (j := 3) cx hX hbl (Nat.le_refl _) hL hS (lv_at hl 0 rfl) (lv_at hl 4 rfl) (by omega) d_law_235 d_law_236 d_law_238 (by decide) d_law_239 d_law_240 ?_
  refine sl_arg (j := 4) cx hX hbl (Nat.le_refl _) hL hS (lv_at hl 0 rfl) (lv_at hl 4 rfl) (by omega) d_law_241 d_law_242 d_law_244 (by decide) d_law_245 d_law_246 ?_
  refine z_ivV (C := "BoxDeskModel") (n := 4) (As := [.int (xs (5 * k + 1)), .int (xs (5 * k + 2)), .int (xs (5 * k + 3)), .int (xs (5 * k + 4))]) (rest := [.int r]) cx tw_714 tw_2 tw_711 tw_712 tw_713 (by decide +kernel) (hZ.recv cx.K rfl ho) (RR w1 hri) ⟨(Nat.le_of_ble_eq_true rfl), (Nat.le_of_ble_eq_true rfl)⟩ ⟨by show cells + 210 + 0 ≤ 601024; omega, by show slots + 4200 + 0 ≤ 7293034; omega⟩ rfl hl.1 rfl (Nat.le_of_ble_eq_true rfl) d_law_247 hZ hS (fun v w2 H locs hp2 hZ hS => ?_)
  obtain ⟨rfl, hri2, hF2⟩ := hp2
  refine W.eq (g2 := F0 m 250 ls [.int r, .int r]) rfl ?_
  refine lv_icmp_eq (tgt := 770) cx.1 cx.2.1 d_law_250 (by decide) (fun _ => ?_) (fun q => absurd rfl q)
  exact kk X1 w2 H locs ls (hci.ref hri hou hF2 (cx.ez hZ)) hri2 ⟨f0, hF2.keep hou hno⟩ hZ hS hl
set_option maxHeartbeats 2000000 in
theorem lw_case_3 {p : Program} {e : Env} {s : State} {m : MethodId} {below : List Frame} {meth : Method} {c : Code} {l : Launch} {b L : Nat} {xs : Nat → Int32} {G : zG} {e0 : Nat} {d la ra o ou : Nat} {A : Nat → Nat} {k : Nat} {X : XS} {w : zw} {H : Heap} {locs : List Loc} {cells slots : Nat} {ls : Array Slot} {Q : State → Prop} (cx : Cx G s.heap.size e0 p s m #[Value.ref b] meth c code 7 "BoxDeskLaw" ret) (hX : va_X b L xs s s.heap) (hbl : b < s.heap.size) (hL : L ≤ 2560) (hA : ∀ i j, i < 13 → j < 13 → i ≠ j → A i ≠ A j) (hno : ou ∉ allR o A) (hk : 5 * k + 5 ≤ L) (hc : cells + 210 ≤ 601024 ∧ slots + 4200 ≤ 7293034) (hI : CI G e0 w d la ra (ou :: allR o A) k X) (hRI : RI G w o A X) (hou : ouC G w ou) (hZ : Zw G.1 vwC (zA s.heap.size) w H) (hS : va_S (zA s.heap.size) s.heap H locs) (hl : lv_has ls 7 (lwL k d o ou b)) (kk : ∀ (X' : XS) (w2 : zw) (H2 : Heap) (locs2 : List Loc) (ls2 : Array Slot), CI G e0 w2 d la ra (ou :: allR o A) (k + 1) X' → RI G w2 o A X' → ouC G w2 ou → Zw G.1 vwC (zA s.heap.size) w2 H2 → va_S (zA s.heap.size) s.heap H2 locs2 → lv_has ls2 7 (lwL k d o ou b) → W p l e room_1 s m #[Value.ref b] below meth c H2 locs2 (cells + 210) (slots + 4200) Q (F0 m 770 ls2 [])) : W p l e room_1 s m #[Value.ref b] below meth c H locs cells slots Q (F0 m 255 ls []) := by
  have hk5 : k ≤ 512 := by omega
  obtain ⟨r, X1, CC, RR⟩ := p_glue l G s.heap.size e0 hA hI hRI hk5 (xs (5 * k + 1)) (xs (5 * k + 2)) (xs (5 * k + 3)) (xs (5 * k + 4))
  obtain ⟨fd, hd⟩ := hI.d
  obtain ⟨f0, hou⟩ := hou
  refine lv_aload_n cx.1 cx.2.1 d_law_255 rfl (lv_at hl 3 rfl) ?_
  refine sl_arg (j := 1) cx hX hbl (Nat.le_refl _) hL hS (lv_at hl 0 rfl) (lv_at hl 4 rfl) (by omega) d_law_256 d_law_257 d_law_259 (by decide) d_law_260 d_law_261 ?_
  refine sl_arg (j := 2) cx hX hbl (Nat.le_refl _) hL hS (lv_at hl 0 rfl) (lv_at hl 4 rfl) (by omega) d_law_262 d_law_263 d_law_265 (by decide) d_law_266 d_law_267 ?_
  refine sl_arg (j := 3) cx hX hbl (Nat.le_refl _) hL hS (lv_at hl 0 rfl) (lv_at hl 4 rfl) (by omega) d_law_268 d_law_269 d_law_271 (by decide) d_law_272 d_law_273 ?_
  refine sl_arg (j := 4) cx hX hbl (Nat.le_refl _) hL hS (lv_at hl 0 rfl) (lv_at hl 4 rfl) (by omega) d_law_274 d_law_275 d_law_277 (by decide) d_law_278 d_law_279 ?_
  refine z_ivV (C := "BoxDesk") (n := 4) (As := [.int (xs (5 * k + 1)), .int (xs (5 * k + 2)), .int (xs (5 * k + 3)), .int (xs (5 * k + 4))]) (rest := []) cx tw_240 tw_1 tw_237 tw_238 tw_239 (by decide +kernel) (hZ.recv cx.K rfl hd) CC ⟨(Nat.le_of_ble_eq_true rfl), (Nat.le_of_ble_eq_true rfl)⟩ ⟨hc.1, hc.2⟩ rfl hl.1 rfl (Nat.le_of_ble_eq_true rfl) d_law_280 hZ hS (fun v w1 H locs hp1 hZ hS => ?_)
  obtain ⟨rfl, hci, hkp⟩ := hp1
  have hci := hci (cx.ez hZ)
  have hri := hRI.keepK hkp
  have hou := hkp _ _ hou ref_long
  obtain ⟨fo, ho⟩ := hri.o
  refine W.eq (g2 := F0 m 283 ls [.int r]) rfl ?_
  refine lv_aload_n cx.1 cx.2.1 d_law_283 rfl (lv_at hl 2 rfl) ?_
  refine sl_arg (j := 1) cx hX hbl (Nat.le_refl _) hL hS (lv_at hl 0 rfl) (lv_at hl 4 rfl) (by omega) d_law_284 d_law_285 d_law_287 (by decide) d_law_288 d_law_289 ?_
  refine sl_arg (j := 2) cx hX hbl (Nat.le_refl _) hL hS (lv_at hl 0 rfl) (lv_at hl 4 rfl) (by omega) d_law_290 d_law_291 d_law_293 (by decide) d_law_294 d_law_295 ?_
  refine sl_arg (j := 3) cx hX hbl (Nat.le_refl _) hL hS (lv_at hl 0 rfl) (lv_at hl 4 rfl) (by omega) d_law_296 d_law_297 d_law_299 (by decide) d_law_300 d_law_301 ?_
  refine sl_arg (j := 4) cx hX hbl (Nat.le_refl _) hL hS (lv_at hl 0 rfl) (lv_at hl 4 rfl) (by omega) d_law_302 d_law_303 d_law_305 (by decide) d_law_306 d_law_307 ?_
  refine z_ivV (C := "BoxDeskModel") (n := 4) (As := [.int (xs (5 * k + 1)), .int (xs (5 * k + 2)), .int (xs (5 * k + 3)), .int (xs (5 * k + 4))]) (rest := [.int r]) cx tw_719 tw_2 tw_716 tw_717 tw_718 (by decide +kernel) (hZ.recv cx.K rfl ho) (RR w1 hri) ⟨(Nat.le_of_ble_eq_true rfl), (Nat.le_of_ble_eq_true rfl)⟩ ⟨by show cells + 210 + 0 ≤ 601024; omega, by show slots + 4200 + 0 ≤ 7293034; omega⟩ rfl hl.1 rfl (Nat.le_of_ble_eq_true rfl) d_law_308 hZ hS (fun v w2 H locs hp2 hZ hS => ?_)
  obtain ⟨rfl, hri2, hF2⟩ := hp2
  refine W.eq (g2 := F0 m 311 ls [.int r, .int r]) rfl ?_
  refine lv_icmp_eq (tgt := 770) cx.1 cx.2.1 d_law_311 (by decide) (fun _ => ?_) (fun q => absurd rfl q)
  exact kk X1 w2 H locs ls (hci.ref hri hou hF2 (cx.ez hZ)) hri2 ⟨f0, hF2.keep hou hno⟩ hZ hS hl
set_option maxHeartbeats 2000000 in
theorem lw_case_4 {p : Program} {e : Env} {s : State} {m : MethodId} {below : List Frame} {meth : Method} {c : Code} {l : Launch} {b L : Nat} {xs : Nat → Int32} {G : zG} {e0 : Nat} {d la ra o ou : Nat} {A : Nat → Nat} {k : Nat} {X : XS} {w : zw} {H : Heap} {locs : List Loc} {cells slots : Nat} {ls : Array Slot} {Q : State → Prop} (cx : Cx G s.heap.size e0 p s m #[Value.ref b] meth c code 7 "BoxDeskLaw" ret) (hX : va_X b L xs s s.heap) (hbl : b < s.heap.size) (hL : L ≤ 2560) (hA : ∀ i j, i < 13 → j < 13 → i ≠ j → A i ≠ A j) (hno : ou ∉ allR o A) (hk : 5 * k + 5 ≤ L) (hc : cells + 210 ≤ 601024 ∧ slots + 4200 ≤ 7293034) (hI : CI G e0 w d la ra (ou :: allR o A) k X) (hRI : RI G w o A X) (hou : ouC G w ou) (hZ : Zw G.1 vwC (zA s.heap.size) w H) (hS : va_S (zA s.heap.size) s.heap H locs) (hl : lv_has ls 7 (lwL k d o ou b)) (kk : ∀ (X' : XS) (w2 : zw) (H2 : Heap) (locs2 : List Loc) (ls2 : Array Slot), CI G e0 w2 d la ra (ou :: allR o A) (k + 1) X' → RI G w2 o A X' → ouC G w2 ou → Zw G.1 vwC (zA s.heap.size) w2 H2 → va_S (zA s.heap.size) s.heap H2 locs2 → lv_has ls2 7 (lwL k d o ou b) → W p l e room_1 s m #[Value.ref b] below meth c H2 locs2 (cells + 210) (slots + 4200) Q (F0 m 770 ls2 [])) : W p l e room_1 s m #[Value.ref b] below meth c H locs cells slots Q (F0 m 316 ls []) := by
  have hk5 : k ≤ 512 := by omega
  obtain ⟨r, X1, CC, RR⟩ := p_kern l G s.heap.size e0 hA hI hRI hk5 (xs (5 * k + 1))
  obtain ⟨fd, hd⟩ := hI.d
  obtain ⟨f0, hou⟩ := hou
  refine lv_aload_n cx.1 cx.2.1 d_law_316 rfl (lv_at hl 3 rfl) ?_
  refine sl_arg (j := 1) cx hX hbl (Nat.le_refl _) hL hS (lv_at hl 0 rfl) (lv_at hl 4 rfl) (by omega) d_law_317 d_law_318 d_law_320 (by decide) d_law_321 d_law_322 ?_
  refine z_ivV (C := "BoxDesk") (n := 1) (As := [.int (xs (5 * k + 1))]) (rest := []) cx tw_247 tw_1 tw_244 tw_245 tw_246 (by decide +kernel) (hZ.recv cx.K rfl hd) CC ⟨(Nat.le_of_ble_eq_true rfl), (Nat.le_of_ble_eq_true rfl)⟩ ⟨hc.1, hc.2⟩ rfl hl.1 rfl (Nat.le_of_ble_eq_true rfl) d_law_323 hZ hS (fun v w1 H locs hp1 hZ hS => ?_)
  obtain ⟨rfl, hci, hkp⟩ := hp1
  have hci := hci (cx.ez hZ)
  have hri := hRI.keepK hkp
  have hou := hkp _ _ hou ref_long
  obtain ⟨fo, ho⟩ := hri.o
  refine W.eq (g2 := F0 m 326 ls [.int r]) rfl ?_
  refine lv_aload_n cx.1 cx.2.1 d_law_326 rfl (lv_at hl 2 rfl) ?_
  refine sl_arg (j := 1) cx hX hbl (Nat.le_refl _) hL hS (lv_at hl 0 rfl) (lv_at hl 4 rfl) (by omega) d_law_327 d_law_328 d_law_330 (by decide) d_law_331 d_law_332 ?_
  refine z_ivV (C := "BoxDeskModel") (n := 1) (As := [.int (xs (5 * k + 1))]) (rest := [.int r]) cx tw_723 tw_2 tw_720 tw_721 tw_722 (by decide +kernel) (hZ.recv cx.K rfl ho) (RR w1 hri) ⟨(Nat.le_of_ble_eq_true rfl), (Nat.le_of_ble_eq_true rfl)⟩ ⟨by show cells + 210 + 0 ≤ 601024; omega, by show slots + 4200 + 0 ≤ 7293034; omega⟩ rfl hl.1 rfl (Nat.le_of_ble_eq_true rfl) d_law_333 hZ hS (fun v w2 H locs hp2 hZ hS => ?_)
  obtain ⟨rfl, hri2, hF2⟩ := hp2
  refine W.eq (g2 := F0 m 336 ls [.int r, .int r]) rfl ?_
  refine lv_icmp_eq (tgt := 770) cx.1 cx.2.1 d_law_336 (by decide) (fun _ => ?_) (fun q => absurd rfl q)
  exact kk X1 w2 H locs ls (hci.ref hri hou hF2 (cx.ez hZ)) hri2 ⟨f0, hF2.keep hou hno⟩ hZ hS hl
set_option maxHeartbeats 2000000 in
theorem lw_case_5 {p : Program} {e : Env} {s : State} {m : MethodId} {below : List Frame} {meth : Method} {c : Code} {l : Launch} {b L : Nat} {xs : Nat → Int32} {G : zG} {e0 : Nat} {d la ra o ou : Nat} {A : Nat → Nat} {k : Nat} {X : XS} {w : zw} {H : Heap} {locs : List Loc} {cells slots : Nat} {ls : Array Slot} {Q : State → Prop} (cx : Cx G s.heap.size e0 p s m #[Value.ref b] meth c code 7 "BoxDeskLaw" ret) (hX : va_X b L xs s s.heap) (hbl : b < s.heap.size) (hL : L ≤ 2560) (hA : ∀ i j, i < 13 → j < 13 → i ≠ j → A i ≠ A j) (hno : ou ∉ allR o A) (hk : 5 * k + 5 ≤ L) (hc : cells + 210 ≤ 601024 ∧ slots + 4200 ≤ 7293034) (hI : CI G e0 w d la ra (ou :: allR o A) k X) (hRI : RI G w o A X) (hou : ouC G w ou) (hZ : Zw G.1 vwC (zA s.heap.size) w H) (hS : va_S (zA s.heap.size) s.heap H locs) (hl : lv_has ls 7 (lwL k d o ou b)) (kk : ∀ (X' : XS) (w2 : zw) (H2 : Heap) (locs2 : List Loc) (ls2 : Array Slot), CI G e0 w2 d la ra (ou :: allR o A) (k + 1) X' → RI G w2 o A X' → ouC G w2 ou → Zw G.1 vwC (zA s.heap.size) w2 H2 → va_S (zA s.heap.size) s.heap H2 locs2 → lv_has ls2 7 (lwL k d o ou b) → W p l e room_1 s m #[Value.ref b] below meth c H2 locs2 (cells + 210) (slots + 4200) Q (F0 m 770 ls2 [])) : W p l e room_1 s m #[Value.ref b] below meth c H locs cells slots Q (F0 m 341 ls []) := by
  have hk5 : k ≤ 512 := by omega
  obtain ⟨r, X1, CC, RR⟩ := p_penalty l G s.heap.size e0 hA hI hRI hk5 (xs (5 * k + 1))
  obtain ⟨fd, hd⟩ := hI.d
  obtain ⟨f0, hou⟩ := hou
  refine lv_aload_n cx.1 cx.2.1 d_law_341 rfl (lv_at hl 3 rfl) ?_
  refine sl_arg (j := 1) cx hX hbl (Nat.le_refl _) hL hS (lv_at hl 0 rfl) (lv_at hl 4 rfl) (by omega) d_law_342 d_law_343 d_law_345 (by decide) d_law_346 d_law_347 ?_
  refine z_ivV (C := "BoxDesk") (n := 1) (As := [.int (xs (5 * k + 1))]) (rest := []) cx tw_251 tw_1 tw_248 tw_249 tw_250 (by decide +kernel) (hZ.recv cx.K rfl hd) CC ⟨(Nat.le_of_ble_eq_true rfl), (Nat.le_of_ble_eq_true rfl)⟩ ⟨hc.1, hc.2⟩ rfl hl.1 rfl (Nat.le_of_ble_eq_true rfl) d_law_348 hZ hS (fun v w1 H locs hp1 hZ hS => ?_)
  obtain ⟨rfl, hci, hkp⟩ := hp1
  have hci := hci (cx.ez hZ)
  have hri := hRI.keepK hkp
  have hou := hkp _ _ hou ref_long
  obtain ⟨fo, ho⟩ := hri.o
  refine W.eq (g2 := F0 m 351 ls [.int r]) rfl ?_
  refine lv_aload_n cx.1 cx.2.1 d_law_351 rfl (lv_at hl 2 rfl) ?_
  refine sl_arg (j := 1) cx hX hbl (Nat.le_refl _) hL hS (lv_at hl 0 rfl) (lv_at hl 4 rfl) (by omega) d_law_352 d_law_353 d_law_355 (by decide) d_law_356 d_law_357 ?_
  refine z_ivV (C := "BoxDeskModel") (n := 1) (As := [.int (xs (5 * k + 1))]) (rest := [.int r]) cx tw_727 tw_2 tw_724 tw_725 tw_726 (by decide +kernel) (hZ.recv cx.K rfl ho) (RR w1 hri) ⟨(Nat.le_of_ble_eq_true rfl), (Nat.le_of_ble_eq_true rfl)⟩ ⟨by show cells + 210 + 0 ≤ 601024; omega, by show slots + 4200 + 0 ≤ 7293034; omega⟩ rfl hl.1 rfl (Nat.le_of_ble_eq_true rfl) d_law_358 hZ hS (fun v w2 H locs hp2 hZ hS => ?_)
  obtain ⟨rfl, hri2, hF2⟩ := hp2
  refine W.eq (g2 := F0 m 361 ls [.int r, .int r]) rfl ?_
  refine lv_icmp_eq (tgt := 770) cx.1 cx.2.1 d_law_361 (by decide) (fun _ => ?_) (fun q => absurd rfl q)
  exact kk X1 w2 H locs ls (hci.ref hri hou hF2 (cx.ez hZ)) hri2 ⟨f0, hF2.keep hou hno⟩ hZ hS hl
set_option maxHeartbeats 2000000 in
theorem lw_case_6 {p : Program} {e : Env} {s : State} {m : MethodId} {below : List Frame} {meth : Method} {c : Code} {l : Launch} {b L : Nat} {xs : Nat → Int32} {G : zG} {e0 : Nat} {d la ra o ou : Nat} {A : Nat → Nat} {k : Nat} {X : XS} {w : zw} {H : Heap} {locs : List Loc} {cells slots : Nat} {ls : Array Slot} {Q : State → Prop} (cx : Cx G s.heap.size e0 p s m #[Value.ref b] meth c code 7 "BoxDeskLaw" ret) (hX : va_X b L xs s s.heap) (hbl : b < s.heap.size) (hL : L ≤ 2560) (hA : ∀ i j, i < 13 → j < 13 → i ≠ j → A i ≠ A j) (hno : ou ∉ allR o A) (hk : 5 * k + 5 ≤ L) (hc : cells + 210 ≤ 601024 ∧ slots + 4200 ≤ 7293034) (hI : CI G e0 w d la ra (ou :: allR o A) k X) (hRI : RI G w o A X) (hou : ouC G w ou) (hZ : Zw G.1 vwC (zA s.heap.size) w H) (hS : va_S (zA s.heap.size) s.heap H locs) (hl : lv_has ls 7 (lwL k d o ou b)) (hTr : l.stackTraces = false) (hzt : zT s.heap.size s) (kk : ∀ (X' : XS) (w2 : zw) (H2 : Heap) (locs2 : List Loc) (ls2 : Array Slot), CI G e0 w2 d la ra (ou :: allR o A) (k + 1) X' → RI G w2 o A X' → ouC G w2 ou → Zw G.1 vwC (zA s.heap.size) w2 H2 → va_S (zA s.heap.size) s.heap H2 locs2 → lv_has ls2 7 (lwL k d o ou b) → W p l e room_1 s m #[Value.ref b] below meth c H2 locs2 (cells + 210) (slots + 4200) Q (F0 m 770 ls2 [])) : W p l e room_1 s m #[Value.ref b] below meth c H locs cells slots Q (F0 m 366 ls []) := by
  have hk5 : k ≤ 512 := by omega
  obtain ⟨f0, hou⟩ := hou
  obtain ⟨j, r, X1, CC, RR⟩ := hp_W_close l G s.heap.size e0 hI hRI hou hno (xs (5 * k + 1)) (xs (5 * k + 2)) (xs (5 * k + 3)) (xs (5 * k + 4)) (p_close l hTr G s.heap.size e0 hA hI hRI (fun q hq => by rcases List.mem_cons.mp hq with r | r; (rw [r, hou]; simp); (obtain ⟨y, hy, -⟩ := hRI.cells q r; rw [hy]; simp)) hk5 (xs (5 * k + 1)) (xs (5 * k + 2)) (xs (5 * k + 3)) (xs (5 * k + 4)))
  refine lv_aload_n cx.1 cx.2.1 d_law_366 rfl (lv_at hl 3 rfl) ?_
  refine sl_arg (j := 1) cx hX hbl (Nat.le_refl _) hL hS (lv_at hl 0 rfl) (lv_at hl 4 rfl) (by omega) d_law_367 d_law_368 d_law_370 (by decide) d_law_371 d_law_372 ?_
  refine sl_arg (j := 2) cx hX hbl (Nat.le_refl _) hL hS (lv_at hl 0 rfl) (lv_at hl 4 rfl) (by omega) d_law_373 d_law_374 d_law_376 (by decide) d_law_377 d_law_378 ?_
  refine sl_arg (j := 3) cx hX hbl (Nat.le_refl _) hL hS (lv_at hl 0 rfl) (lv_at hl 4 rfl) (by omega) d_law_379 d_law_380 d_law_382 (by decide) d_law_383 d_law_384 ?_
  refine sl_arg (j := 4) cx hX hbl (Nat.le_refl _) hL hS (lv_at hl 0 rfl) (lv_at hl 4 rfl) (by omega) d_law_385 d_law_386 d_law_388 (by decide) d_law_389 d_law_390 ?_
  refine lv_aload_n cx.1 cx.2.1 d_law_391 rfl (lv_at hl 1 rfl) ?_
  refine z_ivH (n := 6) (As := [.ref d, .int (xs (5 * k + 1)), .int (xs (5 * k + 2)), .int (xs (5 * k + 3)), .int (xs (5 * k + 4)), .ref ou]) (rest := []) cx hzt th_304 tw_0 tw_302 tw_303 (by decide +kernel) CC ⟨(Nat.le_of_ble_eq_true rfl), (Nat.le_of_ble_eq_true rfl)⟩ ⟨hc.1, hc.2⟩ rfl hl.1 rfl (Nat.le_of_ble_eq_true rfl) d_law_392 hZ hS (fun v w1 H locs hp1 hZ hS => ?_)
  obtain ⟨rfl, hci, hri, f1, hou, hj⟩ := hp1
  obtain ⟨fo, ho⟩ := hri.o
  refine W.eq (g2 := F0 m 395 ls [.int j]) rfl ?_
  refine lv_istore (lv' := [(5, .int j), (4, .int (nI (5 * k))), (3, .ref ou), (2, .ref o), (1, .ref d), (0, .ref b)]) cx.1 cx.2.1 d_law_395 hl (by decide) rfl (fun ls hl => ?_)
  refine lv_aload_n cx.1 cx.2.1 d_law_397 rfl (lv_at hl 3 rfl) ?_
  refine sl_arg (j := 1) cx hX hbl (Nat.le_refl _) hL hS (lv_at hl 1 rfl) (lv_at hl 5 rfl) (by omega) d_law_398 d_law_399 d_law_401 (by decide) d_law_402 d_law_403 ?_
  refine sl_arg (j := 2) cx hX hbl (Nat.le_refl _) hL hS (lv_at hl 1 rfl) (lv_at hl 5 rfl) (by omega) d_law_404 d_law_405 d_law_407 (by decide) d_law_408 d_law_409 ?_
  refine sl_arg (j := 3) cx hX hbl (Nat.le_refl _) hL hS (lv_at hl 1 rfl) (lv_at hl 5 rfl) (by omega) d_law_410 d_law_411 d_law_413 (by decide) d_law_414 d_law_415 ?_
  refine sl_arg (j := 4) cx hX hbl (Nat.le_refl _) hL hS (lv_at hl 1 rfl) (lv_at hl 5 rfl) (by omega) d_law_416 d_law_417 d_law_419 (by decide) d_law_420 d_law_421 ?_
  refine z_ivV (C := "BoxDeskModel") (n := 4) (As := [.int (xs (5 * k + 1)), .int (xs (5 * k + 2)), .int (xs (5 * k + 3)), .int (xs (5 * k + 4))]) (rest := []) cx tw_731 tw_2 tw_728 tw_729 tw_730 (by decide +kernel) (hZ.recv cx.K rfl ho) (RR w1 hri) ⟨(Nat.le_of_ble_eq_true rfl), (Nat.le_of_ble_eq_true rfl)⟩ ⟨by show cells + 210 + 0 ≤ 601024; omega, by show slots + 4200 + 0 ≤ 7293034; omega⟩ rfl hl.1 rfl (Nat.le_of_ble_eq_true rfl) d_law_422 hZ hS (fun v w2 H locs hp2 hZ hS => ?_)
  obtain ⟨bb, rfl, hb, hrt, hF2⟩ := hp2
  have hri2 := hrt.ri
  have hci := hci.ref hri hou hF2 (cx.ez hZ)
  have hou := hF2.keep hou hno
  obtain ⟨S, L0, F, M, B0, V, Z, T, sz, en, hS0, hra, -⟩ := hrt
  refine W.eq (g2 := F0 m 425 ls [.int bb]) rfl ?_
  refine lv_istore (lv' := [(6, .int bb), (5, .int j), (4, .int (nI (5 * k))), (3, .ref ou), (2, .ref o), (1, .ref d), (0, .ref b)]) cx.1 cx.2.1 d_law_425 hl (by decide) rfl (fun ls hl => ?_)
  refine lv_aload_n cx.1 cx.2.1 d_law_427 rfl (lv_at hl 4 rfl) ?_
  refine z_ivV (C := "BoxDeskModel") (n := 0) (As := []) (rest := []) cx tw_681 tw_2 tw_678 tw_679 tw_680 (by decide +kernel) (hZ.recv cx.K rfl hra.1) (r_thrown l G s.heap.size e0 w2 o A S L0 hra.1) ⟨(Nat.le_of_ble_eq_true rfl), (Nat.le_of_ble_eq_true rfl)⟩ ⟨by show cells + 210 + 0 + 0 ≤ 601024; omega, by show slots + 4200 + 0 + 0 ≤ 7293034; omega⟩ rfl hl.1 rfl (Nat.le_of_ble_eq_true rfl) d_law_428 hZ hS (fun v w3 H locs hp3 hZ hS => ?_)
  obtain ⟨rfl, hq3⟩ := hp3
  subst w3
  refine W.eq (g2 := F0 m 431 ls [.int (S 0)]) rfl ?_
  refine lv_iload cx.1 cx.2.1 d_law_431 (lv_at hl 1 rfl) ?_
  refine lv_icmp_eq (tgt := 438) cx.1 cx.2.1 d_law_433 (by decide) (fun _ => ?_) (fun q => absurd hS0 q)
  have fin : W p l e room_1 s m #[Value.ref b] below meth c H locs (cells + 210 + 0 + 0) (slots + 4200 + 0 + 0) Q (F0 m 455 ls []) := by
    refine lv_goto (tgt := 770) cx.1 cx.2.1 d_law_455 (by decide) ?_
    exact kk X1 _ H locs ls hci hri2 ⟨f1, hou⟩ hZ hS (lv_sub hl [2, 3, 4, 5, 6] rfl)
  refine lv_iload cx.1 cx.2.1 d_law_438 (lv_at hl 1 rfl) ?_
  refine lv_if_ne (tgt := 455) cx.1 cx.2.1 d_law_440 (by decide) (fun _ => fin) (fun hj0 => ?_)
  refine lv_aload_n cx.1 cx.2.1 d_law_443 rfl (lv_at hl 3 rfl) ?_
  refine lv_iconst (v := 0) cx.1 cx.2.1 d_law_444 (by decide) ?_
  refine ld_l cx hZ hou (vp_in_nI (n := 0) (by omega) (by omega)) d_law_445 ?_
  refine lv_iload cx.1 cx.2.1 d_law_446 (lv_at hl 0 rfl) ?_
  refine lv_i2l cx.1 cx.2.1 d_law_448 rfl ?_
  refine W.lcmp cx.1 cx.2.1 d_law_449 ?_
  refine lv_if_eq (tgt := 455) cx.1 cx.2.1 d_law_450 (by decide) (fun _ => fin) (fun q => ?_)
  exfalso
  apply q
  rw [hb hj0]
  have h0 : f1 (0 : Int32).toNatClampNeg = r.toInt64 := hj hj0
  rw [h0]
  exact lw_cmp0 _
set_option maxHeartbeats 2000000 in
theorem lw_case_7 {p : Program} {e : Env} {s : State} {m : MethodId} {below : List Frame} {meth : Method} {c : Code} {l : Launch} {b L : Nat} {xs : Nat → Int32} {G : zG} {e0 : Nat} {d la ra o ou : Nat} {A : Nat → Nat} {k : Nat} {X : XS} {w : zw} {H : Heap} {locs : List Loc} {cells slots : Nat} {ls : Array Slot} {Q : State → Prop} (cx : Cx G s.heap.size e0 p s m #[Value.ref b] meth c code 7 "BoxDeskLaw" ret) (hX : va_X b L xs s s.heap) (hbl : b < s.heap.size) (hL : L ≤ 2560) (hA : ∀ i j, i < 13 → j < 13 → i ≠ j → A i ≠ A j) (hno : ou ∉ allR o A) (hk : 5 * k + 5 ≤ L) (hc : cells + 210 ≤ 601024 ∧ slots + 4200 ≤ 7293034) (hI : CI G e0 w d la ra (ou :: allR o A) k X) (hRI : RI G w o A X) (hou : ouC G w ou) (hZ : Zw G.1 vwC (zA s.heap.size) w H) (hS : va_S (zA s.heap.size) s.heap H locs) (hl : lv_has ls 7 (lwL k d o ou b)) (kk : ∀ (X' : XS) (w2 : zw) (H2 : Heap) (locs2 : List Loc) (ls2 : Array Slot), CI G e0 w2 d la ra (ou :: allR o A) (k + 1) X' → RI G w2 o A X' → ouC G w2 ou → Zw G.1 vwC (zA s.heap.size) w2 H2 → va_S (zA s.heap.size) s.heap H2 locs2 → lv_has ls2 7 (lwL k d o ou b) → W p l e room_1 s m #[Value.ref b] below meth c H2 locs2 (cells + 210) (slots + 4200) Q (F0 m 770 ls2 [])) : W p l e room_1 s m #[Value.ref b] below meth c H locs cells slots Q (F0 m 458 ls []) := by
  have hk5 : k ≤ 512 := by omega
  obtain ⟨r, X1, CC, RR⟩ := p_put l G s.heap.size e0 hA hI hRI hk5 (xs (5 * k + 1)) (xs (5 * k + 2)) (decide (¬ xs (5 * k + 3) = 0))
  obtain ⟨fd, hd⟩ := hI.d
  obtain ⟨f0, hou⟩ := hou
  refine lv_aload_n cx.1 cx.2.1 d_law_458 rfl (lv_at hl 3 rfl) ?_
  refine sl_arg (j := 1) cx hX hbl (Nat.le_refl _) hL hS (lv_at hl 0 rfl) (lv_at hl 4 rfl) (by omega) d_law_459 d_law_460 d_law_462 (by decide) d_law_463 d_law_464 ?_
  refine sl_arg (j := 2) cx hX hbl (Nat.le_refl _) hL hS (lv_at hl 0 rfl) (lv_at hl 4 rfl) (by omega) d_law_465 d_law_466 d_law_468 (by decide) d_law_469 d_law_470 ?_
  refine sl_arg (j := 3) cx hX hbl (Nat.le_refl _) hL hS (lv_at hl 0 rfl) (lv_at hl 4 rfl) (by omega) d_law_471 d_law_472 d_law_474 (by decide) d_law_475 d_law_476 ?_
  refine sl_bool (a1 := 484) (a2 := 485) cx d_law_477 d_law_480 d_law_481 rfl rfl d_law_484 ?_
  refine z_ivV (C := "BoxDesk") (n := 3) (As := [.int (xs (5 * k + 1)), .int (xs (5 * k + 2)), .int (zi (decide (¬ xs (5 * k + 3) = 0)))]) (rest := []) cx tw_258 tw_1 tw_255 tw_256 tw_257 (by decide +kernel) (hZ.recv cx.K rfl hd) CC ⟨(Nat.le_of_ble_eq_true rfl), (Nat.le_of_ble_eq_true rfl)⟩ ⟨hc.1, hc.2⟩ rfl hl.1 rfl (Nat.le_of_ble_eq_true rfl) d_law_485 hZ hS (fun v w1 H locs hp1 hZ hS => ?_)
  obtain ⟨rfl, hci, hkp⟩ := hp1
  have hci := hci (cx.ez hZ)
  have hri := hRI.keepK hkp
  have hou := hkp _ _ hou ref_long
  obtain ⟨fo, ho⟩ := hri.o
  refine W.eq (g2 := F0 m 488 ls [.int r]) rfl ?_
  refine lv_aload_n cx.1 cx.2.1 d_law_488 rfl (lv_at hl 2 rfl) ?_
  refine sl_arg (j := 1) cx hX hbl (Nat.le_refl _) hL hS (lv_at hl 0 rfl) (lv_at hl 4 rfl) (by omega) d_law_489 d_law_490 d_law_492 (by decide) d_law_493 d_law_494 ?_
  refine sl_arg (j := 2) cx hX hbl (Nat.le_refl _) hL hS (lv_at hl 0 rfl) (lv_at hl 4 rfl) (by omega) d_law_495 d_law_496 d_law_498 (by decide) d_law_499 d_law_500 ?_
  refine sl_arg (j := 3) cx hX hbl (Nat.le_refl _) hL hS (lv_at hl 0 rfl) (lv_at hl 4 rfl) (by omega) d_law_501 d_law_502 d_law_504 (by decide) d_law_505 d_law_506 ?_
  refine sl_bool (a1 := 514) (a2 := 515) cx d_law_507 d_law_510 d_law_511 rfl rfl d_law_514 ?_
  refine z_ivV (C := "BoxDeskModel") (n := 3) (As := [.int (xs (5 * k + 1)), .int (xs (5 * k + 2)), .int (zi (decide (¬ xs (5 * k + 3) = 0)))]) (rest := [.int r]) cx tw_795 tw_2 tw_792 tw_793 tw_794 (by decide +kernel) (hZ.recv cx.K rfl ho) (RR w1 hri) ⟨(Nat.le_of_ble_eq_true rfl), (Nat.le_of_ble_eq_true rfl)⟩ ⟨by show cells + 210 + 0 ≤ 601024; omega, by show slots + 4200 + 0 ≤ 7293034; omega⟩ rfl hl.1 rfl (Nat.le_of_ble_eq_true rfl) d_law_515 hZ hS (fun v w2 H locs hp2 hZ hS => ?_)
  obtain ⟨rfl, hri2, hF2⟩ := hp2
  refine W.eq (g2 := F0 m 518 ls [.int r, .int r]) rfl ?_
  refine lv_icmp_eq (tgt := 770) cx.1 cx.2.1 d_law_518 (by decide) (fun _ => ?_) (fun q => absurd rfl q)
  exact kk X1 w2 H locs ls (hci.ref hri hou hF2 (cx.ez hZ)) hri2 ⟨f0, hF2.keep hou hno⟩ hZ hS hl
set_option maxHeartbeats 2000000 in
theorem lw_case_8 {p : Program} {e : Env} {s : State} {m : MethodId} {below : List Frame} {meth : Method} {c : Code} {l : Launch} {b L : Nat} {xs : Nat → Int32} {G : zG} {e0 : Nat} {d la ra o ou : Nat} {A : Nat → Nat} {k : Nat} {X : XS} {w : zw} {H : Heap} {locs : List Loc} {cells slots : Nat} {ls : Array Slot} {Q : State → Prop} (cx : Cx G s.heap.size e0 p s m #[Value.ref b] meth c code 7 "BoxDeskLaw" ret) (hX : va_X b L xs s s.heap) (hbl : b < s.heap.size) (hL : L ≤ 2560) (hA : ∀ i j, i < 13 → j < 13 → i ≠ j → A i ≠ A j) (hno : ou ∉ allR o A) (hk : 5 * k + 5 ≤ L) (hc : cells + 210 ≤ 601024 ∧ slots + 4200 ≤ 7293034) (hI : CI G e0 w d la ra (ou :: allR o A) k X) (hRI : RI G w o A X) (hou : ouC G w ou) (hZ : Zw G.1 vwC (zA s.heap.size) w H) (hS : va_S (zA s.heap.size) s.heap H locs) (hl : lv_has ls 7 (lwL k d o ou b)) (kk : ∀ (X' : XS) (w2 : zw) (H2 : Heap) (locs2 : List Loc) (ls2 : Array Slot), CI G e0 w2 d la ra (ou :: allR o A) (k + 1) X' → RI G w2 o A X' → ouC G w2 ou → Zw G.1 vwC (zA s.heap.size) w2 H2 → va_S (zA s.heap.size) s.heap H2 locs2 → lv_has ls2 7 (lwL k d o ou b) → W p l e room_1 s m #[Value.ref b] below meth c H2 locs2 (cells + 210) (slots + 4200) Q (F0 m 770 ls2 [])) : W p l e room_1 s m #[Value.ref b] below meth c H locs cells slots Q (F0 m 523 ls []) := by
  have hk5 : k ≤ 512 := by omega
  obtain ⟨r, X1, CC, RR⟩ := p_unbox l G s.heap.size e0 hA hI hRI hk5 (xs (5 * k + 1))
  obtain ⟨fd, hd⟩ := hI.d
  obtain ⟨f0, hou⟩ := hou
  refine lv_aload_n cx.1 cx.2.1 d_law_523 rfl (lv_at hl 3 rfl) ?_
  refine sl_arg (j := 1) cx hX hbl (Nat.le_refl _) hL hS (lv_at hl 0 rfl) (lv_at hl 4 rfl) (by omega) d_law_524 d_law_525 d_law_527 (by decide) d_law_528 d_law_529 ?_
  refine z_ivV (C := "BoxDesk") (n := 1) (As := [.int (xs (5 * k + 1))]) (rest := []) cx tw_275 tw_1 tw_272 tw_273 tw_274 (by decide +kernel) (hZ.recv cx.K rfl hd) CC ⟨(Nat.le_of_ble_eq_true rfl), (Nat.le_of_ble_eq_true rfl)⟩ ⟨hc.1, hc.2⟩ rfl hl.1 rfl (Nat.le_of_ble_eq_true rfl) d_law_530 hZ hS (fun v w1 H locs hp1 hZ hS => ?_)
  obtain ⟨rfl, hci, hkp⟩ := hp1
  have hci := hci (cx.ez hZ)
  have hri := hRI.keepK hkp
  have hou := hkp _ _ hou ref_long
  obtain ⟨fo, ho⟩ := hri.o
  refine W.eq (g2 := F0 m 533 ls [.int r]) rfl ?_
  refine lv_aload_n cx.1 cx.2.1 d_law_533 rfl (lv_at hl 2 rfl) ?_
  refine sl_arg (j := 1) cx hX hbl (Nat.le_refl _) hL hS (lv_at hl 0 rfl) (lv_at hl 4 rfl) (by omega) d_law_534 d_law_535 d_law_537 (by decide) d_law_538 d_law_539 ?_
  refine z_ivV (C := "BoxDeskModel") (n := 1) (As := [.int (xs (5 * k + 1))]) (rest := [.int r]) cx tw_803 tw_2 tw_800 tw_801 tw_802 (by decide +kernel) (hZ.recv cx.K rfl ho) (RR w1 hri) ⟨(Nat.le_of_ble_eq_true rfl), (Nat.le_of_ble_eq_true rfl)⟩ ⟨by show cells + 210 + 0 ≤ 601024; omega, by show slots + 4200 + 0 ≤ 7293034; omega⟩ rfl hl.1 rfl (Nat.le_of_ble_eq_true rfl) d_law_540 hZ hS (fun v w2 H locs hp2 hZ hS => ?_)
  obtain ⟨rfl, hri2, hF2⟩ := hp2
  refine W.eq (g2 := F0 m 543 ls [.int r, .int r]) rfl ?_
  refine lv_icmp_eq (tgt := 770) cx.1 cx.2.1 d_law_543 (by decide) (fun _ => ?_) (fun q => absurd rfl q)
  exact kk X1 w2 H locs ls (hci.ref hri hou hF2 (cx.ez hZ)) hri2 ⟨f0, hF2.keep hou hno⟩ hZ hS hl
set_option maxHeartbeats 2000000 in
theorem lw_case_9 {p : Program} {e : Env} {s : State} {m : MethodId} {below : List Frame} {meth : Method} {c : Code} {l : Launch} {b L : Nat} {xs : Nat → Int32} {G : zG} {e0 : Nat} {d la ra o ou : Nat} {A : Nat → Nat} {k : Nat} {X : XS} {w : zw} {H : Heap} {locs : List Loc} {cells slots : Nat} {ls : Array Slot} {Q : State → Prop} (cx : Cx G s.heap.size e0 p s m #[Value.ref b] meth c code 7 "BoxDeskLaw" ret) (hX : va_X b L xs s s.heap) (hbl : b < s.heap.size) (hL : L ≤ 2560) (hA : ∀ i j, i < 13 → j < 13 → i ≠ j → A i ≠ A j) (hno : ou ∉ allR o A) (hk : 5 * k + 5 ≤ L) (hc : cells + 210 ≤ 601024 ∧ slots + 4200 ≤ 7293034) (hI : CI G e0 w d la ra (ou :: allR o A) k X) (hRI : RI G w o A X) (hou : ouC G w ou) (hZ : Zw G.1 vwC (zA s.heap.size) w H) (hS : va_S (zA s.heap.size) s.heap H locs) (hl : lv_has ls 7 (lwL k d o ou b)) (kk : ∀ (X' : XS) (w2 : zw) (H2 : Heap) (locs2 : List Loc) (ls2 : Array Slot), CI G e0 w2 d la ra (ou :: allR o A) (k + 1) X' → RI G w2 o A X' → ouC G w2 ou → Zw G.1 vwC (zA s.heap.size) w2 H2 → va_S (zA s.heap.size) s.heap H2 locs2 → lv_has ls2 7 (lwL k d o ou b) → W p l e room_1 s m #[Value.ref b] below meth c H2 locs2 (cells + 210) (slots + 4200) Q (F0 m 770 ls2 [])) : W p l e room_1 s m #[Value.ref b] below meth c H locs cells slots Q (F0 m 548 ls []) := by
  have hk5 : k ≤ 512 := by omega
  obtain ⟨r, X1, CC, RR⟩ := p_size l G s.heap.size e0 hA hI (xs (5 * k + 1)) (xs (5 * k + 2)) (xs (5 * k + 3))
  obtain ⟨fd, hd⟩ := hI.d
  obtain ⟨f0, hou⟩ := hou
  refine lv_aload_n cx.1 cx.2.1 d_law_548 rfl (lv_at hl 3 rfl) ?_
  refine sl_arg (j := 1) cx hX hbl (Nat.le_refl _) hL hS (lv_at hl 0 rfl) (lv_at hl 4 rfl) (by omega) d_law_549 d_law_550 d_law_552 (by decide) d_law_553 d_law_554 ?_
  refine sl_arg (j := 2) cx hX hbl (Nat.le_refl _) hL hS (lv_at hl 0 rfl) (lv_at hl 4 rfl) (by omega) d_law_555 d_law_556 d_law_558 (by decide) d_law_559 d_law_560 ?_
  refine sl_arg (j := 3) cx hX hbl (Nat.le_refl _) hL hS (lv_at hl 0 rfl) (lv_at hl 4 rfl) (by omega) d_law_561 d_law_562 d_law_564 (by decide) d_law_565 d_law_566 ?_
  refine z_ivV (C := "BoxDesk") (n := 3) (As := [.int (xs (5 * k + 1)), .int (xs (5 * k + 2)), .int (xs (5 * k + 3))]) (rest := []) cx tw_297 tw_1 tw_294 tw_295 tw_296 (by decide +kernel) (hZ.recv cx.K rfl hd) CC ⟨(Nat.le_of_ble_eq_true rfl), (Nat.le_of_ble_eq_true rfl)⟩ ⟨hc.1, hc.2⟩ rfl hl.1 rfl (Nat.le_of_ble_eq_true rfl) d_law_567 hZ hS (fun v w1 H locs hp1 hZ hS => ?_)
  obtain ⟨rfl, hci, hkp⟩ := hp1
  have hci := hci (cx.ez hZ)
  have hri := hRI.keepK hkp
  have hou := hkp _ _ hou ref_long
  obtain ⟨fo, ho⟩ := hri.o
  refine W.eq (g2 := F0 m 570 ls [.int r]) rfl ?_
  refine lv_aload_n cx.1 cx.2.1 d_law_570 rfl (lv_at hl 2 rfl) ?_
  refine sl_arg (j := 1) cx hX hbl (Nat.le_refl _) hL hS (lv_at hl 0 rfl) (lv_at hl 4 rfl) (by omega) d_law_571 d_law_572 d_law_574 (by decide) d_law_575 d_law_576 ?_
  refine sl_arg (j := 2) cx hX hbl (Nat.le_refl _) hL hS (lv_at hl 0 rfl) (lv_at hl 4 rfl) (by omega) d_law_577 d_law_578 d_law_580 (by decide) d_law_581 d_law_582 ?_
  refine sl_arg (j := 3) cx hX hbl (Nat.le_refl _) hL hS (lv_at hl 0 rfl) (lv_at hl 4 rfl) (by omega) d_law_583 d_law_584 d_law_586 (by decide) d_law_587 d_law_588 ?_
  refine z_ivV (C := "BoxDeskModel") (n := 3) (As := [.int (xs (5 * k + 1)), .int (xs (5 * k + 2)), .int (xs (5 * k + 3))]) (rest := [.int r]) cx tw_807 tw_2 tw_804 tw_805 tw_806 (by decide +kernel) (hZ.recv cx.K rfl ho) (RR w1 hri) ⟨(Nat.le_of_ble_eq_true rfl), (Nat.le_of_ble_eq_true rfl)⟩ ⟨by show cells + 210 + 0 ≤ 601024; omega, by show slots + 4200 + 0 ≤ 7293034; omega⟩ rfl hl.1 rfl (Nat.le_of_ble_eq_true rfl) d_law_589 hZ hS (fun v w2 H locs hp2 hZ hS => ?_)
  obtain ⟨rfl, hri2, hF2⟩ := hp2
  refine W.eq (g2 := F0 m 592 ls [.int r, .int r]) rfl ?_
  refine lv_icmp_eq (tgt := 770) cx.1 cx.2.1 d_law_592 (by decide) (fun _ => ?_) (fun q => absurd rfl q)
  exact kk X1 w2 H locs ls (hci.ref hri hou hF2 (cx.ez hZ)) hri2 ⟨f0, hF2.keep hou hno⟩ hZ hS hl
set_option maxHeartbeats 2000000 in
theorem lw_case_10 {p : Program} {e : Env} {s : State} {m : MethodId} {below : List Frame} {meth : Method} {c : Code} {l : Launch} {b L : Nat} {xs : Nat → Int32} {G : zG} {e0 : Nat} {d la ra o ou : Nat} {A : Nat → Nat} {k : Nat} {X : XS} {w : zw} {H : Heap} {locs : List Loc} {cells slots : Nat} {ls : Array Slot} {Q : State → Prop} (cx : Cx G s.heap.size e0 p s m #[Value.ref b] meth c code 7 "BoxDeskLaw" ret) (hX : va_X b L xs s s.heap) (hbl : b < s.heap.size) (hL : L ≤ 2560) (hA : ∀ i j, i < 13 → j < 13 → i ≠ j → A i ≠ A j) (hno : ou ∉ allR o A) (hk : 5 * k + 5 ≤ L) (hc : cells + 210 ≤ 601024 ∧ slots + 4200 ≤ 7293034) (hI : CI G e0 w d la ra (ou :: allR o A) k X) (hRI : RI G w o A X) (hou : ouC G w ou) (hZ : Zw G.1 vwC (zA s.heap.size) w H) (hS : va_S (zA s.heap.size) s.heap H locs) (hl : lv_has ls 7 (lwL k d o ou b)) (hTr : l.stackTraces = false) (hzt : zT s.heap.size s) (kk : ∀ (X' : XS) (w2 : zw) (H2 : Heap) (locs2 : List Loc) (ls2 : Array Slot), CI G e0 w2 d la ra (ou :: allR o A) (k + 1) X' → RI G w2 o A X' → ouC G w2 ou → Zw G.1 vwC (zA s.heap.size) w2 H2 → va_S (zA s.heap.size) s.heap H2 locs2 → lv_has ls2 7 (lwL k d o ou b) → W p l e room_1 s m #[Value.ref b] below meth c H2 locs2 (cells + 210) (slots + 4200) Q (F0 m 770 ls2 [])) : W p l e room_1 s m #[Value.ref b] below meth c H locs cells slots Q (F0 m 597 ls []) := by
  have hk5 : k ≤ 512 := by omega
  obtain ⟨f0, hou⟩ := hou
  obtain ⟨j, r, X1, CC, RR⟩ := hp_W_about l G s.heap.size e0 hI hRI hou hno (xs (5 * k + 1)) (xs (5 * k + 2)) (p_about l hTr G s.heap.size e0 hA hI (xs (5 * k + 1)) (xs (5 * k + 2)))
  refine lv_aload_n cx.1 cx.2.1 d_law_597 rfl (lv_at hl 3 rfl) ?_
  refine sl_arg (j := 1) cx hX hbl (Nat.le_refl _) hL hS (lv_at hl 0 rfl) (lv_at hl 4 rfl) (by omega) d_law_598 d_law_599 d_law_601 (by decide) d_law_602 d_law_603 ?_
  refine sl_arg (j := 2) cx hX hbl (Nat.le_refl _) hL hS (lv_at hl 0 rfl) (lv_at hl 4 rfl) (by omega) d_law_604 d_law_605 d_law_607 (by decide) d_law_608 d_law_609 ?_
  refine lv_aload_n cx.1 cx.2.1 d_law_610 rfl (lv_at hl 1 rfl) ?_
  refine z_ivH (n := 4) (As := [.ref d, .int (xs (5 * k + 1)), .int (xs (5 * k + 2)), .ref ou]) (rest := []) cx hzt th_562 tw_0 tw_560 tw_561 (by decide +kernel) CC ⟨(Nat.le_of_ble_eq_true rfl), (Nat.le_of_ble_eq_true rfl)⟩ ⟨hc.1, hc.2⟩ rfl hl.1 rfl (Nat.le_of_ble_eq_true rfl) d_law_611 hZ hS (fun v w1 H locs hp1 hZ hS => ?_)
  obtain ⟨rfl, hci, hri, f1, hou, hj⟩ := hp1
  obtain ⟨fo, ho⟩ := hri.o
  refine W.eq (g2 := F0 m 614 ls [.int j]) rfl ?_
  refine lv_istore (lv' := [(5, .int j), (4, .int (nI (5 * k))), (3, .ref ou), (2, .ref o), (1, .ref d), (0, .ref b)]) cx.1 cx.2.1 d_law_614 hl (by decide) rfl (fun ls hl => ?_)
  refine lv_aload_n cx.1 cx.2.1 d_law_616 rfl (lv_at hl 3 rfl) ?_
  refine sl_arg (j := 1) cx hX hbl (Nat.le_refl _) hL hS (lv_at hl 1 rfl) (lv_at hl 5 rfl) (by omega) d_law_617 d_law_618 d_law_620 (by decide) d_law_621 d_law_622 ?_
  refine sl_arg (j := 2) cx hX hbl (Nat.le_refl _) hL hS (lv_at hl 1 rfl) (lv_at hl 5 rfl) (by omega) d_law_623 d_law_624 d_law_626 (by decide) d_law_627 d_law_628 ?_
  refine z_ivV (C := "BoxDeskModel") (n := 2) (As := [.int (xs (5 * k + 1)), .int (xs (5 * k + 2))]) (rest := []) cx tw_811 tw_2 tw_808 tw_809 tw_810 (by decide +kernel) (hZ.recv cx.K rfl ho) (RR w1 hri) ⟨(Nat.le_of_ble_eq_true rfl), (Nat.le_of_ble_eq_true rfl)⟩ ⟨by show cells + 210 + 0 ≤ 601024; omega, by show slots + 4200 + 0 ≤ 7293034; omega⟩ rfl hl.1 rfl (Nat.le_of_ble_eq_true rfl) d_law_629 hZ hS (fun v w2 H locs hp2 hZ hS => ?_)
  obtain ⟨bb, rfl, hb, hrt, hF2⟩ := hp2
  have hri2 := hrt.ri
  have hci := hci.ref hri hou hF2 (cx.ez hZ)
  have hou := hF2.keep hou hno
  obtain ⟨S, L0, F, M, B0, V, Z, T, sz, en, hS0, hra, -⟩ := hrt
  refine W.eq (g2 := F0 m 632 ls [.int bb]) rfl ?_
  refine lv_istore (lv' := [(6, .int bb), (5, .int j), (4, .int (nI (5 * k))), (3, .ref ou), (2, .ref o), (1, .ref d), (0, .ref b)]) cx.1 cx.2.1 d_law_632 hl (by decide) rfl (fun ls hl => ?_)
  refine lv_aload_n cx.1 cx.2.1 d_law_634 rfl (lv_at hl 4 rfl) ?_
  refine z_ivV (C := "BoxDeskModel") (n := 0) (As := []) (rest := []) cx tw_681 tw_2 tw_678 tw_679 tw_680 (by decide +kernel) (hZ.recv cx.K rfl hra.1) (r_thrown l G s.heap.size e0 w2 o A S L0 hra.1) ⟨(Nat.le_of_ble_eq_true rfl), (Nat.le_of_ble_eq_true rfl)⟩ ⟨by show cells + 210 + 0 + 0 ≤ 601024; omega, by show slots + 4200 + 0 + 0 ≤ 7293034; omega⟩ rfl hl.1 rfl (Nat.le_of_ble_eq_true rfl) d_law_635 hZ hS (fun v w3 H locs hp3 hZ hS => ?_)
  obtain ⟨rfl, hq3⟩ := hp3
  subst w3
  refine W.eq (g2 := F0 m 638 ls [.int (S 0)]) rfl ?_
  refine lv_iload cx.1 cx.2.1 d_law_638 (lv_at hl 1 rfl) ?_
  refine lv_icmp_eq (tgt := 645) cx.1 cx.2.1 d_law_640 (by decide) (fun _ => ?_) (fun q => absurd hS0 q)
  have fin : W p l e room_1 s m #[Value.ref b] below meth c H locs (cells + 210 + 0 + 0) (slots + 4200 + 0 + 0) Q (F0 m 662 ls []) := by
    refine lv_goto (tgt := 770) cx.1 cx.2.1 d_law_662 (by decide) ?_
    exact kk X1 _ H locs ls hci hri2 ⟨f1, hou⟩ hZ hS (lv_sub hl [2, 3, 4, 5, 6] rfl)
  refine lv_iload cx.1 cx.2.1 d_law_645 (lv_at hl 1 rfl) ?_
  refine lv_if_ne (tgt := 662) cx.1 cx.2.1 d_law_647 (by decide) (fun _ => fin) (fun hj0 => ?_)
  refine lv_aload_n cx.1 cx.2.1 d_law_650 rfl (lv_at hl 3 rfl) ?_
  refine lv_iconst (v := 0) cx.1 cx.2.1 d_law_651 (by decide) ?_
  refine ld_l cx hZ hou (vp_in_nI (n := 0) (by omega) (by omega)) d_law_652 ?_
  refine lv_iload cx.1 cx.2.1 d_law_653 (lv_at hl 0 rfl) ?_
  refine lv_i2l cx.1 cx.2.1 d_law_655 rfl ?_
  refine W.lcmp cx.1 cx.2.1 d_law_656 ?_
  refine lv_if_eq (tgt := 662) cx.1 cx.2.1 d_law_657 (by decide) (fun _ => fin) (fun q => ?_)
  exfalso
  apply q
  rw [hb hj0]
  have h0 : f1 (0 : Int32).toNatClampNeg = r.toInt64 := hj hj0
  rw [h0]
  exact lw_cmp0 _
set_option maxHeartbeats 2000000 in
theorem lw_case_11 {p : Program} {e : Env} {s : State} {m : MethodId} {below : List Frame} {meth : Method} {c : Code} {l : Launch} {b L : Nat} {xs : Nat → Int32} {G : zG} {e0 : Nat} {d la ra o ou : Nat} {A : Nat → Nat} {k : Nat} {X : XS} {w : zw} {H : Heap} {locs : List Loc} {cells slots : Nat} {ls : Array Slot} {Q : State → Prop} (cx : Cx G s.heap.size e0 p s m #[Value.ref b] meth c code 7 "BoxDeskLaw" ret) (hX : va_X b L xs s s.heap) (hbl : b < s.heap.size) (hL : L ≤ 2560) (hA : ∀ i j, i < 13 → j < 13 → i ≠ j → A i ≠ A j) (hno : ou ∉ allR o A) (hk : 5 * k + 5 ≤ L) (hc : cells + 210 ≤ 601024 ∧ slots + 4200 ≤ 7293034) (hI : CI G e0 w d la ra (ou :: allR o A) k X) (hRI : RI G w o A X) (hou : ouC G w ou) (hZ : Zw G.1 vwC (zA s.heap.size) w H) (hS : va_S (zA s.heap.size) s.heap H locs) (hl : lv_has ls 7 (lwL k d o ou b)) (hTr : l.stackTraces = false) (hzt : zT s.heap.size s) (kk : ∀ (X' : XS) (w2 : zw) (H2 : Heap) (locs2 : List Loc) (ls2 : Array Slot), CI G e0 w2 d la ra (ou :: allR o A) (k + 1) X' → RI G w2 o A X' → ouC G w2 ou → Zw G.1 vwC (zA s.heap.size) w2 H2 → va_S (zA s.heap.size) s.heap H2 locs2 → lv_has ls2 7 (lwL k d o ou b) → W p l e room_1 s m #[Value.ref b] below meth c H2 locs2 (cells + 210) (slots + 4200) Q (F0 m 770 ls2 [])) : W p l e room_1 s m #[Value.ref b] below meth c H locs cells slots Q (F0 m 665 ls []) := by
  have hk5 : k ≤ 512 := by omega
  obtain ⟨f0, hou⟩ := hou
  obtain ⟨j, r, X1, CC, RR⟩ := hp_W_item l G s.heap.size e0 hI hRI hou hno (xs (5 * k + 1)) (xs (5 * k + 2)) (xs (5 * k + 3)) (p_item l hTr G s.heap.size e0 hA hI hk5 (xs (5 * k + 1)) (xs (5 * k + 2)) (xs (5 * k + 3)))
  refine lv_aload_n cx.1 cx.2.1 d_law_665 rfl (lv_at hl 3 rfl) ?_
  refine sl_arg (j := 1) cx hX hbl (Nat.le_refl _) hL hS (lv_at hl 0 rfl) (lv_at hl 4 rfl) (by omega) d_law_666 d_law_667 d_law_669 (by decide) d_law_670 d_law_671 ?_
  refine sl_arg (j := 2) cx hX hbl (Nat.le_refl _) hL hS (lv_at hl 0 rfl) (lv_at hl 4 rfl) (by omega) d_law_672 d_law_673 d_law_675 (by decide) d_law_676 d_law_677 ?_
  refine sl_arg (j := 3) cx hX hbl (Nat.le_refl _) hL hS (lv_at hl 0 rfl) (lv_at hl 4 rfl) (by omega) d_law_678 d_law_679 d_law_681 (by decide) d_law_682 d_law_683 ?_
  refine lv_aload_n cx.1 cx.2.1 d_law_684 rfl (lv_at hl 1 rfl) ?_
  refine z_ivH (n := 5) (As := [.ref d, .int (xs (5 * k + 1)), .int (xs (5 * k + 2)), .int (xs (5 * k + 3)), .ref ou]) (rest := []) cx hzt th_591 tw_0 tw_589 tw_590 (by decide +kernel) CC ⟨(Nat.le_of_ble_eq_true rfl), (Nat.le_of_ble_eq_true rfl)⟩ ⟨hc.1, hc.2⟩ rfl hl.1 rfl (Nat.le_of_ble_eq_true rfl) d_law_685 hZ hS (fun v w1 H locs hp1 hZ hS => ?_)
  obtain ⟨rfl, hci, hri, f1, hou, hj⟩ := hp1
  obtain ⟨fo, ho⟩ := hri.o
  refine W.eq (g2 := F0 m 688 ls [.int j]) rfl ?_
  refine lv_istore (lv' := [(5, .int j), (4, .int (nI (5 * k))), (3, .ref ou), (2, .ref o), (1, .ref d), (0, .ref b)]) cx.1 cx.2.1 d_law_688 hl (by decide) rfl (fun ls hl => ?_)
  refine lv_aload_n cx.1 cx.2.1 d_law_690 rfl (lv_at hl 3 rfl) ?_
  refine sl_arg (j := 1) cx hX hbl (Nat.le_refl _) hL hS (lv_at hl 1 rfl) (lv_at hl 5 rfl) (by omega) d_law_691 d_law_692 d_law_694 (by decide) d_law_695 d_law_696 ?_
  refine sl_arg (j := 2) cx hX hbl (Nat.le_refl _) hL hS (lv_at hl 1 rfl) (lv_at hl 5 rfl) (by omega) d_law_697 d_law_698 d_law_700 (by decide) d_law_701 d_law_702 ?_
  refine sl_arg (j := 3) cx hX hbl (Nat.le_refl _) hL hS (lv_at hl 1 rfl) (lv_at hl 5 rfl) (by omega) d_law_703 d_law_704 d_law_706 (by decide) d_law_707 d_law_708 ?_
  refine z_ivV (C := "BoxDeskModel") (n := 3) (As := [.int (xs (5 * k + 1)), .int (xs (5 * k + 2)), .int (xs (5 * k + 3))]) (rest := []) cx tw_819 tw_2 tw_816 tw_817 tw_818 (by decide +kernel) (hZ.recv cx.K rfl ho) (RR w1 hri) ⟨(Nat.le_of_ble_eq_true rfl), (Nat.le_of_ble_eq_true rfl)⟩ ⟨by show cells + 210 + 0 ≤ 601024; omega, by show slots + 4200 + 0 ≤ 7293034; omega⟩ rfl hl.1 rfl (Nat.le_of_ble_eq_true rfl) d_law_709 hZ hS (fun v w2 H locs hp2 hZ hS => ?_)
  obtain ⟨bb, rfl, hb, hrt, hF2⟩ := hp2
  have hri2 := hrt.ri
  have hci := hci.ref hri hou hF2 (cx.ez hZ)
  have hou := hF2.keep hou hno
  obtain ⟨S, L0, F, M, B0, V, Z, T, sz, en, hS0, hra, -⟩ := hrt
  refine W.eq (g2 := F0 m 712 ls [.int bb]) rfl ?_
  refine lv_istore (lv' := [(6, .int bb), (5, .int j), (4, .int (nI (5 * k))), (3, .ref ou), (2, .ref o), (1, .ref d), (0, .ref b)]) cx.1 cx.2.1 d_law_712 hl (by decide) rfl (fun ls hl => ?_)
  refine lv_aload_n cx.1 cx.2.1 d_law_714 rfl (lv_at hl 4 rfl) ?_
  refine z_ivV (C := "BoxDeskModel") (n := 0) (As := []) (rest := []) cx tw_681 tw_2 tw_678 tw_679 tw_680 (by decide +kernel) (hZ.recv cx.K rfl hra.1) (r_thrown l G s.heap.size e0 w2 o A S L0 hra.1) ⟨(Nat.le_of_ble_eq_true rfl), (Nat.le_of_ble_eq_true rfl)⟩ ⟨by show cells + 210 + 0 + 0 ≤ 601024; omega, by show slots + 4200 + 0 + 0 ≤ 7293034; omega⟩ rfl hl.1 rfl (Nat.le_of_ble_eq_true rfl) d_law_715 hZ hS (fun v w3 H locs hp3 hZ hS => ?_)
  obtain ⟨rfl, hq3⟩ := hp3
  subst w3
  refine W.eq (g2 := F0 m 718 ls [.int (S 0)]) rfl ?_
  refine lv_iload cx.1 cx.2.1 d_law_718 (lv_at hl 1 rfl) ?_
  refine lv_icmp_eq (tgt := 725) cx.1 cx.2.1 d_law_720 (by decide) (fun _ => ?_) (fun q => absurd hS0 q)
  have fin : W p l e room_1 s m #[Value.ref b] below meth c H locs (cells + 210 + 0 + 0) (slots + 4200 + 0 + 0) Q (F0 m 742 ls []) := by
    refine lv_goto (tgt := 770) cx.1 cx.2.1 d_law_742 (by decide) ?_
    exact kk X1 _ H locs ls hci hri2 ⟨f1, hou⟩ hZ hS (lv_sub hl [2, 3, 4, 5, 6] rfl)
  refine lv_iload cx.1 cx.2.1 d_law_725 (lv_at hl 1 rfl) ?_
  refine lv_if_ne (tgt := 742) cx.1 cx.2.1 d_law_727 (by decide) (fun _ => fin) (fun hj0 => ?_)
  refine lv_aload_n cx.1 cx.2.1 d_law_730 rfl (lv_at hl 3 rfl) ?_
  refine lv_iconst (v := 0) cx.1 cx.2.1 d_law_731 (by decide) ?_
  refine ld_l cx hZ hou (vp_in_nI (n := 0) (by omega) (by omega)) d_law_732 ?_
  refine lv_iload cx.1 cx.2.1 d_law_733 (lv_at hl 0 rfl) ?_
  refine lv_i2l cx.1 cx.2.1 d_law_735 rfl ?_
  refine W.lcmp cx.1 cx.2.1 d_law_736 ?_
  refine lv_if_eq (tgt := 742) cx.1 cx.2.1 d_law_737 (by decide) (fun _ => fin) (fun q => ?_)
  exfalso
  apply q
  rw [hb hj0]
  have h0 : f1 (0 : Int32).toNatClampNeg = r.toInt64 := hj hj0
  rw [h0]
  exact lw_cmp0 _
set_option maxHeartbeats 2000000 in
theorem lw_case_12 {p : Program} {e : Env} {s : State} {m : MethodId} {below : List Frame} {meth : Method} {c : Code} {l : Launch} {b L : Nat} {xs : Nat → Int32} {G : zG} {e0 : Nat} {d la ra o ou : Nat} {A : Nat → Nat} {k : Nat} {X : XS} {w : zw} {H : Heap} {locs : List Loc} {cells slots : Nat} {ls : Array Slot} {Q : State → Prop} (cx : Cx G s.heap.size e0 p s m #[Value.ref b] meth c code 7 "BoxDeskLaw" ret) (hX : va_X b L xs s s.heap) (hbl : b < s.heap.size) (hL : L ≤ 2560) (hA : ∀ i j, i < 13 → j < 13 → i ≠ j → A i ≠ A j) (hno : ou ∉ allR o A) (hk : 5 * k + 5 ≤ L) (hc : cells + 210 ≤ 601024 ∧ slots + 4200 ≤ 7293034) (hI : CI G e0 w d la ra (ou :: allR o A) k X) (hRI : RI G w o A X) (hou : ouC G w ou) (hZ : Zw G.1 vwC (zA s.heap.size) w H) (hS : va_S (zA s.heap.size) s.heap H locs) (hl : lv_has ls 7 (lwL k d o ou b)) (kk : ∀ (X' : XS) (w2 : zw) (H2 : Heap) (locs2 : List Loc) (ls2 : Array Slot), CI G e0 w2 d la ra (ou :: allR o A) (k + 1) X' → RI G w2 o A X' → ouC G w2 ou → Zw G.1 vwC (zA s.heap.size) w2 H2 → va_S (zA s.heap.size) s.heap H2 locs2 → lv_has ls2 7 (lwL k d o ou b) → W p l e room_1 s m #[Value.ref b] below meth c H2 locs2 (cells + 210) (slots + 4200) Q (F0 m 770 ls2 [])) : W p l e room_1 s m #[Value.ref b] below meth c H locs cells slots Q (F0 m 745 ls []) := by
  have hk5 : k ≤ 512 := by omega
  obtain ⟨r, X1, CC, RR⟩ := p_count l G s.heap.size e0 hI (xs (5 * k + 1))
  obtain ⟨fd, hd⟩ := hI.d
  obtain ⟨f0, hou⟩ := hou
  refine lv_aload_n cx.1 cx.2.1 d_law_745 rfl (lv_at hl 3 rfl) ?_
  refine sl_arg (j := 1) cx hX hbl (Nat.le_refl _) hL hS (lv_at hl 0 rfl) (lv_at hl 4 rfl) (by omega) d_law_746 d_law_747 d_law_749 (by decide) d_law_750 d_law_751 ?_
  refine z_ivV (C := "BoxDesk") (n := 1) (As := [.int (xs (5 * k + 1))]) (rest := []) cx tw_301 tw_1 tw_298 tw_299 tw_300 (by decide +kernel) (hZ.recv cx.K rfl hd) CC ⟨(Nat.le_of_ble_eq_true rfl), (Nat.le_of_ble_eq_true rfl)⟩ ⟨hc.1, hc.2⟩ rfl hl.1 rfl (Nat.le_of_ble_eq_true rfl) d_law_752 hZ hS (fun v w1 H locs hp1 hZ hS => ?_)
  obtain ⟨rfl, hci, hkp⟩ := hp1
  have hci := hci (cx.ez hZ)
  have hri := hRI.keepK hkp
  have hou := hkp _ _ hou ref_long
  obtain ⟨fo, ho⟩ := hri.o
  refine W.eq (g2 := F0 m 755 ls [.int r]) rfl ?_
  refine lv_aload_n cx.1 cx.2.1 d_law_755 rfl (lv_at hl 2 rfl) ?_
  refine sl_arg (j := 1) cx hX hbl (Nat.le_refl _) hL hS (lv_at hl 0 rfl) (lv_at hl 4 rfl) (by omega) d_law_756 d_law_757 d_law_759 (by decide) d_law_760 d_law_761 ?_
  refine z_ivV (C := "BoxDeskModel") (n := 1) (As := [.int (xs (5 * k + 1))]) (rest := [.int r]) cx tw_825 tw_2 tw_822 tw_823 tw_824 (by decide +kernel) (hZ.recv cx.K rfl ho) (RR w1 hri) ⟨(Nat.le_of_ble_eq_true rfl), (Nat.le_of_ble_eq_true rfl)⟩ ⟨by show cells + 210 + 0 ≤ 601024; omega, by show slots + 4200 + 0 ≤ 7293034; omega⟩ rfl hl.1 rfl (Nat.le_of_ble_eq_true rfl) d_law_762 hZ hS (fun v w2 H locs hp2 hZ hS => ?_)
  obtain ⟨rfl, hri2, hF2⟩ := hp2
  refine W.eq (g2 := F0 m 765 ls [.int r, .int r]) rfl ?_
  refine lv_icmp_eq (tgt := 770) cx.1 cx.2.1 d_law_765 (by decide) (fun _ => ?_) (fun q => absurd rfl q)
  exact kk X1 w2 H locs ls (hci.ref hri hou hF2 (cx.ez hZ)) hri2 ⟨f0, hF2.keep hou hno⟩ hZ hS hl
