/-! the contract of a method that may throw -/
theorem Zw.keepH {D : va_G} {cl : List vw_C} {A : Nat → Prop} {w : zw} {H H1 : Heap} (h : Zw D cl A w H) (hq : ∀ q : Nat, q < H.size → H1[q]? = H[q]?) : Zw D cl A w H1 := by
  obtain ⟨ws, hP, hD, rfl⟩ := h
  exact ⟨ws, fun k q hk => (hP k q hk).kept (hq q.1 (hP k q hk).lt), hD, rfl⟩
theorem same_nil {s t : State} {k n : Nat} (h : s.sameButNew t [] k n) : s.heap.size ≤ t.heap.size ∧ ∀ q : Nat, q < s.heap.size → t.heap[q]? = s.heap[q]? := by
  refine ⟨h.2.1, fun q hq => ?_⟩
  obtain ⟨c, hc⟩ : ∃ c, s.heap[q]? = some c := ⟨s.heap[q], Array.getElem?_eq_getElem hq⟩
  obtain ⟨c', h1, h2, h3, h4⟩ := h.2.2.2.2.2 q c hc
  have e : c'.slots = c.slots := Array.ext_getElem? (fun i => h4 i (by simp))
  rw [h1, hc, h2, e]
theorem W.mono {p : Program} {l : Launch} {e : Env} {R : Room} {s : State} {m : MethodId} {args : Array Value} {below : List Frame} {meth : Method} {c : Code} {H : Heap} {locs : List Loc} {cells slots : Nat} {Q Q2 : State → Prop} {g : JFrame} (h : ∀ t, Q t → Q2 t) (k : W p l e R s m args below meth c H locs cells slots Q g) : W p l e R s m args below meth c H locs cells slots Q2 g := by
  intro T hT X
  obtain ⟨t, a, b⟩ := k T hT X
  exact ⟨t, a, h t b⟩
def zQT (D : va_G) (cl : List vw_C) (n0 : Nat) (post : Option Value → zw → Prop) (postT : String → zw → Prop) : Array Value → State → Outcome → State → Prop := fun _ s o t => ((∃ (v : Option Value) (w1 : zw), o = .returned v ∧ post v w1 ∧ Zw D cl (zA n0) w1 t.heap) ∨ ∃ (x : Nat) (X : String) (ce : Cell) (w1 : zw), o = .threw x ∧ postT X w1 ∧ Zw D cl (zA n0) w1 t.heap ∧ t.heap[x]? = some ce ∧ s.vm.findClass X = some ce.cls ∧ ce.vm = .none) ∧ va_F (zA n0) s t
def TQ (below : List Frame) (Qc : Array Value → State → Outcome → State → Prop) (a : Array Value) (s : State) (mc ms : Nat) (free : Addr → Prop) : State → Prop := fun t =>
  ∃ o, t.status = .running ∧ Ended t below o ∧ Qc a s o t ∧ s.WarmedH t.vm ∧ ∃ L, s.sameButNew ({ t with vm := s.vm } : State) L mc ms ∧ ∀ q ∈ L, free q.base
def zXT (G : zG) (n0 e0 : Nat) (U : State) : Prop := zX G n0 e0 U ∧ zT n0 U
def CtT (l : Launch) (G : zG) (n0 e0 : Nat) (y : MethodName) (cy : ByteArray) (ny : Nat) (ry : Option FieldType) (rm : Room) (av : List Value) (w : zw) (post : Option Value → zw → Prop) (postT : String → zw → Prop) : Prop :=
  MetFree l y (headSpec (zws y cy ny ry) rm) (zP G.1 vwC (ztys G) n0 (zXT G n0 e0) av w) (fun _ _ _ _ _ => True) (fun a s o t => zQT G.1 vwC n0 post postT a s o t ∧ s.WarmedH t.vm ∧ ∃ L, s.sameButNew ({ t with vm := s.vm } : State) L rm.cells rm.slots ∧ ∀ q ∈ L, zA n0 q.base)
theorem z_ctT {l : Launch} {G : zG} {n0 e0 : Nat} {y : MethodName} {cy : ByteArray} {ny : Nat} {ry : Option FieldType} {rm : Room} {av : List Value} {w : zw} {post : Option Value → zw → Prop} {postT : String → zw → Prop} (hy : plainName y.cls = true) (hlen : (lg_sl av).length ≤ ny)
    (body : ∀ (p : Program) (e : Env) (s : State) (m : MethodId) (below : List Frame) (meth : Method) (c : Code) (ls : Array Slot), Cx G n0 e0 p s m av.toArray meth c cy ny y.cls ry → zT n0 s → c.exceptionTable.isEmpty = true → meth.name = y.name → Zw G.1 vwC (zA n0) w s.heap → va_S (zA n0) s.heap s.heap [] → lv_has ls ny (lv_args 0 av) →
      W p l e rm s m av.toArray below meth c s.heap [] 0 0 (TQ below (zQT G.1 vwC n0 post postT) av.toArray s rm.cells rm.slots (zA n0)) (F0 m 0 ls [])) : CtT l G n0 e0 y cy ny ry rm av w post postT := by
  refine MetFree.of_bodyS (code := cy) (maxLocals := ny) (ret := ry) hy ?_ ?_
  · intro args s m h hn
    obtain ⟨meth, c, h1, h2, h3, h4, h5, h6, -, -⟩ := Cond.code_spec hn (atoms_spec (ws := zws y cy ny ry) h _ List.mem_cons_self)
    exact ⟨meth, c, h1, h2, h3, h4, h5, h6⟩
  · intro p e s m args below meth c s₁ B hml hv _
    obtain ⟨rfl, hn0, hZ, hK, hX, hT⟩ := hv
    have hl := lv_entry av (n := ny) hlen
    have hpre := atoms_spec (ws := zws y cy ny ry) B.pre
    have hh0 : s₁.heap = s.heap := by rw [B.state]; rfl
    have K := body p e s m below meth c _ ⟨B.exec, B.bytes, hml, findClass_of_methodNamed B.named, fun w h => hpre w (List.mem_cons_of_mem _ h), hK, hn0, hX, B.notSynchronized, B.returns⟩ hT (B.noHandlers (hpre _ List.mem_cons_self)) (name_of_methodNamed B.named B.method).1 hZ va_S.rf hl
    obtain ⟨t, a1, o, b1, b2, b3, b4, b5⟩ := K s₁ hh0 (Stand.of_body B)
    rw [lg_entry_eq]
    exact ⟨t, o, a1, b1, b2, b3, b4, b5⟩
theorem TQ.of {below : List Frame} {D : va_G} {cl : List vw_C} {n0 : Nat} {post : Option Value → zw → Prop} {postT : String → zw → Prop} {a : Array Value} {s : State} {mc ms : Nat} {t : State} (h : MQ below (zQ D cl n0 post) a s mc ms (zA n0) t) : TQ below (zQT D cl n0 post postT) a s mc ms (zA n0) t := by
  obtain ⟨o, h1, h2, ⟨h3, h3'⟩, L, ⟨-, hW, hs⟩, hL⟩ := h
  exact ⟨o, h1, h2, ⟨Or.inl h3, h3'⟩, hW, L, hs, hL⟩
theorem z_iretT {p : Program} {l : Launch} {e : Env} {R : Room} {s : State} {m : MethodId} {args : Array Value} {below : List Frame} {meth : Method} {c : Code} {H : Heap} {locs : List Loc} {cells slots : Nat} {cc : ByteArray} {pc : Nat} {ls : Array Slot} {D : va_G} {cl : List vw_C} {n0 : Nat} {w : zw} {post : Option Value → zw → Prop} {postT : String → zw → Prop} {mc ms : Nat} {v : Int32} (hexec : p.tables.exec = Jvm.exec) (hb : c.code = cc) (hr : meth.sig.returnType = some .int) (hlocks : meth.locks = false) (hS : va_S (zA n0) s.heap H locs) (hZ : Zw D cl (zA n0) w H) (hcs : cells ≤ mc ∧ slots ≤ ms) (hdg : decode cc pc = .ok (.ireturn, 1)) (hp : post (some (.int v)) w) : W p l e R s m args below meth c H locs cells slots (TQ below (zQT D cl n0 post postT) args s mc ms (zA n0)) (F0 m pc ls [.int v]) :=
  W.mono (fun _ h => TQ.of h) (z_iret hexec hb hr hlocks hS hZ hcs hdg hp)
theorem tr_off {l : Launch} {e : Env} (h : l.admits e) (hl : l.stackTraces = false) : e.platform.stackTraces = false := by
  have := h.2.2.2.2.1
  rw [this]
  exact hl
set_option maxHeartbeats 2000000 in
/-- a new exception, thrown: nothing of the world has changed -/
theorem z_throw {p : Program} {l : Launch} {e : Env} {R : Room} {s : State} {m : MethodId} {args : Array Value} {below : List Frame} {meth : Method} {c : Code} {H : Heap} {locs : List Loc} {cells slots : Nat} {cc : ByteArray} {pc nL : Nat} {ls : Array Slot} {G : zG} {n0 e0 : Nat} {w : zw} {ret : Option FieldType} {post : Option Value → zw → Prop} {postT : String → zw → Prop} {mc ms : Nat} {X tx : String} {ic ix is : Nat}
    (cx : Cx G n0 e0 p s m args meth c cc nL "BoxDesk" ret) (hT : zT n0 s) (hTr : l.stackTraces = false) (hEx : c.exceptionTable.isEmpty = true) (hfit : Bundle.fit X = true) (hcl : Cond.classLink "BoxDesk" ix X ∈ TB) (hin : Cond.instantiable X 6 ∈ TB) (hini : Cond.initialized X ∈ TB)
    (hown : ∀ (U : State), (∀ w ∈ TB, w.before args U = true) → (∀ w ∈ NB, va_Nw w U) → zT n0 U → ∀ a ∈ Bundle.ownAtoms "BoxDesk" ic X [nRTE, nEXC], a.before args U = true) (hstr : ∀ U : State, zT n0 U → ∃ a, vk_R "BoxDesk" is tx a U) (hsz : ls.size = nL) (hZ : Zw G.1 vwC (zA n0) w H) (hS : va_S (zA n0) s.heap H locs) (hpT : postT X w) (hc : cells + 1 ≤ mc) (hs : slots + 6 ≤ ms) (hRc : mc ≤ R.cells) (hRs : ms ≤ R.slots) (hRf : 5 < R.frames) (hRl : 90 ≤ R.locals)
    (d0 : decode cc pc = .ok (.new ix, 3)) (d3 : decode cc (pc + 3) = .ok (.dup, 1)) (d4 : decode cc (pc + 3 + 1) = .ok (.ldc is, 2)) (d6 : decode cc (pc + 3 + 1 + 2) = .ok (.invokespecial ic, 3)) (d9 : decode cc (pc + 3 + 1 + 2 + 3) = .ok (.athrow, 1)) : W p l e R s m args below meth c H locs cells slots (TQ below (zQT G.1 vwC n0 post postT) args s mc ms (zA n0)) (F0 m pc ls []) := by
  intro T hT0 X0
  have X1 := Stand.rebase X0 (by omega) (by omega)
  have hTH : T.heap = H := hT0
  have hW : s.WarmedH (T.setFrames (.invoking m args :: below)).vm := X0.warmed
  have hh : (T.setFrames (.invoking m args :: below)).heap = H := hT0
  have hq : ∀ a : Nat, a < s.heap.size → ¬ zA n0 a → (T.setFrames (.invoking m args :: below)).heap[a]? = s.heap[a]? := fun a h1 h2 => by rw [hh]; exact hS.2.1 a h1 h2
  obtain ⟨g₀, hfr⟩ := X0.frames_eq
  have hcur : T.cur < T.threads.size := State.cur_lt_of_frames hfr
  have hsame0 : s.sameButNew ((T.setFrames (.invoking m args :: below)).setVm s.vm) locs cells slots := X0.same.setFrames (.invoking m args :: below) X0.cur
  generalize hs' : T.setFrames (.invoking m args :: below) = s' at X1 hW hh hq hsame0
  have tb' : ∀ w ∈ TB, w.before args s' = true := fun w hw => word_at hW (TB_good w hw) (cx.tb w hw)
  have nb' : ∀ w ∈ NB, va_Nw w s' := fun w hw => nb_warm (NB_lw w hw).2 hW (cx.nw w hw)
  have hT' := hT.warm hq hW
  have ow' : s'.vm.findClass "BoxDesk" = some m.cls := by rw [hW.alike.findClass]; exact cx.ow
  obtain ⟨qa, hqa⟩ := hstr s' hT'
  refine (?_ : W p l e _ s' m args below meth c H [] 0 0 _ (F0 m pc ls [])) T hT0 X1
  refine W.newc cx.1 cx.2.1 ow' (tb' _ hcl) (tb' _ hin) (tb' _ hini) rfl d0 (by show 0 + 1 ≤ R.cells - cells; omega) (by show 0 + 6 ≤ R.slots - slots; omega) ?_
  intro cC kC h1 h2 h3 h4
  refine lv_dup cx.1 cx.2.1 d3 rfl ?_
  refine va_ldcS cx.1 cx.2.1 ow' hqa d4 ?_
  intro T2 hT2 X2
  have hcell : T2.heap[H.size]? = some (freshCell cC kC) := by
    rw [hT2]
    exact State.heap_pushCell_size { T with heap := H } _
  obtain ⟨U, hst, hrun, hend, hWU, hsame, ce, hce, hOC⟩ := X2.ctorThrowS cx.1 (tr_off X0.admits hTr) (own := "BoxDesk") (cls := X) (names := [nRTE, nEXC]) (ic := ic) ow' hfit (by decide) (hown s' tb' nb' hT') (fun x hx => absurd hx List.not_mem_nil) (a := H.size) h1 h2 hcell (by rw [hh]; exact Nat.le_refl _) (msg := .ref qa) rfl (g := F0 m (pc + 3 + 1 + 2) ls [.ref qa, .ref H.size, .ref H.size]) rfl (by rw [cx.ml]; exact hsz) rfl rfl (rest := []) rfl (by rw [cx.2.1]; exact d6) (by rw [cx.2.1]; exact d9)
    (fun x hx => by rw [Array.isEmpty_iff] at hEx; rw [hEx] at hx; exact absurd hx List.not_mem_nil) (by show 2 + 3 < R.frames; omega) (by show 2 * 0 + (1 + 0) + (13 * (2 + 1) + 42) ≤ R.locals; omega) cx.lk
  obtain ⟨z1, z2⟩ := same_nil hsame
  have z1 : H.size ≤ U.heap.size := by rw [← hh]; exact z1
  have z2 : ∀ q : Nat, q < H.size → U.heap[q]? = H[q]? := fun q hq => by have := z2 q (by rw [hh]; exact hq); rw [hh] at this; exact this
  refine ⟨U, hst, .threw H.size, hrun, hend, ⟨Or.inr ⟨H.size, X, ce, w, rfl, hpT, hZ.keepH z2, hce, by rw [← hW.alike.findClass]; exact hOC.cls, hOC.vm⟩, Nat.le_trans hS.1 z1, fun q h1 h2 => by rw [z2 q (Nat.lt_of_lt_of_le h1 hS.1)]; exact hS.2.1 q h1 h2⟩, State.WarmedH.trans hW hWU, locs ++ [], ?_, fun q hq => hS.2.2 q (by simpa using hq)⟩
  exact (hsame0.trans (hsame.setVm s.vm)).mono (by omega) (by omega)
