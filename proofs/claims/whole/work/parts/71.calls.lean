/-! calls that may throw; methods with handlers -/
theorem zXT.blind {G : zG} {n0 e0 : Nat} (a : Array Value) (U : State) (g : JFrame) (mk : MethodId) (h : zXT G n0 e0 U) : zXT G n0 e0 (U.calling g mk a) :=
  ⟨h.1.blind a U g mk, h.2.warm (U := U.calling g mk a) (fun _ _ _ => rfl) (State.WarmedH.refl U)⟩
theorem run_free {p : Program} {l : Launch} {e : Env} {R : Room} {s : State} {m : MethodId} {args : Array Value} {below : List Frame} {meth : Method} {c : Code} {U : State} {locs : List Loc} {cells slots : Nat} (X : Stand p l e R s m args below meth c U locs cells slots) {y : MethodName} {ws : List Cond} {rm : Room} {P : Array Value → State → Prop} {Q : Array Value → State → Outcome → State → Prop} (hM : MetFree l y (headSpec ws rm) P (fun _ _ _ _ _ => True) Q) {g : JFrame} (hg : g.method = m) (hsize : g.locals.size = c.maxLocals) {ig : Instr} {len : Nat} (hdg : decode c.code g.pc = .ok (ig, len)) {mk : MethodId} {methY : Method} {cY : Code} (hn : U.methodNamed? y = some mk) (hmY : U.vm.method? mk = some methY) (hcY : methY.code = some cY) {a : Array Value} {ny : Nat} (hlY : cY.maxLocals = ny) (hini : (Cond.initialized y.cls).before a U = true) (hW : 2 * g.monitorRoom + (g.stack.map fun v => v.category).sum ≤ 8) (hfr : rm.frames + 1 ≤ R.frames) (hlo : 8 + (ny + 11) + rm.locals ≤ R.locals) (hc : cells + rm.cells ≤ R.cells) (hs : slots + rm.slots ≤ R.slots) (hws : ∀ w ∈ ws, w.before a U = true) (hP : P a (U.calling g mk a)) :
    ∃ o t, Steps p.tables e below (doInvoke e (U.setTop g) [] mk a).1 t ∧ Ended t (.java g :: below) o ∧ Q a (U.calling g mk a) o t := by
  obtain ⟨kY, hkY, -⟩ := className_of_methodNamed hn
  have hinitY : kY.init = .initialized := Cond.initialized_spec (findClass_of_methodNamed hn) hkY hini
  have h : At U g.method c below := by rw [hg]; exact X.here
  have happ : (headSpec ws rm).appliesLoose y e.platform (U.calling g mk a) = true :=
    Spec.appliesLoose_calling (g := g) h hdg hn hkY hinitY
      (X.room_calling (g := g) (R' := (headSpec ws rm).room) hsize hmY hcY hfr (by rw [hlY]; show _ + (ny + 11) + rm.locals ≤ _; omega) hc hs) (atoms_intro hws)
  obtain ⟨g₀, hfe⟩ := X.frames_eq
  obtain ⟨mid, hmid⟩ := h.above
  have hfr2 : (U.setTop g).frames = (.java g :: mid) ++ below := by rw [State.frames_setTop' g h.top, hmid]; rfl
  obtain ⟨o, s₂, hsteps, -, hend, hq⟩ := Steps.callFree hM p X.admits X.cas X.clock (acts := []) hfr2 happ hP trivial
  rw [State.frames_setTop' g h.top, hfe] at hend
  exact ⟨o, s₂, hsteps, hend, hq⟩
/-- which handler takes an exception of the class N thrown at pc -/
def CatchN (s : State) (c : Code) (own : String) (pc : Nat) (N : String) (tgt : Nat) : Prop := ∃ pre x rest, c.exceptionTable.toList = pre ++ x :: rest ∧ covers x pc = true ∧ x.handlerPc = tgt ∧ x.catchType ≠ 0 ∧ Cond.classLink own x.catchType N ∈ TB ∧ ∀ y ∈ pre, y.catchType ≠ 0 ∧ ∃ N2, Cond.classLink own y.catchType N2 ∈ TB ∧ zN N N2 s
section ZT
variable {p : Program} {l : Launch} {e : Env} {R : Room} {s : State} {m : MethodId} {args : Array Value} {below : List Frame} {meth : Method} {c : Code} {H : Heap} {locs : List Loc} {cells slots : Nat} {Q : State → Prop}
variable {cc : ByteArray} {pc nL : Nat} {ls : Array Slot} {rest st0 As : List Value} {G : zG} {n0 e0 : Nat} {w : zw} {own C : String} {ret : Option FieldType} {y : MethodName} {cy : ByteArray} {ny index n b : Nat} {ry : Option FieldType} {rm : Room} {post : Option Value → zw → Prop} {postT : String → zw → Prop}
theorem z_ivT (cx : Cx G n0 e0 p s m args meth c cc nL own ret) (hzt : zT n0 s) (hy : Cond.code y cy ny ry ∈ TB) (hini : Cond.initialized y.cls ∈ TB) (hl : Cond.methodLink own index y ∈ TB) (him : Cond.instanceMethod y ∈ TB) (hse : Cond.selects C y y ∈ TB) (hd : y.cls ≠ "java/lang/invoke/MethodHandle" ∧ y.cls ≠ "java/lang/invoke/VarHandle" ∧ (parseMethodDescriptor y.desc).map (fun d => d.parameters.length) = some n)
    (hr : ∃ cell : Cell, H[b]? = some cell ∧ cell.vm.isStatics = false ∧ s.vm.findClass C = some cell.cls)
    (hM : CtT l G n0 e0 y cy ny ry rm (.ref b :: As) w post postT) (hR : rm.frames + 1 ≤ R.frames ∧ 8 + (ny + 11) + rm.locals ≤ R.locals) (hf : cells + rm.cells ≤ R.cells ∧ slots + rm.slots ≤ R.slots) (hn : As.length = n) (hsz : ls.size = nL) (hst : st0 = As.reverse ++ .ref b :: rest) (h8 : (rest.map fun v => v.category).sum ≤ 8) (hdg : decode cc pc = .ok (.invokevirtual index, 3)) (hZ : Zw G.1 vwC (zA n0) w H) (hS : va_S (zA n0) s.heap H locs)
    (kR : ∀ (v : Option Value) (w1 : zw) (H1 : Heap) (locs1 : List Loc), post v w1 → Zw G.1 vwC (zA n0) w1 H1 → va_S (zA n0) s.heap H1 locs1 → W p l e R s m args below meth c H1 locs1 (cells + rm.cells) (slots + rm.slots) Q (F0 m (pc + 3) ls (v.toList ++ rest)))
    (kT : ∀ (N : String) (x : Nat) (w1 : zw) (H1 : Heap) (locs1 : List Loc), postT N w1 → Zw G.1 vwC (zA n0) w1 H1 → va_S (zA n0) s.heap H1 locs1 → ∃ tgt, CatchN s c own pc N tgt ∧ W p l e R s m args below meth c H1 locs1 (cells + rm.cells) (slots + rm.slots) Q (F0 m tgt ls [.ref x])) : W p l e R s m args below meth c H locs cells slots Q (F0 m pc ls st0) := by
  intro T hT0 X
  obtain ⟨cellB, hcell, hobj, hcls⟩ := hr
  obtain ⟨mk, methM, hnamed, hmethM, hstM, habM⟩ := Cond.instanceMethod_spec (cx.tb _ him)
  obtain ⟨methM', cM, hmethM', hcM, hbM, hlM, -, -, -, hsigM⟩ := Cond.code_spec hnamed (cx.tb _ hy)
  cases hmethM.symm.trans hmethM'
  obtain ⟨c2, r2, m2, q1, q2, q3, q4, kP, hkP, hkPi⟩ := Cond.selects_spec (cx.tb _ hse)
  cases hcls.symm.trans q1
  cases (State.methodFound?_of_named hnamed ⟨hd.1, hd.2.1⟩).symm.trans q2
  cases hnamed.symm.trans q3
  have hselP : selectMethod e.platform s.vm cellB.cls mk = .method mk := by rw [Launch.admits_selectMethod X.admits]; exact q4
  have hlen : As.length = methM.sig.parameters.length := by
    have := hd.2.2
    rw [hsigM] at this
    exact hn.trans (Option.some.inj this).symm
  obtain ⟨vm₁, X₁, hstep₁⟩ := X.invokevirtual cx.1 cx.ow (cx.tb _ hl) hnamed hmethM hstM hkP hkPi ⟨hd.1, hd.2.1⟩ (a := b) (cell := cellB) (by rw [hT0]; exact hcell)
    (fun z h => by rw [h] at hobj; cases hobj) hselP hmethM habM hkP hkPi (g := F0 m pc ls st0) rfl (argsL := As) (rest := rest) hlen hst (by rw [cx.2.1]; exact hdg)
  have hW1 : s.WarmedH (T.setVm vm₁).vm := X₁.warmed
  have hh1 : (T.setVm vm₁).heap = H := hT0
  obtain ⟨o, t, hst2, hend, ⟨hq1, hF⟩, hW2, L, hsame, hL⟩ := run_free X₁ hM (g := { F0 m pc ls st0 with stack := rest }) rfl (by rw [cx.ml]; exact hsz) (by rw [cx.2.1]; exact hdg) (X₁.named hnamed) (by rw [hW1.alike.method?]; exact hmethM) hcM (a := (Value.ref b :: As).toArray) hlM (word_at hW1 (TB_good _ hini) (cx.tb _ hini)) (by show 2 * 0 + (rest.map fun v => v.category).sum ≤ 8; omega) hR.1 hR.2 hf.1 hf.2
    (fun w hw => word_at hW1 (by rcases List.mem_cons.mp hw with rfl | hw; exact TB_good _ hy; exact TB_good _ hw) (by rcases List.mem_cons.mp hw with rfl | hw; exact cx.tb _ hy; exact cx.tb _ hw))
    (zP_blind zXT.blind _ _ _ _ (z_preU (Nat.le_trans cx.n hS.1) hZ cx.K (fun U hU hW => ⟨cx.X.warm hS hU hW, hzt.warm (fun a h1 h2 => by rw [hU]; exact hS.2.1 a h1 h2) hW⟩) _ hh1 hW1))
  obtain ⟨hF1, hF2⟩ := hF
  have hS' : ∀ {H1 : Heap}, H1 = t.heap → va_S (zA n0) s.heap H1 (locs ++ L) := by
    intro H1 e1
    subst e1
    have hF1 : H.size ≤ t.heap.size := by rw [← hh1]; exact hF1
    have hF2 : ∀ q, q < H.size → ¬ zA n0 q → t.heap[q]? = H[q]? := by
      intro q h1 h2
      rw [← hh1]
      exact hF2 q (by rw [← hh1] at h1; exact h1) h2
    refine ⟨Nat.le_trans hS.1 hF1, fun q h1 h2 => by rw [hF2 q (Nat.lt_of_lt_of_le h1 hS.1) h2]; exact hS.2.1 q h1 h2, fun q hq => ?_⟩
    rcases List.mem_append.mp hq with h | h
    · exact hS.2.2 q h
    · exact hL q h
  rcases hq1 with ⟨v, w1, rfl, hp, hz⟩ | ⟨x, N, ce, w1, rfl, hp, hz, hce, hcN, hvm⟩
  · obtain ⟨T', X', hW', hs', ht⟩ := X₁.outOf (g := { F0 m pc ls st0 with stack := rest }) rfl (by rw [cx.2.1]; exact hdg) hend hW2 hsame
    have hth : T'.heap = t.heap := by rw [ht]; rfl
    obtain ⟨t2, a1, b1⟩ := kR v w1 T'.heap (locs ++ L) hp (by rw [hth]; exact hz) (hS' hth) T' rfl X'
    refine ⟨t2, hstep₁ _ (fun acts => ?_), b1⟩
    rw [doInvoke_state]
    rw [ht] at hst2
    exact hst2.trans a1
  · obtain ⟨T', X', hW', hs', ht⟩ := X₁.outOfThrown (g := { F0 m pc ls st0 with stack := rest }) rfl hend hW2 hsame
    have hth : T'.heap = t.heap := by rw [ht, Stand.throwing_heap]
    obtain ⟨tgt, ⟨pre, xe, rest', hsplit, hx, hh, h0, hlk, hps⟩, kk⟩ := kT N x w1 T'.heap (locs ++ L) hp (by rw [hth]; exact hz) (hS' hth)
    have hcN' : s.vm.findClass N = some ce.cls := by rw [← hW1.alike.findClass]; exact hcN
    have hpl : e.platform.magicAccessors = ({} : Platform).magicAccessors := by rw [X.admits.platform]
    obtain ⟨hend2, hk0⟩ := X'.catches_of_link cx.ow h0 (cx.tb _ hlk) hcN' (Vm.assignable_self _ _)
    rw [ht] at hst2
    obtain ⟨vm', XV, st⟩ := X'.thenCaughtThrough x (g := { F0 m pc ls st0 with stack := rest }) rfl hst2 (cell := ce) (by rw [hth]; exact hce) (by rw [hvm]; rfl) hk0 pre xe rest' hsplit
      (fun y hy => by
        obtain ⟨h1, N2, h2, h3⟩ := hps y hy
        obtain ⟨c', hc', hcl⟩ := Cond.classLink_spec cx.ow (cx.tb _ h2) e.platform hpl
        exact Or.inr ⟨h1, c', hcl, h3 _ _ hcN' hc'⟩) hx hend2
    obtain ⟨t2, a1, b1⟩ := kk (T'.setVm vm') rfl XV
    refine ⟨t2, hstep₁ _ (fun acts => ?_), b1⟩
    rw [doInvoke_state]
    rw [hh] at st
    exact st.trans a1
end ZT
/-- the contract of a method with handlers, that always returns -/
def CtH (l : Launch) (G : zG) (n0 e0 : Nat) (y : MethodName) (cy : ByteArray) (ny : Nat) (hs : List (Nat × Nat × Nat × Nat)) (rm : Room) (av : List Value) (w : zw) (post : Option Value → zw → Prop) : Prop :=
  MetFree l y (headSpec (Cond.codeWith y cy ny (Option.some FieldType.int) hs :: TB) rm) (zP G.1 vwC (ztys G) n0 (zXT G n0 e0) av w) (fun _ _ _ _ _ => True) (fun a s o t => zQT G.1 vwC n0 post (fun _ _ => False) a s o t ∧ s.WarmedH t.vm ∧ ∃ L, s.sameButNew ({ t with vm := s.vm } : State) L rm.cells rm.slots ∧ ∀ q ∈ L, zA n0 q.base)
theorem z_ctH {l : Launch} {G : zG} {n0 e0 : Nat} {y : MethodName} {cy : ByteArray} {ny : Nat} {hs : List (Nat × Nat × Nat × Nat)} {rm : Room} {av : List Value} {w : zw} {post : Option Value → zw → Prop} (hy : plainName y.cls = true) (hlen : (lg_sl av).length ≤ ny)
    (body : ∀ (p : Program) (e : Env) (s : State) (m : MethodId) (below : List Frame) (meth : Method) (c : Code) (ls : Array Slot), Cx G n0 e0 p s m av.toArray meth c cy ny y.cls (Option.some FieldType.int) → zT n0 s → c.exceptionTable.toList.map (fun h => (h.startPc, h.endPc, h.handlerPc, h.catchType)) = hs → Zw G.1 vwC (zA n0) w s.heap → va_S (zA n0) s.heap s.heap [] → lv_has ls ny (lv_args 0 av) →
      W p l e rm s m av.toArray below meth c s.heap [] 0 0 (TQ below (zQT G.1 vwC n0 post (fun _ _ => False)) av.toArray s rm.cells rm.slots (zA n0)) (F0 m 0 ls [])) : CtH l G n0 e0 y cy ny hs rm av w post := by
  refine MetFree.of_bodyS (code := cy) (maxLocals := ny) (ret := Option.some FieldType.int) hy ?_ ?_
  · intro args s m h hn
    obtain ⟨m', meth, c, hn', h1, h2, h3, h4, -, h5, h6, -⟩ := Cond.codeWith_spec (atoms_spec (ws := Cond.codeWith y cy ny (Option.some FieldType.int) hs :: TB) h _ List.mem_cons_self)
    cases hn.symm.trans hn'
    exact ⟨meth, c, h1, h2, h3, h4, h5, h6⟩
  · intro p e s m args below meth c s₁ B hml hv _
    obtain ⟨rfl, hn0, hZ, hK, hX, hT⟩ := hv
    have hl := lv_entry av (n := ny) hlen
    have hpre := atoms_spec (ws := Cond.codeWith y cy ny (Option.some FieldType.int) hs :: TB) B.pre
    have hh0 : s₁.heap = s.heap := by rw [B.state]; rfl
    have X₀ := Stand.of_body B
    obtain ⟨m', meth', c', hn', h1, h2, -, -, htab, -, -, -⟩ := Cond.codeWith_spec (hpre _ List.mem_cons_self)
    cases B.named.symm.trans hn'
    cases B.method.symm.trans h1
    cases X₀.code.symm.trans h2
    have K := body p e s m below meth c _ ⟨B.exec, B.bytes, hml, findClass_of_methodNamed B.named, fun w h => hpre w (List.mem_cons_of_mem _ h), hK, hn0, hX, B.notSynchronized, B.returns⟩ hT htab hZ va_S.rf hl
    obtain ⟨t, a1, o, b1, b2, b3, b4, b5⟩ := K s₁ hh0 X₀
    rw [lg_entry_eq]
    exact ⟨t, o, a1, b1, b2, b3, b4, b5⟩
section ZH
variable {p : Program} {l : Launch} {e : Env} {R : Room} {s : State} {m : MethodId} {args : Array Value} {below : List Frame} {meth : Method} {c : Code} {H : Heap} {locs : List Loc} {cells slots : Nat} {Q : State → Prop}
variable {cc : ByteArray} {pc nL : Nat} {ls : Array Slot} {rest st0 As : List Value} {G : zG} {n0 e0 : Nat} {w : zw} {own : String} {ret : Option FieldType} {y : MethodName} {cy : ByteArray} {ny index n : Nat} {rm : Room} {post : Option Value → zw → Prop} {hs : List (Nat × Nat × Nat × Nat)}
/-- a static call of a method with handlers -/
theorem z_ivH (cx : Cx G n0 e0 p s m args meth c cc nL own ret) (hzt : zT n0 s) (hy : Cond.codeWith y cy ny (Option.some FieldType.int) hs ∈ TB) (hini : Cond.initialized y.cls ∈ TB) (hl : Cond.methodLink own index y ∈ TB) (hsta : Cond.static y ∈ TB) (hd : y.cls ≠ "java/lang/invoke/MethodHandle" ∧ y.cls ≠ "java/lang/invoke/VarHandle" ∧ (parseMethodDescriptor y.desc).map (fun d => d.parameters.length) = some n)
    (hM : CtH l G n0 e0 y cy ny hs rm As w post) (hR : rm.frames + 1 ≤ R.frames ∧ 8 + (ny + 11) + rm.locals ≤ R.locals) (hf : cells + rm.cells ≤ R.cells ∧ slots + rm.slots ≤ R.slots) (hn : As.length = n) (hsz : ls.size = nL) (hst : st0 = As.reverse ++ rest) (h8 : (rest.map fun v => v.category).sum ≤ 8) (hdg : decode cc pc = .ok (.invokestatic index, 3)) (hZ : Zw G.1 vwC (zA n0) w H) (hS : va_S (zA n0) s.heap H locs)
    (kR : ∀ (v : Option Value) (w1 : zw) (H1 : Heap) (locs1 : List Loc), post v w1 → Zw G.1 vwC (zA n0) w1 H1 → va_S (zA n0) s.heap H1 locs1 → W p l e R s m args below meth c H1 locs1 (cells + rm.cells) (slots + rm.slots) Q (F0 m (pc + 3) ls (v.toList ++ rest))) : W p l e R s m args below meth c H locs cells slots Q (F0 m pc ls st0) := by
  intro T hT0 X
  obtain ⟨mk, methM, cM, hnamed, hmethM, hcM, hbM, hlM, -, -, -, hsigM⟩ := Cond.codeWith_spec (cx.tb _ hy)
  have hstatic : methM.isStatic = true := Cond.static_spec hnamed hmethM (cx.tb _ hsta)
  obtain ⟨kP, hkP, -⟩ := className_of_methodNamed hnamed
  have hinitP : kP.init = .initialized := Cond.initialized_spec (findClass_of_methodNamed hnamed) hkP (cx.tb _ hini)
  have hlen : As.length = methM.sig.parameters.length := by
    have := hd.2.2
    rw [hsigM] at this
    exact hn.trans (Option.some.inj this).symm
  obtain ⟨vm₁, X₁, hstep₁⟩ := X.invokestatic cx.1 cx.ow (cx.tb _ hl) hnamed hmethM hstatic hkP hinitP ⟨hd.1, hd.2.1⟩ (g := F0 m pc ls st0) rfl (argsL := As) (rest := rest) hlen hst (by rw [cx.2.1]; exact hdg)
  have hW1 : s.WarmedH (T.setVm vm₁).vm := X₁.warmed
  have hh1 : (T.setVm vm₁).heap = H := hT0
  obtain ⟨o, t, hst2, hend, ⟨hq1, hF⟩, hW2, L, hsame, hL⟩ := run_free X₁ hM (g := { F0 m pc ls st0 with stack := rest }) rfl (by rw [cx.ml]; exact hsz) (by rw [cx.2.1]; exact hdg) (X₁.named hnamed) (by rw [hW1.alike.method?]; exact hmethM) hcM (a := As.toArray) hlM (word_at hW1 (TB_good _ hini) (cx.tb _ hini)) (by show 2 * 0 + (rest.map fun v => v.category).sum ≤ 8; omega) hR.1 hR.2 hf.1 hf.2
    (fun w hw => word_at hW1 (by rcases List.mem_cons.mp hw with rfl | hw; exact TB_good _ hy; exact TB_good _ hw) (by rcases List.mem_cons.mp hw with rfl | hw; exact cx.tb _ hy; exact cx.tb _ hw))
    (zP_blind zXT.blind _ _ _ _ (z_preU (Nat.le_trans cx.n hS.1) hZ cx.K (fun U hU hW => ⟨cx.X.warm hS hU hW, hzt.warm (fun a h1 h2 => by rw [hU]; exact hS.2.1 a h1 h2) hW⟩) _ hh1 hW1))
  obtain ⟨hF1, hF2⟩ := hF
  have hS' : ∀ {H1 : Heap}, H1 = t.heap → va_S (zA n0) s.heap H1 (locs ++ L) := by
    intro H1 e1
    subst e1
    have hF1 : H.size ≤ t.heap.size := by rw [← hh1]; exact hF1
    have hF2 : ∀ q, q < H.size → ¬ zA n0 q → t.heap[q]? = H[q]? := by
      intro q h1 h2
      rw [← hh1]
      exact hF2 q (by rw [← hh1] at h1; exact h1) h2
    refine ⟨Nat.le_trans hS.1 hF1, fun q h1 h2 => by rw [hF2 q (Nat.lt_of_lt_of_le h1 hS.1) h2]; exact hS.2.1 q h1 h2, fun q hq => ?_⟩
    rcases List.mem_append.mp hq with h | h
    · exact hS.2.2 q h
    · exact hL q h
  rcases hq1 with ⟨v, w1, rfl, hp, hz⟩ | ⟨x, N, ce, w1, rfl, hp, -⟩
  · obtain ⟨T', X', hW', hs', ht⟩ := X₁.outOf (g := { F0 m pc ls st0 with stack := rest }) rfl (by rw [cx.2.1]; exact hdg) hend hW2 hsame
    have hth : T'.heap = t.heap := by rw [ht]; rfl
    obtain ⟨t2, a1, b1⟩ := kR v w1 T'.heap (locs ++ L) hp (by rw [hth]; exact hz) (hS' hth) T' rfl X'
    refine ⟨t2, hstep₁ _ (fun acts => ?_), b1⟩
    rw [doInvoke_state]
    rw [ht] at hst2
    exact hst2.trans a1
  · exact hp.elim
end ZH
