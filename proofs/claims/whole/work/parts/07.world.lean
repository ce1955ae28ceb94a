/-! Worlds as functions from addresses to cells; one frame for all contracts: cells from n0 on may change. -/
abbrev zw : Type := Nat → Option va_E
def z_lk (ws : va_W) : zw := fun a => (ws.find? (fun q => q.1 == a)).map (fun q => q.2)
theorem z_lk_of {ws : va_W} {a : Nat} {e : va_E} (h : z_lk ws a = some e) : ∃ k : Nat, ws[k]? = some (a, e) := by
  unfold z_lk at h
  cases hf : ws.find? (fun q => q.1 == a) with
  | none => rw [hf] at h; cases h
  | some q =>
    rw [hf] at h
    have h1 := List.find?_some hf
    have h2 := List.mem_of_find?_eq_some hf
    obtain ⟨k, hk⟩ := List.getElem?_of_mem h2
    refine ⟨k, ?_⟩
    rw [hk]
    obtain ⟨x, y⟩ := q
    have e1 : x = a := by simpa using h1
    have e2 : y = e := by simpa using h
    rw [e1, e2]
theorem z_lk_in {A : Nat → Prop} {ws : va_W} (hD : va_D A ws) {k a : Nat} {e : va_E} (h : ws[k]? = some (a, e)) : z_lk ws a = some e := by
  cases hf : z_lk ws a with
  | none =>
    unfold z_lk at hf
    rw [Option.map_eq_none_iff, List.find?_eq_none] at hf
    have := hf (a, e) (List.mem_of_getElem? h)
    simp at this
  | some e' =>
    obtain ⟨k', hk'⟩ := z_lk_of hf
    have hkk := hD.1 k k' _ _ h hk' rfl
    subst hkk
    rw [h] at hk'
    cases hk'
    rfl
theorem z_lk_none {ws : va_W} {a : Nat} (h : ∀ (k : Nat) (e : va_E), ws[k]? ≠ some (a, e)) : z_lk ws a = none := by
  cases hf : z_lk ws a with
  | none => rfl
  | some e =>
    obtain ⟨k, hk⟩ := z_lk_of hf
    exact absurd hk (h k e)
theorem z_lk_set {A : Nat → Prop} {ws : va_W} (hD : va_D A ws) {k a : Nat} {e0 e : va_E} (h : ws[k]? = some (a, e0)) : z_lk (ws.set k (a, e)) = va_up (z_lk ws) a (some e) := by
  have hD' : va_D A (ws.set k (a, e)) := hD.set h
  have hl := (List.getElem?_eq_some_iff.mp h).1
  funext b
  by_cases hb : b = a
  · subst hb
    rw [va_up_self]
    exact z_lk_in hD' (k := k) (List.getElem?_set_self hl)
  · rw [va_up_ne _ _ hb]
    cases hf : z_lk ws b with
    | none =>
      apply z_lk_none
      intro j x hj
      by_cases hjk : j = k
      · subst hjk
        rw [List.getElem?_set_self hl] at hj
        cases hj
        exact hb rfl
      · rw [List.getElem?_set_ne (Ne.symm hjk)] at hj
        rw [z_lk_in hD hj] at hf
        cases hf
    | some x =>
      obtain ⟨j, hj⟩ := z_lk_of hf
      have hjk : j ≠ k := by
        intro q
        subst q
        rw [h] at hj
        cases hj
        exact hb rfl
      exact z_lk_in hD' (k := j) (by rw [List.getElem?_set_ne (Ne.symm hjk)]; exact hj)
theorem z_lk_push {A : Nat → Prop} {ws : va_W} {q : Nat} {e : va_E} (hD : va_D A (ws ++ [(q, e)])) : z_lk (ws ++ [(q, e)]) = va_up (z_lk ws) q (some e) ∧ z_lk ws q = none := by
  have hDs : va_D A ws := by
    refine ⟨fun i j x y hi hj hxy => hD.1 i j x y ?_ ?_ hxy, fun k x hk => hD.2 k x ?_⟩
    · rw [List.getElem?_append_left (List.getElem?_eq_some_iff.mp hi).1]; exact hi
    · rw [List.getElem?_append_left (List.getElem?_eq_some_iff.mp hj).1]; exact hj
    · rw [List.getElem?_append_left (List.getElem?_eq_some_iff.mp hk).1]; exact hk
  have hq : (ws ++ [(q, e)])[ws.length]? = some (q, e) := by rw [List.getElem?_append_right (Nat.le_refl _), Nat.sub_self]; rfl
  have hno : z_lk ws q = none := by
    apply z_lk_none
    intro k x hk
    have hkl := (List.getElem?_eq_some_iff.mp hk).1
    have := hD.1 k ws.length (q, x) (q, e) (by rw [List.getElem?_append_left hkl]; exact hk) hq rfl
    omega
  refine ⟨?_, hno⟩
  funext b
  by_cases hb : b = q
  · subst hb
    rw [va_up_self]
    exact z_lk_in hD hq
  · rw [va_up_ne _ _ hb]
    cases hf : z_lk ws b with
    | none =>
      apply z_lk_none
      intro j x hj
      by_cases hl : j < ws.length
      · rw [List.getElem?_append_left hl] at hj
        rw [z_lk_in hDs hj] at hf
        cases hf
      · rw [List.getElem?_append_right (by omega)] at hj
        have hz : j - ws.length < 1 := (List.getElem?_eq_some_iff.mp hj).1
        rw [show j - ws.length = 0 by omega] at hj
        cases hj
        exact hb rfl
    | some x =>
      obtain ⟨j, hj⟩ := z_lk_of hf
      exact z_lk_in hD (k := j) (by rw [List.getElem?_append_left (List.getElem?_eq_some_iff.mp hj).1]; exact hj)
/-- the heap holds the world w, all of it in A -/
def Zw (D : va_G) (cl : List vw_C) (A : Nat → Prop) (w : zw) (H : Heap) : Prop := ∃ ws : va_W, va_P D cl ws H ∧ va_D A ws ∧ z_lk ws = w
theorem Zw.at {D : va_G} {cl : List vw_C} {A : Nat → Prop} {w : zw} {H : Heap} (h : Zw D cl A w H) {a : Nat} {e : va_E} (ha : w a = some e) : va_at D cl (a, e) H ∧ A a := by
  obtain ⟨ws, hP, hD, rfl⟩ := h
  obtain ⟨k, hk⟩ := z_lk_of ha
  exact ⟨hP k _ hk, hD.2 k _ hk⟩
theorem Zw.recv {s : State} {D : va_G} {cl : List vw_C} {A : Nat → Prop} {w : zw} {H : Heap} {tys : List (ClassId × FieldType)} {a ci : Nat} {q : vw_C} {fs : List Value} (h : Zw D cl A w H) (hK : va_K D cl tys s) (hc : cl[ci]? = some q) (ha : w a = some (.inr (ci, fs))) : ∃ cell : Cell, H[a]? = some cell ∧ cell.vm.isStatics = false ∧ s.vm.findClass q.1 = some cell.cls := by
  obtain ⟨ws, hP, hD, rfl⟩ := h
  obtain ⟨k, hk⟩ := z_lk_of ha
  exact va_recv hK hP hc hk
theorem z_cA {s : State} {D : va_G} {cl : List vw_C} {tys : List (ClassId × FieldType)} {t0 : Nat} {cA cA' : ClassId} {ty : FieldType} (hK : va_K D cl tys s) (ht : tys[t0]? = some (cA, ty)) (hK' : va_K D cl (tys ++ [(cA', ty)]) s) : cA' = cA := by
  have h1 := (hK.2 t0 _ ht).2
  have h2 := (hK'.2 tys.length (cA', ty) (by rw [List.getElem?_append_right (Nat.le_refl _), Nat.sub_self]; rfl)).2
  cases ty with
  | object C =>
    obtain ⟨_, _, _, _, _, h1⟩ := h1
    obtain ⟨_, _, _, _, _, h2⟩ := h2
    exact Option.some.inj (h2.symm.trans h1)
  | _ => exact Option.some.inj (h2.symm.trans h1)
section ZR
variable {p : Program} {l : Launch} {e : Env} {R : Room} {s : State} {m : MethodId} {args : Array Value} {below : List Frame} {meth : Method} {c : Code} {H : Heap} {locs : List Loc} {cells slots : Nat} {Q : State → Prop}
variable {cc : ByteArray} {pc : Nat} {ls : Array Slot} {rest : List Value} {D : va_G} {cl : List vw_C} {A : Nat → Prop} {a : Nat} {tys : List (ClassId × FieldType)} {w : zw} {H0 : Heap}
theorem z_get (hexec : p.tables.exec = Jvm.exec) (hb : c.code = cc) {own ref C : String} {T : u_T} {N ci index : Nat} {Ts : List Cond} (hts : ∀ w ∈ Ts, w.before args s = true) (hin : ∀ w ∈ u_ws C T N, w ∈ Ts) (hown : s.vm.findClass own = some m.cls) (hK : va_K D cl tys s) (hZ : Zw D cl A w H) {fs : List Value} (he : w a = some (.inr (ci, fs))) (hc : cl[ci]? = some (C, T, N)) (k : Nat) (hk : k < N) (hlink : (Cond.fieldLink own index ref (T k).2.1 (T k).2.2.1).before args s = true) (hsame : ∀ x, s.fieldFound? (T k).1 (T k).2.1 (T k).2.2.1 = some x → s.fieldFound? ref (T k).2.1 (T k).2.2.1 = some x) {v : Value} (hv : fs[k]? = some v) (hdg : decode cc pc = .ok (.getfield index, 3))
    (kk : W p l e R s m args below meth c H locs cells slots Q (F0 m (pc + 3) ls (v :: rest))) : W p l e R s m args below meth c H locs cells slots Q (F0 m pc ls (.ref a :: rest)) := by
  obtain ⟨ws, hP, hD, rfl⟩ := hZ
  obtain ⟨q0, hq⟩ := z_lk_of he
  exact va_get hexec hb hts hin hown hK hP q0 hq hc k hk hlink hsame hv hdg kk
theorem z_put (hexec : p.tables.exec = Jvm.exec) (hb : c.code = cc) {own ref C : String} {T : u_T} {N ci index : Nat} {Ts : List Cond} (hts : ∀ w ∈ Ts, w.before args s = true) (hin : ∀ w ∈ u_ws C T N, w ∈ Ts) (ty0 : Nat → FieldType) (hty : ∀ k, k < N → parseFieldDescriptor (T k).2.2.1 = some (ty0 k)) (hnm : ∀ a, a < N → ∀ b, b < N → a ≠ b → (T a).2.1 ≠ (T b).2.1) (hown : s.vm.findClass own = some m.cls) (hK : va_K D cl tys s) (hZ : Zw D cl A w H) (hS0 : va_S A H0 H locs) {fs : List Value} (he : w a = some (.inr (ci, fs))) (hc : cl[ci]? = some (C, T, N)) (k : Nat) (hk : k < N) (hlink : (Cond.fieldLink own index ref (T k).2.1 (T k).2.2.1).before args s = true) (hsame : ∀ x, s.fieldFound? (T k).1 (T k).2.1 (T k).2.2.1 = some x → s.fieldFound? ref (T k).2.1 (T k).2.2.1 = some x) (hfin : (T k).2.2.2 = false) {ty : FieldType} {v : Value} (hd : parseFieldDescriptor (T k).2.2.1 = some ty) (hn : narrow ty v = v) (hfit : fits ty v = true) (hl : k < fs.length)
    (hdg : decode cc pc = .ok (.putfield index, 3)) (kk : ∀ (H1 : Heap) (locs1 : List Loc), Zw D cl A (va_up w a (some (.inr (ci, fs.set k v)))) H1 → va_S A H0 H1 locs1 → W p l e R s m args below meth c H1 locs1 cells slots Q (F0 m (pc + 3) ls rest)) : W p l e R s m args below meth c H locs cells slots Q (F0 m pc ls (v :: .ref a :: rest)) := by
  obtain ⟨ws, hP, hD, rfl⟩ := hZ
  obtain ⟨q0, hq⟩ := z_lk_of he
  exact va_put hexec hb hts hin ty0 hty hnm hown hK hP hD hS0 q0 hq hc k hk hlink hsame hfin hd hn hfit hl hdg (fun H1 locs1 hP1 hD1 hS1 => kk H1 locs1 ⟨_, hP1, hD1, z_lk_set hD hq⟩ hS1)
theorem z_putF (hexec : p.tables.exec = Jvm.exec) (hb : c.code = cc) {own ref C : String} {T : u_T} {N ci index : Nat} {Ts : List Cond} (hts : ∀ w ∈ Ts, w.before args s = true) (hin : ∀ w ∈ u_ws C T N, w ∈ Ts) (ty0 : Nat → FieldType) (hty : ∀ k, k < N → parseFieldDescriptor (T k).2.2.1 = some (ty0 k)) (hnm : ∀ a, a < N → ∀ b, b < N → a ≠ b → (T a).2.1 ≠ (T b).2.1) (hown : s.vm.findClass own = some m.cls) (hK : va_K D cl tys s) (hZ : Zw D cl A w H) (hS0 : va_S A H0 H locs) {fs : List Value} (he : w a = some (.inr (ci, fs))) (hc : cl[ci]? = some (C, T, N)) (k : Nat) (hk : k < N) (hlink : (Cond.fieldLink own index ref (T k).2.1 (T k).2.2.1).before args s = true) (hsame : ∀ x, s.fieldFound? (T k).1 (T k).2.1 (T k).2.2.1 = some x → s.fieldFound? ref (T k).2.1 (T k).2.2.1 = some x) (hfin : (T k).2.2.2 = true) (hin2 : meth.name = "<init>") (hdecl : (T k).1 = own) {ty : FieldType} {v : Value} (hd : parseFieldDescriptor (T k).2.2.1 = some ty) (hn : narrow ty v = v) (hfit : fits ty v = true) (hl : k < fs.length)
    (hdg : decode cc pc = .ok (.putfield index, 3)) (kk : ∀ (H1 : Heap) (locs1 : List Loc), Zw D cl A (va_up w a (some (.inr (ci, fs.set k v)))) H1 → va_S A H0 H1 locs1 → W p l e R s m args below meth c H1 locs1 cells slots Q (F0 m (pc + 3) ls rest)) : W p l e R s m args below meth c H locs cells slots Q (F0 m pc ls (v :: .ref a :: rest)) := by
  obtain ⟨ws, hP, hD, rfl⟩ := hZ
  obtain ⟨q0, hq⟩ := z_lk_of he
  exact va_putF hexec hb hts hin ty0 hty hnm hown hK hP hD hS0 q0 hq hc k hk hlink hsame hfin hin2 hdecl hd hn hfit hl hdg (fun H1 locs1 hP1 hD1 hS1 => kk H1 locs1 ⟨_, hP1, hD1, z_lk_set hD hq⟩ hS1)
theorem z_new {own C : String} {T : u_T} {N ci index : Nat} {Ts : List Cond} (hexec : p.tables.exec = Jvm.exec) (hb : c.code = cc) (hts : ∀ w ∈ Ts, w.before args s = true) (hin : ∀ w ∈ u_ws C T N, w ∈ Ts) (ty : Nat → FieldType) (hty : ∀ k, k < N → parseFieldDescriptor (T k).2.2.1 = some (ty k)) (hown : s.vm.findClass own = some m.cls) (hcl : (Cond.classLink own index C).before args s = true) (hinst : (Cond.instantiable C N).before args s = true) (hini : (Cond.initialized C).before args s = true)
    (hK : va_K D cl tys s) (hZ : Zw D cl A w H) (hS : va_S A H0 H locs) (hA : ∀ q, H0.size ≤ q → A q) (hc : cl[ci]? = some (C, T, N)) {fs : List Value} (hfs : ∀ j, j < N → defaultValue (ty j) = vp_V fs j) (hcells : cells + 1 ≤ R.cells) (hslots : slots + N ≤ R.slots) (hdg : decode cc pc = .ok (.new index, 3))
    (kk : ∀ (q : Nat) (H1 : Heap), w q = none → Zw D cl A (va_up w q (some (.inr (ci, fs)))) H1 → va_S A H0 H1 locs →
      W p l e R s m args below meth c H1 locs (cells + 1) (slots + N) Q (F0 m (pc + 3) ls (.ref q :: rest))) : W p l e R s m args below meth c H locs cells slots Q (F0 m pc ls rest) := by
  obtain ⟨ws, hP, hD, rfl⟩ := hZ
  exact va_new hexec hb hts hin ty hty hown hcl hinst hini hK hP hD hS hA hc hfs hcells hslots hdg (fun q H1 hP1 hD1 hS1 => kk q H1 (z_lk_push hD1).2 ⟨_, hP1, hD1, (z_lk_push hD1).1⟩ hS1)
theorem z_newa (hexec : p.tables.exec = Jvm.exec) (hb : c.code = cc) {atype : ArrayType} (harr : (Cond.arrayClass (newarray.typeOf atype)).before args s = true) {ty : FieldType} (hty : newarray.typeOf atype = ty) (hK : va_K D cl tys s) (hZ : Zw D cl A w H) (hS : va_S A H0 H locs) (hA : ∀ q, H0.size ≤ q → A q) (t0 : Nat) {cA : ClassId} (ht : tys[t0]? = some (cA, ty))
    {n : Int32} {N' : Nat} {a0 : vp_A} (ha : ∀ cA : ClassId, vp_cell cA a0 = arrV cA N' (fun _ => defaultValue ty)) (hn : ¬ n < 0) (hN : n.toNatClampNeg = N') (hbytes : N' * componentBytes ty ≤ 536870912) (hcells : cells + 1 ≤ R.cells) (hslots : slots + N' ≤ R.slots) (hdg : decode cc pc = .ok (.newarray atype, 2))
    (kk : ∀ (q : Nat) (H1 : Heap), w q = none → Zw D cl A (va_up w q (some (.inl (cA, a0)))) H1 → va_S A H0 H1 locs →
      W p l e R s m args below meth c H1 locs (cells + 1) (slots + N') Q (F0 m (pc + 2) ls (.ref q :: rest))) : W p l e R s m args below meth c H locs cells slots Q (F0 m pc ls (.int n :: rest)) := by
  obtain ⟨ws, hP, hD, rfl⟩ := hZ
  refine va_newa hexec hb harr hty hK hP hD hS hA ha hn hN hbytes hcells hslots hdg (fun q cA' H1 hK1 hP1 hD1 hS1 => ?_)
  cases z_cA hK ht hK1
  exact kk q H1 (z_lk_push hD1).2 ⟨_, hP1, hD1, (z_lk_push hD1).1⟩ hS1
theorem z_newq (hexec : p.tables.exec = Jvm.exec) (hb : c.code = cc) {own C : String} {index : Nat} (hown : s.vm.findClass own = some m.cls) (hclink : (Cond.classLink own index C).before args s = true) (hover : va_AO C s) (hK : va_K D cl tys s) (hZ : Zw D cl A w H) (hS : va_S A H0 H locs) (hA : ∀ q, H0.size ≤ q → A q) (t0 : Nat) {cA : ClassId} (ht : tys[t0]? = some (cA, .object C))
    {n : Int32} {N' : Nat} (hn : ¬ n < 0) (hN : n.toNatClampNeg = N') (hbytes : N' * 4 ≤ 536870912) (hcells : cells + 1 ≤ R.cells) (hslots : slots + N' ≤ R.slots) (hdg : decode cc pc = .ok (.anewarray index, 3))
    (kk : ∀ (q : Nat) (H1 : Heap), w q = none → Zw D cl A (va_up w q (some (.inl (cA, N', .inr (.inr (.inr (.inr (fun _ => none)))))))) H1 → va_S A H0 H1 locs →
      W p l e R s m args below meth c H1 locs (cells + 1) (slots + N') Q (F0 m (pc + 3) ls (.ref q :: rest))) : W p l e R s m args below meth c H locs cells slots Q (F0 m pc ls (.int n :: rest)) := by
  obtain ⟨ws, hP, hD, rfl⟩ := hZ
  refine va_newq hexec hb hown hclink hover hK hP hD hS hA hn hN hbytes hcells hslots hdg (fun q cA' H1 hK1 hP1 hD1 hS1 => ?_)
  cases z_cA hK ht hK1
  exact kk q H1 (z_lk_push hD1).2 ⟨_, hP1, hD1, (z_lk_push hD1).1⟩ hS1
theorem z_iald (hexec : p.tables.exec = Jvm.exec) (hb : c.code = cc) (hK : va_K D cl tys s) (hZ : Zw D cl A w H) (t0 : Nat) {cA : ClassId} {n : Nat} {f : Nat → Int32} (ha : w a = some (.inl (cA, n, .inl f))) (ht : tys[t0]? = some (cA, .int)) {i : Int32} (hin : vp_in i n) (hdg : decode cc pc = .ok (.iaload, 1))
    (kk : W p l e R s m args below meth c H locs cells slots Q (F0 m (pc + 1) ls (.int (f i.toNatClampNeg) :: rest))) : W p l e R s m args below meth c H locs cells slots Q (F0 m pc ls (.int i :: .ref a :: rest)) := by
  obtain ⟨ws, hP, hD, rfl⟩ := hZ
  obtain ⟨q0, hq⟩ := z_lk_of ha
  exact va_iald hexec hb hK hP q0 t0 hq ht hin hdg kk
theorem z_lald (hexec : p.tables.exec = Jvm.exec) (hb : c.code = cc) (hK : va_K D cl tys s) (hZ : Zw D cl A w H) (t0 : Nat) {cA : ClassId} {n : Nat} {f : Nat → Int64} (ha : w a = some (.inl (cA, n, .inr (.inl f)))) (ht : tys[t0]? = some (cA, .long)) {i : Int32} (hin : vp_in i n) (hdg : decode cc pc = .ok (.laload, 1))
    (kk : W p l e R s m args below meth c H locs cells slots Q (F0 m (pc + 1) ls (.long (f i.toNatClampNeg) :: rest))) : W p l e R s m args below meth c H locs cells slots Q (F0 m pc ls (.int i :: .ref a :: rest)) := by
  obtain ⟨ws, hP, hD, rfl⟩ := hZ
  obtain ⟨q0, hq⟩ := z_lk_of ha
  exact va_lald hexec hb hK hP q0 t0 hq ht hin hdg kk
theorem z_aald (hexec : p.tables.exec = Jvm.exec) (hb : c.code = cc) (hK : va_K D cl tys s) (hZ : Zw D cl A w H) (t0 : Nat) {cA : ClassId} {C : String} {n : Nat} {f : Nat → Option Nat} (ha : w a = some (.inl (cA, n, .inr (.inr (.inr (.inr f)))))) (ht : tys[t0]? = some (cA, .object C)) {i : Int32} (hin : vp_in i n) (hdg : decode cc pc = .ok (.aaload, 1))
    (kk : W p l e R s m args below meth c H locs cells slots Q (F0 m (pc + 1) ls (va_rf (f i.toNatClampNeg) :: rest))) : W p l e R s m args below meth c H locs cells slots Q (F0 m pc ls (.int i :: .ref a :: rest)) := by
  obtain ⟨ws, hP, hD, rfl⟩ := hZ
  obtain ⟨q0, hq⟩ := z_lk_of ha
  exact va_aldq hexec hb hK hP q0 t0 hq ht hin hdg kk
theorem z_iast (hexec : p.tables.exec = Jvm.exec) (hb : c.code = cc) (hK : va_K D cl tys s) (hZ : Zw D cl A w H) (hS : va_S A H0 H locs) (t0 : Nat) {cA : ClassId} {n : Nat} {f : Nat → Int32} (ha : w a = some (.inl (cA, n, .inl f))) (ht : tys[t0]? = some (cA, .int)) {i : Int32} {x : Int32} (hin : vp_in i n) (hdg : decode cc pc = .ok (.iastore, 1))
    (kk : ∀ (H1 : Heap) (locs1 : List Loc), Zw D cl A (va_up w a (some (.inl (cA, n, .inl (upd f i.toNatClampNeg x))))) H1 → va_S A H0 H1 locs1 → W p l e R s m args below meth c H1 locs1 cells slots Q (F0 m (pc + 1) ls rest)) : W p l e R s m args below meth c H locs cells slots Q (F0 m pc ls (.int x :: .int i :: .ref a :: rest)) := by
  obtain ⟨ws, hP, hD, rfl⟩ := hZ
  obtain ⟨q0, hq⟩ := z_lk_of ha
  exact va_iast hexec hb hK hP hD hS q0 t0 hq ht hin hdg (fun H1 locs1 hP1 hD1 hS1 => kk H1 locs1 ⟨_, hP1, hD1, z_lk_set hD hq⟩ hS1)
theorem z_last (hexec : p.tables.exec = Jvm.exec) (hb : c.code = cc) (hK : va_K D cl tys s) (hZ : Zw D cl A w H) (hS : va_S A H0 H locs) (t0 : Nat) {cA : ClassId} {n : Nat} {f : Nat → Int64} (ha : w a = some (.inl (cA, n, .inr (.inl f)))) (ht : tys[t0]? = some (cA, .long)) {i : Int32} {x : Int64} (hin : vp_in i n) (hdg : decode cc pc = .ok (.lastore, 1))
    (kk : ∀ (H1 : Heap) (locs1 : List Loc), Zw D cl A (va_up w a (some (.inl (cA, n, .inr (.inl (vp_updL f i.toNatClampNeg x)))))) H1 → va_S A H0 H1 locs1 → W p l e R s m args below meth c H1 locs1 cells slots Q (F0 m (pc + 1) ls rest)) : W p l e R s m args below meth c H locs cells slots Q (F0 m pc ls (.long x :: .int i :: .ref a :: rest)) := by
  obtain ⟨ws, hP, hD, rfl⟩ := hZ
  obtain ⟨q0, hq⟩ := z_lk_of ha
  exact va_last hexec hb hK hP hD hS q0 t0 hq ht hin hdg (fun H1 locs1 hP1 hD1 hS1 => kk H1 locs1 ⟨_, hP1, hD1, z_lk_set hD hq⟩ hS1)
theorem z_aast (hexec : p.tables.exec = Jvm.exec) (hb : c.code = cc) (hK : va_K D cl tys s) (hZ : Zw D cl A w H) (hS : va_S A H0 H locs) (t0 ci : Nat) {cA : ClassId} {r : vw_C} {n v : Nat} {vs : List Value} {f : Nat → Option Nat} (ha : w a = some (.inl (cA, n, .inr (.inr (.inr (.inr f)))))) (ht : tys[t0]? = some (cA, .object r.1)) (hv : w v = some (.inr (ci, vs))) (hc : cl[ci]? = some r) {i : Int32} (hin : vp_in i n) (hdg : decode cc pc = .ok (.aastore, 1))
    (kk : ∀ (H1 : Heap) (locs1 : List Loc), Zw D cl A (va_up w a (some (.inl (cA, n, .inr (.inr (.inr (.inr (va_up f i.toNatClampNeg (some v))))))))) H1 → va_S A H0 H1 locs1 → W p l e R s m args below meth c H1 locs1 cells slots Q (F0 m (pc + 1) ls rest)) : W p l e R s m args below meth c H locs cells slots Q (F0 m pc ls (.ref v :: .int i :: .ref a :: rest)) := by
  obtain ⟨ws, hP, hD, rfl⟩ := hZ
  obtain ⟨q0, hq⟩ := z_lk_of ha
  obtain ⟨qk, hqk⟩ := z_lk_of hv
  exact va_astq hexec hb hK hP hD hS q0 t0 qk ci hq ht hqk hc hin hdg (fun H1 locs1 hP1 hD1 hS1 => kk H1 locs1 ⟨_, hP1, hD1, z_lk_set hD hq⟩ hS1)
theorem z_aastO (hexec : p.tables.exec = Jvm.exec) (hb : c.code = cc) (hK : va_K D cl tys s) (hZ : Zw D cl A w H) (hS : va_S A H0 H locs) (t0 ci : Nat) {E : String} {cA : ClassId} {r : vw_C} {n v : Nat} {vs : List Value} {f : Nat → Option Nat} (ha : w a = some (.inl (cA, n, .inr (.inr (.inr (.inr f)))))) (ht : tys[t0]? = some (cA, .object E)) (hca : va_Nw (.castable r.1 E) s) (hv : w v = some (.inr (ci, vs))) (hc : cl[ci]? = some r) {i : Int32} (hin : vp_in i n) (hdg : decode cc pc = .ok (.aastore, 1))
    (kk : ∀ (H1 : Heap) (locs1 : List Loc), Zw D cl A (va_up w a (some (.inl (cA, n, .inr (.inr (.inr (.inr (va_up f i.toNatClampNeg (some v))))))))) H1 → va_S A H0 H1 locs1 → W p l e R s m args below meth c H1 locs1 cells slots Q (F0 m (pc + 1) ls rest)) : W p l e R s m args below meth c H locs cells slots Q (F0 m pc ls (.ref v :: .int i :: .ref a :: rest)) := by
  obtain ⟨ws, hP, hD, rfl⟩ := hZ
  obtain ⟨q0, hq⟩ := z_lk_of ha
  obtain ⟨qk, hqk⟩ := z_lk_of hv
  exact va_astqO hexec hb hK hP hD hS q0 t0 qk ci hq ht hca hqk hc hin hdg (fun H1 locs1 hP1 hD1 hS1 => kk H1 locs1 ⟨_, hP1, hD1, z_lk_set hD hq⟩ hS1)
theorem z_aastN (hexec : p.tables.exec = Jvm.exec) (hb : c.code = cc) (hK : va_K D cl tys s) (hZ : Zw D cl A w H) (hS : va_S A H0 H locs) (t0 : Nat) {cA : ClassId} {C : String} {n : Nat} {f : Nat → Option Nat} (ha : w a = some (.inl (cA, n, .inr (.inr (.inr (.inr f)))))) (ht : tys[t0]? = some (cA, .object C)) {i : Int32} (hin : vp_in i n) (hdg : decode cc pc = .ok (.aastore, 1))
    (kk : ∀ (H1 : Heap) (locs1 : List Loc), Zw D cl A (va_up w a (some (.inl (cA, n, .inr (.inr (.inr (.inr (va_up f i.toNatClampNeg none)))))))) H1 → va_S A H0 H1 locs1 → W p l e R s m args below meth c H1 locs1 cells slots Q (F0 m (pc + 1) ls rest)) : W p l e R s m args below meth c H locs cells slots Q (F0 m pc ls (.null :: .int i :: .ref a :: rest)) := by
  obtain ⟨ws, hP, hD, rfl⟩ := hZ
  obtain ⟨q0, hq⟩ := z_lk_of ha
  exact va_astqN hexec hb hK hP hD hS q0 t0 hq ht hin hdg (fun H1 locs1 hP1 hD1 hS1 => kk H1 locs1 ⟨_, hP1, hD1, z_lk_set hD hq⟩ hS1)
theorem z_alen (hexec : p.tables.exec = Jvm.exec) (hb : c.code = cc) (hK : va_K D cl tys s) (hZ : Zw D cl A w H) (t0 : Nat) {cA : ClassId} {x : vp_A} (ha : w a = some (.inl (cA, x))) {ty : FieldType} (ht : tys[t0]? = some (cA, ty)) {v : Int32} (hv : Int32.ofNat x.1 = v) (hdg : decode cc pc = .ok (.arraylength, 1))
    (kk : W p l e R s m args below meth c H locs cells slots Q (F0 m (pc + 1) ls (.int v :: rest))) : W p l e R s m args below meth c H locs cells slots Q (F0 m pc ls (.ref a :: rest)) := by
  obtain ⟨ws, hP, hD, rfl⟩ := hZ
  obtain ⟨q0, hq⟩ := z_lk_of ha
  exact va_alen hexec hb hK hP q0 t0 hq ht hv hdg kk
end ZR
/-- what a method may change: cells from n0 on -/
def zA (n0 : Nat) : Nat → Prop := fun q => n0 ≤ q
/-- a contract's start: the arguments av, the world w, the tables; X: what else the tables and old cells say -/
def zP (D : va_G) (cl : List vw_C) (tys : List (ClassId × FieldType)) (n0 : Nat) (X : State → Prop) (av : List Value) (w : zw) : Array Value → State → Prop := va_Pc av (fun U => n0 ≤ U.heap.size ∧ Zw D cl (zA n0) w U.heap ∧ va_K D cl tys U ∧ X U)
/-- its end: an answer and a world with post; no old cell below n0 has changed -/
def zQ (D : va_G) (cl : List vw_C) (n0 : Nat) (post : Option Value → zw → Prop) : Array Value → State → Outcome → State → Prop := fun _ st oc t => (∃ (v : Option Value) (w1 : zw), oc = .returned v ∧ post v w1 ∧ Zw D cl (zA n0) w1 t.heap) ∧ va_F (zA n0) st t
theorem zP_blind {D : va_G} {cl : List vw_C} {tys : List (ClassId × FieldType)} {n0 : Nat} {X : State → Prop} {av : List Value} {w : zw} (hX : ∀ (a : Array Value) (U : State) (g : JFrame) (mk : MethodId), X U → X (U.calling g mk a)) : FrameBlind (zP D cl tys n0 X av w) := by
  intro a U g mk h
  obtain ⟨h1, h2, h3, h4, h5⟩ := h
  exact ⟨h1, h2, h3, va_K.moved (u := U) (U := U.calling g mk a) (Vm.Alike.refl U.vm) h4, hX a U g mk h5⟩
section ZC
variable {p : Program} {l : Launch} {e : Env} {R : Room} {s : State} {m : MethodId} {args : Array Value} {below : List Frame} {meth : Method} {c : Code} {H : Heap} {locs : List Loc} {cells slots : Nat} {Q : State → Prop}
variable {cc : ByteArray} {pc : Nat} {ls : Array Slot} {rest st0 : List Value} {D : va_G} {cl : List vw_C} {tys : List (ClassId × FieldType)} {n0 : Nat} {w : zw} {H0 : Heap} {X : State → Prop} {post : Option Value → zw → Prop} {mc ms : Nat}
theorem z_preU {av : List Value} (hS : n0 ≤ H.size) (hZ : Zw D cl (zA n0) w H) (hK : va_K D cl tys s) (hX : ∀ U : State, U.heap = H → s.WarmedH U.vm → X U) : ∀ U : State, U.heap = H → s.WarmedH U.vm → zP D cl tys n0 X av w av.toArray U := by
  intro U hU hW
  exact ⟨rfl, by rw [hU]; exact hS, by rw [hU]; exact hZ, va_K.moved hW.alike hK, hX U hU hW⟩
/-- behind a call -/
theorem z_call {a : Array Value} (hr : va_Run p l e R s m args below meth c H locs cells slots mc ms (F0 m pc ls st0) rest (zQ D cl n0 post a) (zA n0)) (hS : va_S (zA n0) H0 H locs)
    (kk : ∀ (v : Option Value) (w1 : zw) (H1 : Heap) (locs1 : List Loc), post v w1 → Zw D cl (zA n0) w1 H1 → va_S (zA n0) H0 H1 locs1 → W p l e R s m args below meth c H1 locs1 (cells + mc) (slots + ms) Q (F0 m (pc + 3) ls (v.toList ++ rest))) : W p l e R s m args below meth c H locs cells slots Q (F0 m pc ls st0) := by
  intro T hT X
  obtain ⟨v, st₀, t, T', L, h0, X', hL, e1, e2, ⟨⟨v', w1, hv, hp, hb⟩, hz, hk⟩, st⟩ := hr T hT X
  cases hv
  rw [h0] at hz hk
  obtain ⟨t2, a1, b1⟩ := kk v w1 T'.heap (locs ++ L) hp (by rw [e1]; exact hb)
    ⟨Nat.le_trans hS.1 (by rw [e1]; exact hz), fun q h1 h2 => by rw [e1, hk q (Nat.lt_of_lt_of_le h1 hS.1) h2]; exact hS.2.1 q h1 h2, fun q hq => by
      rcases List.mem_append.mp hq with h | h
      · exact hS.2.2 q h
      · exact hL q h⟩ T' rfl X'
  exact ⟨t2, st t2 a1, b1⟩
theorem z_qc {v : Option Value} (hS : va_S (zA n0) s.heap H locs) (hZ : Zw D cl (zA n0) w H) (hp : post v w) : ∀ t : State, t.heap = H → s.WarmedH t.vm → zQ D cl n0 post args s (.returned v) t := by
  intro t ht _
  exact ⟨⟨v, w, rfl, hp, by rw [ht]; exact hZ⟩, hS.F ht⟩
theorem z_iret {v : Int32} (hexec : p.tables.exec = Jvm.exec) (hb : c.code = cc) (hr : meth.sig.returnType = some .int) (hlocks : meth.locks = false) (hS : va_S (zA n0) s.heap H locs) (hZ : Zw D cl (zA n0) w H) (hcs : cells ≤ mc ∧ slots ≤ ms) (hdg : decode cc pc = .ok (.ireturn, 1)) (hp : post (some (.int v)) w) : W p l e R s m args below meth c H locs cells slots (MQ below (zQ D cl n0 post) args s mc ms (zA n0)) (F0 m pc ls [.int v]) :=
  W.widen hcs.1 hcs.2 (W.iret hexec hb hr (z_qc hS hZ hp) hS.2.2 hdg hlocks)
theorem z_zret {v : Int32} {ty : FieldType} (hexec : p.tables.exec = Jvm.exec) (hb : c.code = cc) (hr : meth.sig.returnType = some ty) (hlocks : meth.locks = false) (hn : narrow ty (.int v) = .int v) (hS : va_S (zA n0) s.heap H locs) (hZ : Zw D cl (zA n0) w H) (hcs : cells ≤ mc ∧ slots ≤ ms) (hdg : decode cc pc = .ok (.ireturn, 1)) (hp : post (some (.int v)) w) : W p l e R s m args below meth c H locs cells slots (MQ below (zQ D cl n0 post) args s mc ms (zA n0)) (F0 m pc ls [.int v]) :=
  W.widen hcs.1 hcs.2 (W.zret hexec hb hr hn (z_qc hS hZ hp) hS.2.2 hdg hlocks)
theorem z_vret (hexec : p.tables.exec = Jvm.exec) (hb : c.code = cc) (hr : meth.sig.returnType = none) (hlocks : meth.locks = false) (hS : va_S (zA n0) s.heap H locs) (hZ : Zw D cl (zA n0) w H) (hcs : cells ≤ mc ∧ slots ≤ ms) (hdg : decode cc pc = .ok (.return_, 1)) (hp : post none w) : W p l e R s m args below meth c H locs cells slots (MQ below (zQ D cl n0 post) args s mc ms (zA n0)) (F0 m pc ls []) :=
  W.widen hcs.1 hcs.2 (W.vret hexec hb hr (z_qc hS hZ hp) hS.2.2 hdg hlocks)
theorem z_aret {v : Value} {rt : FieldType} (hexec : p.tables.exec = Jvm.exec) (hb : c.code = cc) (hr : meth.sig.returnType = some rt) (hlocks : meth.locks = false) (hrt : (∃ n, rt = .object n) ∨ ∃ t, rt = .array t) (hv : v = .null ∨ ∃ a, v = .ref a) (hS : va_S (zA n0) s.heap H locs) (hZ : Zw D cl (zA n0) w H) (hcs : cells ≤ mc ∧ slots ≤ ms) (hdg : decode cc pc = .ok (.areturn, 1)) (hp : post (some v) w) : W p l e R s m args below meth c H locs cells slots (MQ below (zQ D cl n0 post) args s mc ms (zA n0)) (F0 m pc ls [v]) :=
  W.widen hcs.1 hcs.2 (W.aret hexec hb hr hrt hv (z_qc hS hZ hp) hS.2.2 hdg hlocks)
end ZC
/-- a contract out of a walk -/
theorem z_met {l : Launch} {y : MethodName} {ws ws' : List Cond} {rm : Room} {cc : ByteArray} {maxL : Nat} {ret : Option FieldType} {D : va_G} {cl : List vw_C} {tys : List (ClassId × FieldType)} {n0 : Nat} {X : State → Prop} {av : List Value} {w : zw} {post : Option Value → zw → Prop} {mc ms : Nat}
    (hy : plainName y.cls = true) (hw : ws = Cond.code y cc maxL ret :: ws') (hlen : (lg_sl av).length ≤ maxL)
    (body : ∀ (p : Program) (e : Env) (s : State) (m : MethodId) (below : List Frame) (meth : Method) (c : Code) (ls : Array Slot), p.tables.exec = Jvm.exec → c.code = cc → meth.sig.returnType = ret → (∀ w ∈ ws, w.before av.toArray s = true) → s.vm.findClass y.cls = some m.cls → meth.locks = false → meth.name = y.name → c.maxLocals = maxL → (∀ q, s.heap.size ≤ q → zA n0 q) → Zw D cl (zA n0) w s.heap → va_K D cl tys s → X s → va_S (zA n0) s.heap s.heap [] → lv_has ls maxL (lv_args 0 av) →
      W p l e rm s m av.toArray below meth c s.heap [] 0 0 (MQ below (zQ D cl n0 post) av.toArray s mc ms (zA n0)) (F0 m 0 ls [])) :
    Met l y ws rm (zP D cl tys n0 X av w) (zQ D cl n0 post) mc ms (zA n0) := by
  refine Met.ofW (cc := cc) (maxL := maxL) (ret := ret) hy hw ?_
  intro p e s m args below meth c s₁ B hml hv
  obtain ⟨rfl, hn0, hZ, hK, hX⟩ := hv
  have hl := lv_entry av (n := maxL) hlen
  rw [lg_entry_eq]
  exact body p e s m below meth c _ B.exec B.bytes B.returns (atoms_spec (ws := ws) B.pre) (findClass_of_methodNamed B.named) B.notSynchronized (name_of_methodNamed B.named B.method).1 hml (fun q h => Nat.le_trans hn0 h) hZ hK hX va_S.rf hl
/-! calls -/
theorem z_cb {R : Room} {s : State} {args : Array Value} {own : String} {index : Nat} {y : MethodName} {cy : ByteArray} {ny : Nat} {ry : Option FieldType} {rm : Room} {mc ms : Nat} (n : Nat) (hTB : ∀ w ∈ TB, w.before args s = true) (hy : Cond.code y cy ny ry ∈ TB) (hini : Cond.initialized y.cls ∈ TB) (hl : Cond.methodLink own index y ∈ TB)
    (hd : y.cls ≠ "java/lang/invoke/MethodHandle" ∧ y.cls ≠ "java/lang/invoke/VarHandle" ∧ (parseMethodDescriptor y.desc).map (fun d => d.parameters.length) = some n) (hrm : rm.cells = mc ∧ rm.slots = ms) (hR : rm.frames + 1 ≤ R.frames ∧ 8 + (ny + 11) + rm.locals ≤ R.locals) :
    CallB R s args own index y cy ny ry (zws y cy ny ry) rm mc ms n := callB_of n hTB (zws_good hy) rfl hrm.1 hrm.2 (hTB _ hini) (hTB _ hl) hd hR
abbrev zG : Type := va_G × (Nat → ClassId)
/-- the tables' facts beside the good words, the one static that lists read, the class object of Object[] -/
def zX (G : zG) (n0 e0 : Nat) (U : State) : Prop := (∀ w ∈ NB, va_Nw w U) ∧ va_Z "java/util/ArrayList" "DEFAULTCAPACITY_EMPTY_ELEMENTDATA" "[Ljava/lang/Object;" (.ref e0) (zA n0) U U.heap ∧ va_T (.object "java/lang/Object") e0 0 (fun _ => .null) (zA n0) U U.heap ∧ va_Mi "[Ljava/lang/Object;" (G.2 6) U ∧ va_Dc U
theorem zX.blind {G : zG} {n0 e0 : Nat} (a : Array Value) (U : State) (g : JFrame) (mk : MethodId) (h : zX G n0 e0 U) : zX G n0 e0 (U.calling g mk a) := by
  obtain ⟨h1, h2, h3, h4, h5⟩ := h
  exact ⟨fun w hw => nb_warm (NB_lw w hw).2 (s := U) (U := U.calling g mk a) (State.WarmedH.refl U) (h1 w hw), va_Z.moved (u := U) (U := U.calling g mk a) (Vm.Alike.refl U.vm) h2, va_T.moved (u := U) (U := U.calling g mk a) (Vm.Alike.refl U.vm) h3, va_Mi.moved (u := U) (U := U.calling g mk a) (Vm.Alike.refl U.vm) h4, va_Dc.moved (u := U) (U := U.calling g mk a) (Vm.Alike.refl U.vm) h5⟩
theorem zX.warm {G : zG} {n0 e0 : Nat} {s U : State} {H : Heap} {locs : List Loc} (h : zX G n0 e0 s) (hS : va_S (zA n0) s.heap H locs) (hU : U.heap = H) (hW : s.WarmedH U.vm) : zX G n0 e0 U := by
  obtain ⟨h1, h2, h3, h4, h5⟩ := h
  refine ⟨fun w hw => nb_warm (NB_lw w hw).2 hW (h1 w hw), ?_, ?_, h4.moved hW.alike, h5.moved hW.alike⟩
  · rw [hU]; exact (h2.kept hS.2.1).moved hW.alike
  · rw [hU]; exact (h3.kept hS.2.1).moved hW.alike
def ztys (G : zG) : List (ClassId × FieldType) := [(G.2 0, .int), (G.2 1, .long), (G.2 2, .boolean), (G.2 3, .object "java/lang/Object"), (G.2 4, .object "BoxDesk$ItemList"), (G.2 5, .object "BoxDesk$Box")]
/-- where a walk stands: the machine, the code, the words, the tables -/
def Cx (G : zG) (n0 e0 : Nat) (p : Program) (s : State) (m : MethodId) (args : Array Value) (meth : Method) (c : Code) (cc : ByteArray) (nL : Nat) (own : String) (ret : Option FieldType) : Prop :=
  p.tables.exec = Jvm.exec ∧ c.code = cc ∧ c.maxLocals = nL ∧ s.vm.findClass own = some m.cls ∧ (∀ w ∈ TB, w.before args s = true) ∧ va_K G.1 vwC (ztys G) s ∧ n0 ≤ s.heap.size ∧ zX G n0 e0 s ∧ meth.locks = false ∧ meth.sig.returnType = ret
section CX
variable {G : zG} {n0 e0 : Nat} {p : Program} {s : State} {m : MethodId} {args : Array Value} {meth : Method} {c : Code} {cc : ByteArray} {nL : Nat} {own : String} {ret : Option FieldType}
theorem Cx.ml (h : Cx G n0 e0 p s m args meth c cc nL own ret) : c.maxLocals = nL := h.2.2.1
theorem Cx.ow (h : Cx G n0 e0 p s m args meth c cc nL own ret) : s.vm.findClass own = some m.cls := h.2.2.2.1
theorem Cx.tb (h : Cx G n0 e0 p s m args meth c cc nL own ret) : ∀ w ∈ TB, w.before args s = true := h.2.2.2.2.1
theorem Cx.K (h : Cx G n0 e0 p s m args meth c cc nL own ret) : va_K G.1 vwC (ztys G) s := h.2.2.2.2.2.1
theorem Cx.n (h : Cx G n0 e0 p s m args meth c cc nL own ret) : n0 ≤ s.heap.size := h.2.2.2.2.2.2.1
theorem Cx.hA (h : Cx G n0 e0 p s m args meth c cc nL own ret) : ∀ q, s.heap.size ≤ q → zA n0 q := fun _ hq => Nat.le_trans h.n hq
theorem Cx.X (h : Cx G n0 e0 p s m args meth c cc nL own ret) : zX G n0 e0 s := h.2.2.2.2.2.2.2.1
theorem Cx.lk (h : Cx G n0 e0 p s m args meth c cc nL own ret) : meth.locks = false := h.2.2.2.2.2.2.2.2.1
theorem Cx.rt (h : Cx G n0 e0 p s m args meth c cc nL own ret) : meth.sig.returnType = ret := h.2.2.2.2.2.2.2.2.2
theorem Cx.nw (h : Cx G n0 e0 p s m args meth c cc nL own ret) : ∀ w ∈ NB, va_Nw w s := h.X.1
end CX
/-- a contract: from the world w with the arguments av it returns with post -/
def Ct (l : Launch) (G : zG) (n0 e0 : Nat) (y : MethodName) (cy : ByteArray) (ny : Nat) (ry : Option FieldType) (rm : Room) (av : List Value) (w : zw) (post : Option Value → zw → Prop) : Prop :=
  Met l y (zws y cy ny ry) rm (zP G.1 vwC (ztys G) n0 (zX G n0 e0) av w) (zQ G.1 vwC n0 post) rm.cells rm.slots (zA n0)
theorem z_ct {l : Launch} {G : zG} {n0 e0 : Nat} {y : MethodName} {cy : ByteArray} {ny : Nat} {ry : Option FieldType} {rm : Room} {av : List Value} {w : zw} {post : Option Value → zw → Prop} (hy : plainName y.cls = true) (hlen : (lg_sl av).length ≤ ny)
    (body : ∀ (p : Program) (e : Env) (s : State) (m : MethodId) (below : List Frame) (meth : Method) (c : Code) (ls : Array Slot), Cx G n0 e0 p s m av.toArray meth c cy ny y.cls ry → meth.name = y.name → Zw G.1 vwC (zA n0) w s.heap → va_S (zA n0) s.heap s.heap [] → lv_has ls ny (lv_args 0 av) →
      W p l e rm s m av.toArray below meth c s.heap [] 0 0 (MQ below (zQ G.1 vwC n0 post) av.toArray s rm.cells rm.slots (zA n0)) (F0 m 0 ls [])) : Ct l G n0 e0 y cy ny ry rm av w post := by
  refine Met.ofW (cc := cy) (maxL := ny) (ret := ry) hy rfl ?_
  intro p e s m args below meth c s₁ B hml hv
  obtain ⟨rfl, hn0, hZ, hK, hX⟩ := hv
  have hl := lv_entry av (n := ny) hlen
  rw [lg_entry_eq]
  exact body p e s m below meth c _ ⟨B.exec, B.bytes, hml, findClass_of_methodNamed B.named, fun w h => atoms_spec (ws := zws y cy ny ry) B.pre w (List.mem_cons_of_mem _ h), hK, hn0, hX, B.notSynchronized, B.returns⟩ (name_of_methodNamed B.named B.method).1 hZ va_S.rf hl
section ZI
variable {p : Program} {l : Launch} {e : Env} {R : Room} {s : State} {m : MethodId} {args : Array Value} {below : List Frame} {meth : Method} {c : Code} {H : Heap} {locs : List Loc} {cells slots : Nat} {Q : State → Prop}
variable {cc : ByteArray} {pc nL : Nat} {ls : Array Slot} {rest st0 As : List Value} {G : zG} {n0 e0 : Nat} {w : zw} {own C : String} {ret : Option FieldType} {y : MethodName} {cy : ByteArray} {ny index n b : Nat} {ry : Option FieldType} {rm : Room} {post : Option Value → zw → Prop}
theorem z_ivV (cx : Cx G n0 e0 p s m args meth c cc nL own ret) (hy : Cond.code y cy ny ry ∈ TB) (hini : Cond.initialized y.cls ∈ TB) (hl : Cond.methodLink own index y ∈ TB) (him : Cond.instanceMethod y ∈ TB) (hse : Cond.selects C y y ∈ TB) (hd : y.cls ≠ "java/lang/invoke/MethodHandle" ∧ y.cls ≠ "java/lang/invoke/VarHandle" ∧ (parseMethodDescriptor y.desc).map (fun d => d.parameters.length) = some n)
    (hr : ∃ cell : Cell, H[b]? = some cell ∧ cell.vm.isStatics = false ∧ s.vm.findClass C = some cell.cls)
    (hM : Ct l G n0 e0 y cy ny ry rm (.ref b :: As) w post) (hR : rm.frames + 1 ≤ R.frames ∧ 8 + (ny + 11) + rm.locals ≤ R.locals) (hf : cells + rm.cells ≤ R.cells ∧ slots + rm.slots ≤ R.slots) (hn : As.length = n) (hsz : ls.size = nL) (hst : st0 = As.reverse ++ .ref b :: rest) (h8 : (rest.map fun v => v.category).sum ≤ 8) (hdg : decode cc pc = .ok (.invokevirtual index, 3)) (hZ : Zw G.1 vwC (zA n0) w H) (hS : va_S (zA n0) s.heap H locs)
    (kk : ∀ (v : Option Value) (w1 : zw) (H1 : Heap) (locs1 : List Loc), post v w1 → Zw G.1 vwC (zA n0) w1 H1 → va_S (zA n0) s.heap H1 locs1 → W p l e R s m args below meth c H1 locs1 (cells + rm.cells) (slots + rm.slots) Q (F0 m (pc + 3) ls (v.toList ++ rest))) : W p l e R s m args below meth c H locs cells slots Q (F0 m pc ls st0) :=
  z_call (va_runV (C := C) ⟨cx.1, cx.2.1, cx.ml, cx.ow, cx.tb⟩ hM ⟨z_cb n cx.tb hy hini hl hd ⟨rfl, rfl⟩ hR, cx.tb _ him, cx.tb _ hse⟩ ⟨zP_blind zX.blind, hr, z_preU (Nat.le_trans cx.n hS.1) hZ cx.K (fun U hU hW => cx.X.warm hS hU hW)⟩ rfl hn hsz hst (lv_room h8) hdg hf) hS kk
theorem z_ivS (cx : Cx G n0 e0 p s m args meth c cc nL own ret) (hy : Cond.code y cy ny ry ∈ TB) (hini : Cond.initialized y.cls ∈ TB) (hl : Cond.methodLink own index y ∈ TB) (hsta : Cond.static y ∈ TB) (hd : y.cls ≠ "java/lang/invoke/MethodHandle" ∧ y.cls ≠ "java/lang/invoke/VarHandle" ∧ (parseMethodDescriptor y.desc).map (fun d => d.parameters.length) = some n)
    (hM : Ct l G n0 e0 y cy ny ry rm As w post) (hR : rm.frames + 1 ≤ R.frames ∧ 8 + (ny + 11) + rm.locals ≤ R.locals) (hf : cells + rm.cells ≤ R.cells ∧ slots + rm.slots ≤ R.slots) (hn : As.length = n) (hsz : ls.size = nL) (hst : st0 = As.reverse ++ rest) (h8 : (rest.map fun v => v.category).sum ≤ 8) (hdg : decode cc pc = .ok (.invokestatic index, 3)) (hZ : Zw G.1 vwC (zA n0) w H) (hS : va_S (zA n0) s.heap H locs)
    (kk : ∀ (v : Option Value) (w1 : zw) (H1 : Heap) (locs1 : List Loc), post v w1 → Zw G.1 vwC (zA n0) w1 H1 → va_S (zA n0) s.heap H1 locs1 → W p l e R s m args below meth c H1 locs1 (cells + rm.cells) (slots + rm.slots) Q (F0 m (pc + 3) ls (v.toList ++ rest))) : W p l e R s m args below meth c H locs cells slots Q (F0 m pc ls st0) :=
  z_call (va_runS ⟨cx.1, cx.2.1, cx.ml, cx.ow, cx.tb⟩ hM ⟨z_cb n cx.tb hy hini hl hd ⟨rfl, rfl⟩ hR, cx.tb _ hsta⟩ ⟨zP_blind zX.blind, z_preU (Nat.le_trans cx.n hS.1) hZ cx.K (fun U hU hW => cx.X.warm hS hU hW)⟩ rfl hn hsz hst (lv_room h8) hdg hf) hS kk
theorem z_ivI (cx : Cx G n0 e0 p s m args meth c cc nL own ret) (hy : Cond.code y cy ny none ∈ TB) (hini : Cond.initialized y.cls ∈ TB) (hl : Cond.methodLink own index y ∈ TB) (him : Cond.instanceMethod y ∈ TB) (hnm : y.name = "<init>") (hd : y.cls ≠ "java/lang/invoke/MethodHandle" ∧ y.cls ≠ "java/lang/invoke/VarHandle" ∧ (parseMethodDescriptor y.desc).map (fun d => d.parameters.length) = some n)
    (hM : Ct l G n0 e0 y cy ny none rm (.ref b :: As) w post) (hR : rm.frames + 1 ≤ R.frames ∧ 8 + (ny + 11) + rm.locals ≤ R.locals) (hf : cells + rm.cells ≤ R.cells ∧ slots + rm.slots ≤ R.slots) (hn : As.length = n) (hsz : ls.size = nL) (hst : st0 = As.reverse ++ .ref b :: rest) (h8 : (rest.map fun v => v.category).sum ≤ 8) (hdg : decode cc pc = .ok (.invokespecial index, 3)) (hZ : Zw G.1 vwC (zA n0) w H) (hS : va_S (zA n0) s.heap H locs)
    (kk : ∀ (v : Option Value) (w1 : zw) (H1 : Heap) (locs1 : List Loc), post v w1 → Zw G.1 vwC (zA n0) w1 H1 → va_S (zA n0) s.heap H1 locs1 → W p l e R s m args below meth c H1 locs1 (cells + rm.cells) (slots + rm.slots) Q (F0 m (pc + 3) ls (v.toList ++ rest))) : W p l e R s m args below meth c H locs cells slots Q (F0 m pc ls st0) :=
  z_call (va_runI ⟨cx.1, cx.2.1, cx.ml, cx.ow, cx.tb⟩ hM ⟨z_cb n cx.tb hy hini hl hd ⟨rfl, rfl⟩ hR, hnm, cx.tb _ him⟩ ⟨zP_blind zX.blind, z_preU (Nat.le_trans cx.n hS.1) hZ cx.K (fun U hU hW => cx.X.warm hS hU hW)⟩ rfl hn hsz hst (lv_room h8) hdg hf) hS kk
theorem z_ivSN {host : String} (cx : Cx G n0 e0 p s m args meth c cc nL own ret) (hy : Cond.code y cy ny ry ∈ TB) (hini : Cond.initialized y.cls ∈ TB) (hl : Cond.methodLinkNest own index y host ∈ NB) (hsta : Cond.static y ∈ TB) (hd : y.cls ≠ "java/lang/invoke/MethodHandle" ∧ y.cls ≠ "java/lang/invoke/VarHandle" ∧ (parseMethodDescriptor y.desc).map (fun d => d.parameters.length) = some n)
    (hM : Ct l G n0 e0 y cy ny ry rm As w post) (hR : rm.frames + 1 ≤ R.frames ∧ 8 + (ny + 11) + rm.locals ≤ R.locals) (hf : cells + rm.cells ≤ R.cells ∧ slots + rm.slots ≤ R.slots) (hn : As.length = n) (hsz : ls.size = nL) (hst : st0 = As.reverse ++ rest) (h8 : (rest.map fun v => v.category).sum ≤ 8) (hdg : decode cc pc = .ok (.invokestatic index, 3)) (hZ : Zw G.1 vwC (zA n0) w H) (hS : va_S (zA n0) s.heap H locs)
    (kk : ∀ (v : Option Value) (w1 : zw) (H1 : Heap) (locs1 : List Loc), post v w1 → Zw G.1 vwC (zA n0) w1 H1 → va_S (zA n0) s.heap H1 locs1 → W p l e R s m args below meth c H1 locs1 (cells + rm.cells) (slots + rm.slots) Q (F0 m (pc + 3) ls (v.toList ++ rest))) : W p l e R s m args below meth c H locs cells slots Q (F0 m pc ls st0) :=
  z_call (va_runSN ⟨cx.1, cx.2.1, cx.ml, cx.ow, cx.tb⟩ hM ⟨va_cnB n cx.tb (zws_good hy) rfl rfl rfl (cx.nw _ hl) (cx.tb _ hini) hd hR, cx.tb _ hsta, trivial⟩ ⟨zP_blind zX.blind, z_preU (Nat.le_trans cx.n hS.1) hZ cx.K (fun U hU hW => cx.X.warm hS hU hW)⟩ rfl hn hsz hst (lv_room h8) hdg hf) hS kk
end ZI
