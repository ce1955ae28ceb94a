theorem findClass_inj {vm : Vm} {a b : String} {c : ClassId} (h1 : vm.findClass a = some c) (h2 : vm.findClass b = some c) : a = b := by
  obtain ⟨l1, p1, -⟩ := Array.findIdx?_eq_some_iff_getElem.mp h1
  obtain ⟨l2, p2, -⟩ := Array.findIdx?_eq_some_iff_getElem.mp h2
  simp only [Bool.and_eq_true, beq_iff_eq] at p1 p2
  have e1 := p1.1.1.1
  have e2 := p2.1.1.1
  rw [← e1, e2]
section CXG
variable {G : zG} {n0 e0 : Nat} {p : Program} {s : State} {m : MethodId} {args : Array Value} {meth : Method} {c : Code} {cc : ByteArray} {nL : Nat} {own : String} {ret : Option FieldType}
theorem Cx.nm (h : Cx G n0 e0 p s m args meth c cc nL own ret) : s.vm.findClass "[Ljava/lang/Object;" = some (G.2 3) ∧ s.vm.findClass "[LBoxDesk$ItemList;" = some (G.2 4) ∧ s.vm.findClass "[LBoxDesk$Box;" = some (G.2 5) :=
  ⟨va_nmO (h.K.2 3 (G.2 3, .object "java/lang/Object") rfl).2 (by decide), va_nmO (h.K.2 4 (G.2 4, .object "BoxDesk$ItemList") rfl).2 (by decide), va_nmO (h.K.2 5 (G.2 5, .object "BoxDesk$Box") rfl).2 (by decide)⟩
theorem Cx.g43 (h : Cx G n0 e0 p s m args meth c cc nL own ret) : ¬ G.2 4 = G.2 3 := fun q => absurd (findClass_inj (q ▸ h.nm.2.1) h.nm.1) (by decide)
theorem Cx.g53 (h : Cx G n0 e0 p s m args meth c cc nL own ret) : ¬ G.2 5 = G.2 3 := fun q => absurd (findClass_inj (q ▸ h.nm.2.2) h.nm.1) (by decide)
theorem Cx.g54 (h : Cx G n0 e0 p s m args meth c cc nL own ret) : ¬ G.2 5 = G.2 4 := fun q => absurd (findClass_inj (q ▸ h.nm.2.2) h.nm.2.1) (by decide)
theorem Cx.g34 (h : Cx G n0 e0 p s m args meth c cc nL own ret) : ¬ G.2 3 = G.2 4 := fun q => h.g43 q.symm
theorem Cx.g35 (h : Cx G n0 e0 p s m args meth c cc nL own ret) : ¬ G.2 3 = G.2 5 := fun q => h.g53 q.symm
theorem Cx.g45 (h : Cx G n0 e0 p s m args meth c cc nL own ret) : ¬ G.2 4 = G.2 5 := fun q => h.g54 q.symm
/-- the static empty array is no cell of the world -/
theorem Cx.ez (h : Cx G n0 e0 p s m args meth c cc nL own ret) {w : zw} {H : Heap} (hZ : Zw G.1 vwC (zA n0) w H) : w e0 = none := by
  cases hq : w e0 with
  | none => rfl
  | some x => exact absurd (hZ.at hq).2 h.X.2.2.1.out
end CXG
theorem LL.notin {G : zG} {e0 : Nat} {w : zw} {il al ar cap : Nat} {V : LV} (hL : LL G e0 w (il, al, ar, cap) V) (he : w e0 = none) {b : Nat} {x : va_E} (hb : w b = some x) (h1 : ∀ fs, x ≠ .inr (0, fs)) (h2 : ∀ k d, x ≠ .inl (G.2 3, k, d)) : b ∉ [al, ar] := by
  obtain ⟨-, -, md, fa, ha, hr, -⟩ := hL
  simp only [List.mem_cons, List.not_mem_nil, or_false, not_or]
  refine ⟨fun q => ?_, fun q => ?_⟩
  · subst q; rw [hb] at ha; exact h1 _ (Option.some.inj ha)
  · subst q
    rcases hr with ⟨hr, -, -⟩ | ⟨hr, -⟩
    · dsimp only at hr; rw [hr, he] at hb; cases hb
    · rw [hb] at hr; exact h2 _ _ (Option.some.inj hr)
