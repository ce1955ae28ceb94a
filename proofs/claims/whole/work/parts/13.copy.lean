theorem asg_IO {s : State} (hz : va_Nw (.castable "BoxDesk$Item" "java/lang/Object") s) : ∀ comp c0 : ClassId, s.vm.findClass "java/lang/Object" = some comp → s.vm.findClass "BoxDesk$Item" = some c0 → s.vm.assignable c0 comp = true := by
  intro comp c0 h1 h2
  obtain ⟨c1, t1, f1, f2, f3⟩ := Cond.castable_spec (va_Nw.use (A := #[]) rfl hz)
  cases f1.symm.trans h2
  cases f2.symm.trans h1
  exact f3
section CPY
variable {p : Program} {l : Launch} {e : Env} {R : Room} {s : State} {m : MethodId} {args : Array Value} {below : List Frame} {meth : Method} {c : Code} {H : Heap} {locs : List Loc} {cells slots : Nat} {Q : State → Prop}
variable {cc : ByteArray} {pc nL : Nat} {ls : Array Slot} {rest : List Value} {G : zG} {n0 e0 : Nat} {w : zw} {ret : Option FieldType} {a a0 : Nat}
theorem cp_o (cx : Cx G n0 e0 p s m args meth c cc nL "java/util/Arrays" ret) (hsz : ls.size = nL) (hZ : Zw G.1 vwC (zA n0) w H) (hS : va_S (zA n0) s.heap H locs) {k0 k1 : Nat} {f g : Nat → Option Nat} (ha0 : w a0 = some (.inl (G.2 3, k0, .inr (.inr (.inr (.inr f)))))) (ha1 : w a = some (.inl (G.2 3, k1, .inr (.inr (.inr (.inr g)))))) {n : Int32} (h3 : ¬ n < 0) (h4 : n.toNatClampNeg ≤ k0) (h5 : n.toNatClampNeg ≤ k1) (hel : ∀ i : Nat, i < n.toNatClampNeg → ∀ y : Nat, f i = some y → ∃ fs, w y = some (.inr (1, fs)))
    (hf : 1 ≤ R.frames) (hlo : (rest.map fun v => v.category).sum + 18 ≤ R.locals) (hdg : decode cc pc = .ok (.invokestatic 150, 3))
    (kk : ∀ (w1 : zw) (H1 : Heap) (locs1 : List Loc), w1 = va_up w a (some (.inl (G.2 3, k1, .inr (.inr (.inr (.inr (va_cpy f g 0 0 n.toNatClampNeg))))))) → Zw G.1 vwC (zA n0) w1 H1 → va_S (zA n0) s.heap H1 locs1 → W p l e R s m args below meth c H1 locs1 cells slots Q (F0 m (pc + 3) ls rest)) : W p l e R s m args below meth c H locs cells slots Q (F0 m pc ls (.int n :: .int 0 :: .ref a :: .int 0 :: .ref a0 :: rest)) := by
  have hZ' := hZ
  obtain ⟨ws, hP, hD, rfl⟩ := hZ
  obtain ⟨q0, hq0⟩ := z_lk_of ha0
  obtain ⟨q1, hq1⟩ := z_lk_of ha1
  refine va_copyq (C := "BoxDesk$Item") cx.1 cx.2.1 (by rw [cx.ml, hsz]) cx.ow (cx.tb _ tw_223) (cx.tb _ tw_225) (cx.tb _ tw_224) (cx.tb _ tw_11) cx.K hP hD hS q0 q1 3 3 hq0 hq1 rfl rfl (by decide) (by decide) h3 (by rw [show (0 : Int32).toNatClampNeg = 0 from rfl]; omega) (by rw [show (0 : Int32).toNatClampNeg = 0 from rfl]; omega) ?_ (asg_IO (cx.nw _ nw_834)) hf (by rw [show nativeFrameWords "java/lang/System" "arraycopy" 5 = 7 from by decide]; omega) hdg (fun H1 locs1 hP1 hD1 hS1 => kk _ H1 locs1 rfl ⟨_, hP1, hD1, z_lk_set hD hq1⟩ hS1)
  intro i hi y hy
  rw [show (0 : Int32).toNatClampNeg = 0 from rfl, Nat.zero_add] at hy
  obtain ⟨fs, hfs⟩ := hel i hi y hy
  exact hZ'.recv (q := (R_I, T_I, 12)) cx.K rfl hfs
theorem gc_o (cx : Cx G n0 e0 p s m args meth c cc nL "java/util/Arrays" ret) (hsz : ls.size = nL) (hZ : Zw G.1 vwC (zA n0) w H) {x : vp_A} (ha : w a = some (.inl (G.2 3, x))) (hf : 1 ≤ R.frames) (hlo : (rest.map fun v => v.category).sum + 14 ≤ R.locals) (hdg : decode cc pc = .ok (.invokevirtual 86, 3))
    (kk : W p l e R s m args below meth c H locs cells slots Q (F0 m (pc + 3) ls (.ref (G.2 6) :: rest))) : W p l e R s m args below meth c H locs cells slots Q (F0 m pc ls (.ref a :: rest)) := by
  have hn := va_nmO (nm := "[Ljava/lang/Object;") (cx.K.2 3 (G.2 3, .object "java/lang/Object") rfl).2 (by decide)
  have hat := (hZ.at ha).1
  refine va_getC (C := "[Ljava/lang/Object;") cx.1 cx.2.1 (by rw [cx.ml, hsz]) cx.ow (cx.tb _ tw_199) (va_Dc.use cx.X.2.2.2.2) (cx.tb _ tw_829) (cx.tb _ tw_200) (cx.tb _ tw_213) cx.X.2.2.2.1 ⟨_, hat, ?_, ?_⟩ hf hlo hdg kk
  · obtain ⟨k, d⟩ := x
    rcases d with d | d | d | d | d <;> rfl
  · rw [hn]
    obtain ⟨k, d⟩ := x
    rcases d with d | d | d | d | d <;> rfl
theorem lm_o (cx : Cx G n0 e0 p s m args meth c cc nL "java/util/Arrays" ret) (hdg : decode cc pc = .ok (.ldc 110, 2)) (kk : W p l e R s m args below meth c H locs cells slots Q (F0 m (pc + 2) ls (.ref (G.2 6) :: rest))) : W p l e R s m args below meth c H locs cells slots Q (F0 m pc ls rest) := va_ldcM cx.1 cx.2.1 cx.ow (cx.tb _ tw_217) cx.X.2.2.2.1 hdg kk
end CPY
