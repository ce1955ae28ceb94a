/-- a contract that may throw, with more room and weaker ends -/
theorem CtT.mono {l : Launch} {G : zG} {n0 e0 : Nat} {y : MethodName} {cy : ByteArray} {ny : Nat} {ry : Option FieldType} {r r2 : Room} {av : List Value} {w : zw} {post post2 : Option Value → zw → Prop} {postT postT2 : String → zw → Prop} (h : CtT l G n0 e0 y cy ny ry r av w post postT) (hf : r.frames ≤ r2.frames) (hc : r.cells ≤ r2.cells) (hs : r.slots ≤ r2.slots) (hl : r.locals ≤ r2.locals) (hp : ∀ v w1, post v w1 → post2 v w1) (hpT : ∀ v w1, postT v w1 → postT2 v w1) : CtT l G n0 e0 y cy ny ry r2 av w post2 postT2 := by
  intro p e ha hc2 hk s m args below hfr happ hP hK
  have hap := (Spec.appliesLoose_iff (S := headSpec (zws y cy ny ry) r2) (pl := e.platform) hfr).mp happ
  obtain ⟨a1, a2, a3, a4, a5, a6, a7, a8⟩ := hap
  obtain ⟨n, o, b1, b2, b3, ⟨q1, q4⟩, hW, L, c1, c2⟩ := h p e ha hc2 hk s m args below hfr ((Spec.appliesLoose_iff (S := headSpec (zws y cy ny ry) r) (pl := e.platform) hfr).mpr ⟨a1, a2, a3, a4, a5, a6, hasRoom_mono a7 hf hc hs hl, a8⟩) hP hK
  refine ⟨n, o, b1, b2, b3, ⟨?_, q4⟩, hW, L, c1.mono hc hs, c2⟩
  rcases q1 with ⟨v, w1, q1, q2, q3⟩ | ⟨x, X, ce, w1, q1, q2, q3⟩
  · exact Or.inl ⟨v, w1, q1, hp v w1 q2, q3⟩
  · exact Or.inr ⟨x, X, ce, w1, q1, hpT X w1 q2, q3⟩
/-! how deep rows nest: shifting, joining, a header -/
theorem cov_cong {K K' : Nat → Int32} {sp sp' : Nat → Nat} {a a' i : Nat} : ∀ {d : Nat}, (∀ j, j < d → K (a + j) = K' (a' + j)) → (∀ j, j < d → sp (a + j) = sp' (a' + j)) → cov K sp a (a + i) d = cov K' sp' a' (a' + i) d := by
  intro d
  induction d with
  | zero => intro _ _; rfl
  | succ d ih =>
    intro h1 h2
    unfold cov
    rw [ih (fun j hj => h1 j (by omega)) (fun j hj => h2 j (by omega)), h1 d (by omega), h2 d (by omega)]
    congr 1
    have e : (a + i < a + d + sp' (a' + d)) ↔ (a' + i < a' + d + sp' (a' + d)) := by omega
    simp only [e]
theorem mxN_cong {K K' : Nat → Int32} {sp sp' : Nat → Nat} {a a' : Nat} : ∀ {d : Nat}, (∀ j, j < d → K (a + j) = K' (a' + j)) → (∀ j, j < d → sp (a + j) = sp' (a' + j)) → mxN K sp a d = mxN K' sp' a' d := by
  intro d
  induction d with
  | zero => intro _ _; rfl
  | succ d ih =>
    intro h1 h2
    unfold mxN
    rw [ih (fun j hj => h1 j (by omega)) (fun j hj => h2 j (by omega)), cov_cong (i := d) h1 h2]
theorem cov_app {K : Nat → Int32} {sp : Nat → Nat} {a x d : Nat} : ∀ e : Nat, cov K sp a x (d + e) = cov K sp a x d + cov K sp (a + d) x e := by
  intro e
  induction e with
  | zero => rfl
  | succ e ih =>
    show cov K sp a x (d + e) + (if (K (a + (d + e)) = 2 ∨ K (a + (d + e)) = 3) ∧ x < a + (d + e) + sp (a + (d + e)) then 1 else 0) = cov K sp a x d + (cov K sp (a + d) x e + (if (K (a + d + e) = 2 ∨ K (a + d + e) = 3) ∧ x < a + d + e + sp (a + d + e) then 1 else 0))
    rw [ih, Nat.add_assoc a d e, Nat.add_assoc (cov K sp a x d)]
theorem cov_zero {K : Nat → Int32} {sp : Nat → Nat} {a x : Nat} : ∀ {d : Nat}, (∀ j, j < d → a + j + sp (a + j) ≤ x) → cov K sp a x d = 0 := by
  intro d
  induction d with
  | zero => intro _; rfl
  | succ d ih =>
    intro h
    unfold cov
    rw [ih (fun j hj => h j (by omega)), if_neg (fun q => absurd q.2 (by have := h d (by omega); omega))]
def mx2 (x y : Nat) : Nat := if x < y then y else x
theorem mx2_0 (x : Nat) : mx2 x 0 = x := if_neg (by omega)
theorem mxN_app {K : Nat → Int32} {sp : Nat → Nat} {a d : Nat} (h : ∀ j, j < d → a + j + sp (a + j) ≤ a + d) : ∀ e : Nat, mxN K sp a (d + e) = mx2 (mxN K sp a d) (mxN K sp (a + d) e) := by
  intro e
  induction e with
  | zero => exact (mx2_0 _).symm
  | succ e ih =>
    have hc : cov K sp a (a + (d + e)) (d + e + 1) = cov K sp (a + d) (a + d + e) (e + 1) := by
      rw [Nat.add_assoc d e 1, cov_app, cov_zero (fun j hj => by have := h j hj; omega), Nat.zero_add, Nat.add_assoc a d e]
    rw [← Nat.add_assoc]
    show (if mxN K sp a (d + e) < cov K sp a (a + (d + e)) (d + e + 1) then cov K sp a (a + (d + e)) (d + e + 1) else mxN K sp a (d + e)) = mx2 (mxN K sp a d) (if mxN K sp (a + d) e < cov K sp (a + d) (a + d + e) (e + 1) then cov K sp (a + d) (a + d + e) (e + 1) else mxN K sp (a + d) e)
    rw [hc, ih]
    generalize cov K sp (a + d) (a + d + e) (e + 1) = c
    unfold mx2
    repeat' split
    all_goals omega
theorem mxN_head {K : Nat → Int32} {sp : Nat → Nat} {p : Nat} (hK : K p = 2 ∨ K p = 3) : ∀ {d : Nat}, d < sp p → mxN K sp p (d + 1) = mxN K sp (p + 1) d + 1 := by
  have h0 : ∀ {x : Nat}, x < p + sp p → ∀ e, cov K sp p x (1 + e) = 1 + cov K sp (p + 1) x e := by
    intro x hx e
    rw [cov_app]
    congr 1
    show 0 + (if (K (p + 0) = 2 ∨ K (p + 0) = 3) ∧ x < p + 0 + sp (p + 0) then 1 else 0) = 1
    rw [if_pos ⟨hK, hx⟩]
  intro d
  induction d with
  | zero =>
    intro h
    show (if 0 < cov K sp p (p + 0) (0 + 1) then cov K sp p (p + 0) (0 + 1) else 0) = 0 + 1
    have := h0 (x := p + 0) (by omega) 0
    rw [show cov K sp p (p + 0) (0 + 1) = 1 from this]
    rfl
  | succ d ih =>
    intro h
    have ih := ih (by omega)
    show (if mxN K sp p (d + 1) < cov K sp p (p + (d + 1)) (d + 1 + 1) then cov K sp p (p + (d + 1)) (d + 1 + 1) else mxN K sp p (d + 1)) = (if mxN K sp (p + 1) d < cov K sp (p + 1) (p + 1 + d) (d + 1) then cov K sp (p + 1) (p + 1 + d) (d + 1) else mxN K sp (p + 1) d) + 1
    have := h0 (x := p + (d + 1)) (by omega) (d + 1)
    rw [show d + 1 + 1 = 1 + (d + 1) by omega, this, ih, show p + (d + 1) = p + 1 + d by omega]
    generalize cov K sp (p + 1) (p + 1 + d) (d + 1) = c
    repeat' split
    all_goals omega
theorem mxN_one {K : Nat → Int32} {sp : Nat → Nat} {p : Nat} (hK : ¬ (K p = 2 ∨ K p = 3)) : mxN K sp p 1 = 0 := by
  have h : cov K sp p (p + 0) (0 + 1) = 0 := by
    show 0 + (if (K (p + 0) = 2 ∨ K (p + 0) = 3) ∧ p + 0 < p + 0 + sp (p + 0) then 1 else 0) = 0
    rw [if_neg (fun q => hK q.1)]
  show (if 0 < cov K sp p (p + 0) (0 + 1) then cov K sp p (p + 0) (0 + 1) else 0) = 0
  rw [h]
  rfl
