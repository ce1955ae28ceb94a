/-! both sides of a call -/
def RI (G : zG) (w : zw) (o : Nat) (A : Nat → Nat) (X : XS) : Prop := ∃ (S : Nat → Int32) (L : Nat → Int64) (F : Nat → Nat → Int32) (M : Nat → Int64) (B V Z : Nat → Int32) (T : Nat → Int64) (sz : Nat → Nat) (en : Nat), RA G w o A S L F M B V Z T ∧ RelA X F M B V sz en ∧ S 1 = nI X.1 ∧ S 2 = nI en ∧ ∀ k, k < 16 → Z k = nI (sz k)
/-- cells like the reference's stay -/
def KeepR (w w1 : zw) : Prop := ∀ b y, w b = some y → refE y → w1 b = some y
theorem KeepR.of {Q : List Nat} {w w1 : zw} (hF : Fr Q w w1) (hQ : ∀ t ∈ Q, w t = none ∨ ∃ y, w t = some y ∧ ¬ refE y) : KeepR w w1 := by
  intro b y hb hy
  refine hF.keep hb (fun q => ?_)
  rcases hQ b q with r | ⟨z, r1, r2⟩
  · rw [hb] at r; cases r
  · rw [hb] at r1; cases r1; exact r2 hy
theorem RI.cells {G : zG} {w : zw} {o : Nat} {A : Nat → Nat} {X : XS} (h : RI G w o A X) : ∀ t ∈ allR o A, ∃ y, w t = some y ∧ refE y := by
  obtain ⟨S, L, F, M, B, V, Z, T, sz, en, hr, h⟩ := h
  exact hr.cells
theorem RI.keepK {G : zG} {w w1 : zw} {o : Nat} {A : Nat → Nat} {X : XS} (h : RI G w o A X) (hK : KeepR w w1) : RI G w1 o A X := by
  have hc := h.cells
  have hk : ∀ t ∈ allR o A, ∀ y, w t = some y → w1 t = some y := by
    intro t ht y hy
    obtain ⟨z, h1, h2⟩ := hc t ht
    rw [hy] at h1; cases h1
    exact hK t y hy h2
  obtain ⟨S, L, F, M, B, V, Z, T, sz, en, ⟨h0, ⟨a0, a1, a2, a3, a4, a5, a6, a7, a8⟩, a9, a10, a11, a12⟩, h⟩ := h
  exact ⟨S, L, F, M, B, V, Z, T, sz, en, ⟨hk _ (by simp) _ h0, ⟨hk _ (by simp) _ a0, hk _ (by simp) _ a1, hk _ (by simp) _ a2, hk _ (by simp) _ a3, hk _ (by simp) _ a4, hk _ (by simp) _ a5, hk _ (by simp) _ a6, hk _ (by simp) _ a7, hk _ (by simp) _ a8⟩, hk _ (by simp) _ a9, hk _ (by simp) _ a10, hk _ (by simp) _ a11, hk _ (by simp) _ a12⟩, h⟩
def rmC : Room := { frames := 9, cells := 210, slots := 4200, locals := 260 }
def rmR : Room := { frames := 4, cells := 0, slots := 0, locals := 200 }
/-- the class's call and the reference's answer alike and leave like states -/
def Pair (l : Launch) (G : zG) (n0 e0 : Nat) (w : zw) (d la ra o : Nat) (A : Nat → Nat) (P : List Nat) (c : Nat) (X : XS) (yC : MethodName) (bC : ByteArray) (nC : Nat) (yR : MethodName) (bR : ByteArray) (nR : Nat) (ry : Option FieldType) (aC aR : List Value) : Prop :=
  ∃ (r : Int32) (X' : XS), Ct l G n0 e0 yC bC nC ry rmC (.ref d :: aC) w (fun v w1 => v = some (.int r) ∧ (w1 e0 = none → CI G e0 w1 d la ra P (c + 1) X') ∧ KeepR w w1) ∧ ∀ w1, RI G w1 o A X → Ct l G n0 e0 yR bR nR ry rmR (.ref o :: aR) w1 (fun v w2 => v = some (.int r) ∧ RI G w2 o A X' ∧ Fr (allR o A) w1 w2)
theorem sumN_upd (g : Nat → Nat) (t x : Nat) {n : Nat} (h : t < n) : sumN (szU g t x) n + g t = sumN g n + x := sumN_Us h
theorem sumN_ext {g g' : Nat → Nat} : ∀ {n : Nat}, (∀ i, i < n → g i = g' i) → sumN g n = sumN g' n := by
  intro n
  induction n with
  | zero => intro _; rfl
  | succ n ih =>
    intro h
    show sumN g n + g n = sumN g' n + g' n
    rw [ih (fun i hi => h i (by omega)), h n (by omega)]
theorem cnt_le {X : XS} {t : Nat} (h : t < X.1) : (X.2.2.1 t).2.1 ≤ cnt X := by
  have := sumN_lt (f := fun t => (X.2.2.1 t).2.1) h
  unfold cnt
  omega
theorem cnt_two {X : XS} {t k : Nat} (h : t < X.1) (hk : k < 16) : (X.2.2.1 t).2.1 + regN (X.2.2.2 k) ≤ cnt X := by
  have := sumN_lt (f := fun t => (X.2.2.1 t).2.1) h
  have h2 := sumN_lt (f := fun k => regN (X.2.2.2 k)) hk
  unfold cnt
  omega
theorem up_szU {VL : Nat → LV} {t : Nat} {V : LV} : (fun i => (va_up VL t V i).2.1) = szU (fun i => (VL i).2.1) t V.2.1 := by
  funext i
  unfold szU va_up
  split <;> rfl
theorem up_szR {RG : Nat → Option BX} {k : Nat} {x : Option BX} : (fun i => regN (va_up RG k x i)) = szU (fun i => regN (RG i)) k (regN x) := by
  funext i
  unfold szU va_up
  split <;> rfl
theorem cnt_list {on tot tot' t : Nat} {VL : Nat → LV} {RG : Nat → Option BX} {V : LV} (h : t < on) : cnt (on, tot', va_up VL t V, RG) + (VL t).2.1 = cnt (on, tot, VL, RG) + V.2.1 := by
  unfold cnt
  dsimp only
  rw [up_szU]
  have := sumN_upd (fun i => (VL i).2.1) t V.2.1 h
  omega
theorem cnt_reg {on tot tot' k : Nat} {VL : Nat → LV} {RG : Nat → Option BX} {x : Option BX} (h : k < 16) : cnt (on, tot', VL, va_up RG k x) + regN (RG k) = cnt (on, tot, VL, RG) + regN x := by
  unfold cnt
  dsimp only
  rw [up_szR]
  have := sumN_upd (fun i => regN (RG i)) k (regN x) h
  omega
theorem LL.cap {G : zG} {e0 : Nat} {w : zw} {A : LA} {V : LV} (h : LL G e0 w A V) : A.2.2.2 ≤ 10 + 2 * V.2.1 := h.2.1
theorem sum_room {Z : Nat → Int32} {sz : Nat → Nat} {en tot : Nat} {S2 : Int32} (hZ : ∀ k, k < 16 → Z k = nI (sz k)) (h2 : S2 = nI en) (ht : tot = en + sumN sz 16) (hle : tot ≤ 4000) : (!decide (4000 < S2 + sumI Z 16 + 1)) = decide (tot < 4000) := by
  rw [sumI_nI hZ, h2, nI_add, nI_1, show (4000 : Int32) = nI 4000 from by decide, ← ht, Bool.eq_iff_iff, Bool.not_eq_true', decide_eq_false_iff_not, decide_eq_true_eq, nI_ltI (by omega) (by omega)]
  omega
/-- rows, begins, orientations and sizes in one table -/
def F12 (F : Nat → Nat → Int32) (V Z : Nat → Int32) : Nat → Nat → Int32 := fun i => match i with
  | 10 => V
  | 11 => Z
  | i => F i
theorem no_o {G : zG} {w : zw} {o : Nat} {A : Nat → Nat} {S : Nat → Int32} {L : Nat → Int64} {F : Nat → Nat → Int32} {M : Nat → Int64} {B V Z : Nat → Int32} {T : Nat → Int64} (h : RA G w o A S L F M B V Z T) (hA : ∀ i j, i < 13 → j < 13 → i ≠ j → A i ≠ A j) {j : Nat} (h9 : 9 ≤ j) (hj : j < 13) : A j ∉ o :: rowsA A := by
  intro q
  rcases List.mem_cons.mp q with q | q
  · obtain ⟨h0, -, a9, a10, a11, a12⟩ := h
    have : j = 9 ∨ j = 10 ∨ j = 11 ∨ j = 12 := by omega
    rcases this with rfl | rfl | rfl | rfl
    · rw [q, h0] at a9; simp at a9
    · rw [q, h0] at a10; simp at a10
    · rw [q, h0] at a11; simp at a11
    · rw [q, h0] at a12; simp at a12
  · exact rows_no hA h9 hj q
theorem sub_all {o : Nat} {A : Nat → Nat} : ∀ t ∈ o :: rowsA A, t ∈ allR o A := by
  intro t ht
  rcases List.mem_cons.mp ht with q | q
  · simp [q]
  · exact rows_sub t q
theorem RA.ofAdd {G : zG} {w w1 : zw} {o : Nat} {A : Nat → Nat} {S S' : Nat → Int32} {L : Nat → Int64} {F F' : Nat → Nat → Int32} {M M' : Nat → Int64} {B V Z : Nat → Int32} {T : Nat → Int64} (h : RA G w o A S L F M B V Z T) (hA : ∀ i j, i < 13 → j < 13 → i ≠ j → A i ≠ A j) (hR : RW G w1 A F' M') (ho : w1 o = some (.inr (6, fR A S' L))) (hF : Fr (o :: rowsA A) w w1) : RA G w1 o A S' L F' M' B V Z T := by
  have n9 := no_o h hA (j := 9) (by omega) (by omega)
  have n10 := no_o h hA (j := 10) (by omega) (by omega)
  have n11 := no_o h hA (j := 11) (by omega) (by omega)
  have n12 := no_o h hA (j := 12) (by omega) (by omega)
  obtain ⟨h0, -, a9, a10, a11, a12⟩ := h
  exact ⟨ho, hR, hF.keep a9 n9, hF.keep a10 n10, hF.keep a11 n11, hF.keep a12 n12⟩
theorem RelA.top {t tot : Nat} {VL : Nat → LV} {RG : Nat → Option BX} {F : Nat → Nat → Int32} {M : Nat → Int64} {B Vv : Nat → Int32} {sz : Nat → Nat} {en : Nat} (h : RelA (t + 1, tot, VL, RG) F M B Vv sz en) : Vv t = zi (VL t).1 := by
  obtain ⟨-, -, -, ⟨bg, -, b2⟩, -⟩ := h
  exact (b2 t (by dsimp only; omega)).2.1
theorem CIw.ql {G : zG} {e0 : Nat} {w : zw} {d la ra : Nat} {P : List Nat} {t tot : Nat} {VL : Nat → LV} {RG : Nat → Option BX} {fl fr : Nat → Option Nat} {LAt : Nat → LA} {bs : Nat → Nat × Nat} (h : CIw G e0 w d la ra P (t + 1, tot, VL, RG) fl fr LAt bs) : ∀ q ∈ [d, ra, (LAt t).2.1, (LAt t).2.2.1], w q = none ∨ ∃ y, w q = some y ∧ ¬ refE y := by
  obtain ⟨⟨h1, h2, h3, h4⟩, gd, gla, gra, gl, gr, gdi, gbi⟩ := h
  have ht := (gl t (by dsimp only; omega)).2
  obtain ⟨md, hal⟩ := ht.al
  intro q hq
  simp only [List.mem_cons, List.not_mem_nil, or_false] at hq
  rcases hq with rfl | rfl | rfl | rfl
  · exact Or.inr ⟨_, gd, nref_inr (by decide)⟩
  · exact Or.inr ⟨_, gra, nref_inl⟩
  · exact Or.inr ⟨_, hal, nref_inr (by decide)⟩
  · rcases ht.ar h2 with r | ⟨cap, fa, r⟩
    · exact Or.inl r
    · exact Or.inr ⟨_, r, nref_inl⟩
theorem CI.mono {G : zG} {e0 : Nat} {w : zw} {d la ra : Nat} {P : List Nat} {c c' : Nat} {X : XS} (h : CI G e0 w d la ra P c X) (hc : c ≤ c') : CI G e0 w d la ra P c' X := ⟨Nat.le_trans h.1 hc, h.2⟩
