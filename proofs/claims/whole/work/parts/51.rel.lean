/-! items and their rows -/
def okI (vt : Bool) (f : Nat → Int32) : Prop := (szI (f 1) = true ∧ szI (f 2) = true ∧ szI (f 3) = true ∧ szI (f 9) = true) ∧ vp_in (f 7) 4 ∧ runOk vt (f 4) = true ∧ (f 0 = 1 ∨ f 0 = 2 ∨ f 0 = 3 ∨ f 0 = 4 ∨ f 0 = 5 ∨ f 0 = 6 ∨ f 0 = 7) ∧ (f 0 = 1 → vt = false) ∧ (¬ f 0 = 5 → f 6 = 0 ∧ f 7 = 0 ∧ f 8 = 0) ∧ (¬ (f 0 = 2 ∨ f 0 = 3) → f 9 = 0) ∧ (4 < f 0 → f 2 = 0 ∧ f 3 = 0) ∧ (¬ f 0 = 4 → f 4 = 0) ∧ (f 0 = 7 → f 1 = 0)
def spF (F : Nat → Nat → Int32) (j : Nat) : Nat := (F 8 j).toNatClampNeg
/-- rows from p to q close in themselves -/
def Cls (F : Nat → Nat → Int32) (p q : Nat) : Prop := ∀ j, p ≤ j → j < q → ∃ s, F 8 j = nI s ∧ 1 ≤ s ∧ j + s ≤ q
def rowI (F : Nat → Nat → Int32) (p : Nat) (f : Nat → Int32) : Prop := F 0 p = f 0 ∧ F 1 p = tellI f 1 ∧ F 2 p = tellI f 2 ∧ F 3 p = tellI f 3 ∧ ((f 0 = 2 ∨ f 0 = 3) → F 4 p = f 9) ∧ (f 0 = 5 → F 4 p = f 6 ∧ F 5 p = f 7 ∧ F 6 p = f 8)
def Blk (vt : Bool) (F : Nat → Nat → Int32) (p q : Nat) (f : Nat → Int32) : Prop := okI vt f ∧ p < q ∧ q ≤ 8200 ∧ rowI F p f ∧ F 8 p = nI (q - p) ∧ f 10 = nI (q - p - 1) ∧ Cls F p q ∧ f 11 = nI (mxN (F 0) (spF F) p (q - p))
def Seg (vt : Bool) (F : Nat → Nat → Int32) (ps : Nat → Nat) (n : Nat) (its : Nat → Nat → Int32) : Prop := ∀ i, i < n → Blk vt F (ps i) (ps (i + 1)) (its i)
def Same (F F' : Nat → Nat → Int32) (a b d : Nat) : Prop := ∀ c j, j < d → F' c (b + j) = F c (a + j)
theorem Same.sub {F F' : Nat → Nat → Int32} {a b d x e : Nat} (h : Same F F' a b d) (hx : x + e ≤ d) : Same F F' (a + x) (b + x) e := by
  intro c j hj
  rw [Nat.add_assoc, Nat.add_assoc]
  exact h c (x + j) (by omega)
theorem Same.mx {F F' : Nat → Nat → Int32} {a b d : Nat} (h : Same F F' a b d) : mxN (F' 0) (spF F') b d = mxN (F 0) (spF F) a d :=
  mxN_cong (fun j hj => h 0 j hj) (fun j hj => by unfold spF; rw [h 8 j hj])
theorem Same.cls {F F' : Nat → Nat → Int32} {a b d : Nat} (h : Same F F' a b d) (hc : Cls F a (a + d)) : Cls F' b (b + d) := by
  intro j h1 h2
  obtain ⟨s, q1, q2, q3⟩ := hc (a + (j - b)) (by omega) (by omega)
  refine ⟨s, ?_, q2, by omega⟩
  rw [← q1, ← h 8 (j - b) (by omega)]
  congr 1
  omega
theorem Blk.move {vt : Bool} {F F' : Nat → Nat → Int32} {a b d : Nat} {f : Nat → Int32} (h : Blk vt F a (a + d) f) (hs : Same F F' a b d) (hb : b + d ≤ 8200) : Blk vt F' b (b + d) f := by
  obtain ⟨h1, h2, h3, ⟨r0, r1, r2, r3, r4, r5⟩, h5, h6, h7, h8⟩ := h
  have hd : 0 < d := by omega
  have e : ∀ c, F' c b = F c a := fun c => hs c 0 hd
  rw [show a + d - a = d by omega] at h5 h6 h8
  refine ⟨h1, by omega, hb, ⟨by rw [e]; exact r0, by rw [e]; exact r1, by rw [e]; exact r2, by rw [e]; exact r3, fun q => by rw [e]; exact r4 q, fun q => by rw [e, e, e]; exact r5 q⟩, ?_, ?_, hs.cls h7, ?_⟩
  · rw [e, h5]; congr 1; omega
  · rw [h6]; congr 1; omega
  · rw [show b + d - b = d by omega, hs.mx]; exact h8
theorem Seg.le {vt : Bool} {F : Nat → Nat → Int32} {ps : Nat → Nat} {n : Nat} {its : Nat → Nat → Int32} (h : Seg vt F ps n its) {j k : Nat} (hjk : j ≤ k) (hk : k ≤ n) : ps j + (k - j) ≤ ps k := by
  induction k with
  | zero => have : j = 0 := by omega
            subst this; simp
  | succ k ih =>
    by_cases e : j = k + 1
    · subst e; simp
    · have := ih (by omega) (by omega)
      have h2 := (h k (by omega)).2.1
      omega
theorem Seg.sp {vt : Bool} {F : Nat → Nat → Int32} {ps : Nat → Nat} {n : Nat} {its : Nat → Nat → Int32} (h : Seg vt F ps n its) : SP (F 8) ps n := fun j hj => ⟨(h j hj).2.2.2.2.1, (h j hj).2.1⟩
theorem Seg.find {vt : Bool} {F : Nat → Nat → Int32} {ps : Nat → Nat} {n : Nat} {its : Nat → Nat → Int32} (_h : Seg vt F ps n its) {j : Nat} (h1 : ps 0 ≤ j) : ∀ {k : Nat}, k ≤ n → j < ps k → ∃ i, i < k ∧ ps i ≤ j ∧ j < ps (i + 1) := by
  intro k
  induction k with
  | zero => intro _ h2; omega
  | succ k ih =>
    intro hk h2
    by_cases e : ps k ≤ j
    · exact ⟨k, by omega, e, h2⟩
    · obtain ⟨i, q1, q2, q3⟩ := ih (by omega) (by omega)
      exact ⟨i, by omega, q2, q3⟩
theorem Seg.cls {vt : Bool} {F : Nat → Nat → Int32} {ps : Nat → Nat} {n : Nat} {its : Nat → Nat → Int32} (h : Seg vt F ps n its) {k : Nat} (hk : k ≤ n) : Cls F (ps 0) (ps k) := by
  intro j h1 h2
  obtain ⟨i, q1, q2, q3⟩ := h.find h1 hk h2
  obtain ⟨s, w1, w2, w3⟩ := (h i (by omega)).2.2.2.2.2.2.1 j q2 q3
  have := h.le (j := i + 1) (k := k) (by omega) hk
  exact ⟨s, w1, w2, by omega⟩
theorem Seg.move {vt : Bool} {F F' : Nat → Nat → Int32} {ps : Nat → Nat} {n : Nat} {its : Nat → Nat → Int32} (h : Seg vt F ps n its) {b : Nat} (hs : Same F F' (ps 0) b (ps n - ps 0)) (hb : b + (ps n - ps 0) ≤ 8200) : Seg vt F' (fun i => b + (ps i - ps 0)) n its := by
  intro i hi
  have a1 := h.le (j := 0) (k := i) (by omega) (by omega)
  have a2 := h.le (j := i + 1) (k := n) (by omega) (by omega)
  have a3 := (h i hi).2.1
  have hB := h i hi
  rw [show ps (i + 1) = ps i + (ps (i + 1) - ps i) by omega] at hB
  have hs2 := hs.sub (x := ps i - ps 0) (e := ps (i + 1) - ps i) (by omega)
  rw [show ps 0 + (ps i - ps 0) = ps i by omega] at hs2
  have := hB.move hs2 (by omega)
  dsimp only
  rw [show b + (ps (i + 1) - ps 0) = b + (ps i - ps 0) + (ps (i + 1) - ps i) by omega]
  exact this
theorem Seg.keep {vt : Bool} {F F' : Nat → Nat → Int32} {ps : Nat → Nat} {n : Nat} {its : Nat → Nat → Int32} (h : Seg vt F ps n its) (hs : ∀ c j, ps 0 ≤ j → j < ps n → F' c j = F c j) : Seg vt F' ps n its := by
  intro i hi
  have a1 := h.le (j := 0) (k := i) (by omega) (by omega)
  have a2 := h.le (j := i + 1) (k := n) (by omega) (by omega)
  have hB := h i hi
  have a3 := hB.2.1
  have a4 := hB.2.2.1
  rw [show ps (i + 1) = ps i + (ps (i + 1) - ps i) by omega] at hB ⊢
  exact hB.move (fun c j hj => hs c _ (by omega) (by omega)) (by omega)
theorem Seg.mx {vt : Bool} {F : Nat → Nat → Int32} {ps : Nat → Nat} {n : Nat} {its : Nat → Nat → Int32} (h : Seg vt F ps n its) {i : Nat} (hi : i < n) : mxN (F 0) (spF F) (ps 0) (ps (i + 1) - ps 0) = mx2 (mxN (F 0) (spF F) (ps 0) (ps i - ps 0)) (mxN (F 0) (spF F) (ps i) (ps (i + 1) - ps i)) := by
  have a1 := h.le (j := 0) (k := i) (by omega) (by omega)
  have a3 := (h i hi).2.1
  rw [show ps (i + 1) - ps 0 = (ps i - ps 0) + (ps (i + 1) - ps i) by omega, mxN_app]
  · rw [show ps 0 + (ps i - ps 0) = ps i by omega]
  · intro j hj
    obtain ⟨s, q1, q2, q3⟩ := h.cls (k := i) (by omega) (ps 0 + j) (by omega) (by omega)
    have hb := (h i hi).2.2.1
    have : spF F (ps 0 + j) = s := by unfold spF; rw [q1]; exact nI_clamp (by omega)
    omega
/-- a Seg and one block more -/
theorem Seg.push {vt : Bool} {F : Nat → Nat → Int32} {ps : Nat → Nat} {n : Nat} {its : Nat → Nat → Int32} (h : Seg vt F ps n its) {q : Nat} {f : Nat → Int32} (hB : Blk vt F (ps n) q f) : Seg vt F (fun i => if i ≤ n then ps i else q) (n + 1) (fun i => if i = n then f else its i) := by
  intro i hi
  by_cases e : i = n
  · subst e
    dsimp only
    rw [if_pos (Nat.le_refl _), if_neg (by omega), if_pos rfl]
    exact hB
  · dsimp only
    rw [if_pos (by omega), if_pos (by omega), if_neg e]
    exact h i (by omega)
theorem Seg.app {vt : Bool} {F : Nat → Nat → Int32} {ps ps2 : Nat → Nat} {n n2 : Nat} {its its2 : Nat → Nat → Int32} (h : Seg vt F ps n its) (h2 : Seg vt F ps2 n2 its2) (he : ps2 0 = ps n) : Seg vt F (fun i => if i ≤ n then ps i else ps2 (i - n)) (n + n2) (fun i => if i < n then its i else its2 (i - n)) := by
  intro i hi
  dsimp only
  by_cases e : i < n
  · rw [if_pos (by omega), if_pos (by omega), if_pos e]
    exact h i e
  · rw [if_neg (by omega : ¬ i + 1 ≤ n), if_neg e]
    have := h2 (i - n) (by omega)
    rw [show i - n + 1 = i + 1 - n by omega] at this
    by_cases e2 : i = n
    · subst e2
      rw [if_pos (Nat.le_refl _), ← he, show (0 : Nat) = i - i by omega]
      exact this
    · rw [if_neg (by omega)]
      exact this
/-- a register: the box's fields, its list, its set widths, in the rows from p on -/
def Reg (F : Nat → Nat → Int32) (M : Nat → Int64) (p s : Nat) (f : Nat → Int32) (V : LV) (fw : Nat → Int32) : Prop := 1 ≤ s ∧ p + s ≤ 8200 ∧ f 0 = nI (s - 1) ∧ F 0 p = (if V.1 = true then 3 else 2) ∧ F 1 p = f 2 ∧ F 2 p = f 3 ∧ F 3 p = f 4 ∧ F 8 p = nI s ∧ (szI (f 2) = true ∧ szI (f 3) = true ∧ szI (f 4) = true) ∧ f 1 = nI (mxN (F 0) (spF F) p s) ∧ ∃ ps, ps 0 = p + 1 ∧ ps V.2.1 = p + s ∧ Seg V.1 F ps V.2.1 V.2.2 ∧ ∀ i, i < V.2.1 → V.2.2 i 0 = 5 → clampR ((F 1 (ps i)).toInt64 + M (ps i)) = fw i
theorem Reg.move {F F' : Nat → Nat → Int32} {M M' : Nat → Int64} {p p' s : Nat} {f : Nat → Int32} {V : LV} {fw : Nat → Int32} (h : Reg F M p s f V fw) (hs : Same F F' p p' s) (hm : ∀ j, j < s → M' (p' + j) = M (p + j)) (hb : p' + s ≤ 8200) : Reg F' M' p' s f V fw := by
  obtain ⟨h1, h2, h3, h4, h5, h6, h7, h8, h9, h10, ps, q1, q2, q3, q4⟩ := h
  have e : ∀ c, F' c p' = F c p := fun c => hs c 0 (by omega)
  refine ⟨h1, hb, h3, by rw [e]; exact h4, by rw [e]; exact h5, by rw [e]; exact h6, by rw [e]; exact h7, by rw [e]; exact h8, h9, by rw [hs.mx]; exact h10, fun i => p' + 1 + (ps i - ps 0), by dsimp only; omega, by dsimp only; omega, ?_, ?_⟩
  · refine q3.move (b := p' + 1) ?_ (by omega)
    have := hs.sub (x := 1) (e := s - 1) (by omega)
    rw [q1, q2, show p + s - (p + 1) = s - 1 by omega]
    exact this
  · intro i hi h5
    have a1 := q3.le (j := 0) (k := i) (by omega) (by omega)
    have a2 := q3.le (j := i) (k := V.2.1) (by omega) (by omega)
    have e1 : p' + 1 + (ps i - ps 0) = p' + (ps i - p) := by omega
    have e2 : p + (ps i - p) = ps i := by omega
    dsimp only
    rw [e1, hs 1 (ps i - p) (by omega), hm (ps i - p) (by omega), e2]
    exact q4 i hi h5
theorem Reg.keep {F F' : Nat → Nat → Int32} {M M' : Nat → Int64} {p s : Nat} {f : Nat → Int32} {V : LV} {fw : Nat → Int32} (h : Reg F M p s f V fw) (hs : ∀ c j, p ≤ j → j < p + s → F' c j = F c j) (hm : ∀ j, p ≤ j → j < p + s → M' j = M j) : Reg F' M' p s f V fw :=
  h.move (fun c j hj => hs c _ (by omega) (by omega)) (fun j hj => hm _ (by omega) (by omega)) h.2.1
