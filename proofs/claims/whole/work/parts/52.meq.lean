/-! the class's sums are the reference's -/
theorem tell_1 (f : Nat → Int32) : tellI f 1 = if f 4 &&& 1 ≠ 0 then (-2147483648) else if f 0 = 7 then f 5 else f 1 := rfl
theorem tell_2 (f : Nat → Int32) : tellI f 2 = if f 4 &&& 2 ≠ 0 then (-2147483648) else f 2 := rfl
theorem tell_3 (f : Nat → Int32) : tellI f 3 = if f 4 &&& 4 ≠ 0 then (-2147483648) else f 3 := rfl
theorem sz_ne {x : Int32} (h : szI x = true) : ¬ x = (-2147483648) := fun q => by subst q; exact absurd h (by decide)
theorem run_f {x : Int32} (h : runOk false x = true) : x &&& 1 = 0 := by
  simp only [runOk, Bool.false_eq_true, if_false, Bool.or_eq_true, decide_eq_true_eq] at h
  rcases h with ((h | h) | h) | h <;> subst h <;> decide
theorem run_t {x : Int32} (h : runOk true x = true) : x &&& 2 = 0 ∧ x &&& 4 = 0 := by
  simp only [runOk, if_true, Bool.or_eq_true, decide_eq_true_eq] at h
  rcases h with h | h <;> subst h <;> decide
theorem mxL_0 {he : Int64} (h : 0 ≤ he) : mxL he 0 = he := by
  unfold mxL
  split
  · rfl
  · exact Int64.le_antisymm h (Int64.not_lt.mp (by assumption))
theorem mxL_up {he y : Int64} : mxL he y = if ¬ y ≤ he then y else he := by
  unfold mxL
  by_cases h : y < he
  · rw [if_pos h, if_neg (fun q => q (Int64.le_of_lt h))]
  · rw [if_neg h]
    by_cases e : y ≤ he
    · rw [if_neg (fun q => q e)]; exact Int64.le_antisymm e (Int64.not_lt.mp h)
    · rw [if_pos e]
theorem mxL_pos {he y : Int64} (h : 0 ≤ he) : 0 ≤ mxL he y := by
  unfold mxL
  split
  · exact h
  · exact Int64.le_trans h (Int64.not_lt.mp (by assumption))
theorem l0 : (0 : Int32).toInt64 = 0 := by decide
/-- one bound of a solid item -/
theorem upM_eq {K x y : Int32} {he Y Y2 : Int64} {b : Prop} [Decidable b] (h0 : 0 ≤ he) (hx : x = if b then (-2147483648) else y) (hy : szI y = true) (hY : ¬ b → Y2 = Y) (hk : 4 < K → ¬ b ∧ Y2 = 0) : (if b then he else mxL he Y2) = upM K x Y he := by
  unfold upM
  by_cases hb : b
  · rw [if_pos hb, if_neg (fun q => q.2.1 (by rw [hx, if_pos hb]))]
  · have hY := hY hb
    subst hY
    rw [if_neg hb]
    by_cases hK : 4 < K
    · rw [if_neg (fun q => q.1 hK), (hk hK).2, mxL_0 h0]
    · rw [mxL_up]
      have hx2 : ¬ x = (-2147483648) := by rw [hx, if_neg hb]; exact sz_ne hy
      by_cases e : Y2 ≤ he
      · rw [if_neg (fun q => q e), if_neg (fun q => q.2.2 e)]
      · rw [if_pos e, if_pos ⟨hK, hx2, e⟩]
theorem okI.k4 {vt : Bool} {f : Nat → Int32} (h : okI vt f) (h4 : 4 < f 0) : f 4 = 0 ∧ f 9 = 0 ∧ f 2 = 0 ∧ f 3 = 0 := by
  obtain ⟨-, -, -, hk, -, -, h9, h2, hr, -⟩ := h
  have a : ¬ f 0 = 4 := fun q => by rw [q] at h4; exact absurd h4 (by decide)
  have b : ¬ (f 0 = 2 ∨ f 0 = 3) := fun q => by rcases q with q | q <;> rw [q] at h4 <;> exact absurd h4 (by decide)
  exact ⟨hr a, h9 b, (h2 h4).1, (h2 h4).2⟩
theorem shS_eq {vt : Bool} {F : Nat → Nat → Int32} {p : Nat} {f : Nat → Int32} (h : okI vt f) (hr : rowI F p f) : shS F p = (f 9).toInt64 := by
  unfold shS
  rw [hr.1]
  by_cases hb : f 0 = 2 ∨ f 0 = 3
  · rw [if_pos hb, hr.2.2.2.2.1 hb]
  · rw [if_neg hb, h.2.2.2.2.2.2.1 hb, l0]
theorem wT_f {F : Nat → Nat → Int32} {p : Nat} {f : Nat → Int32} (h : okI false f) (hr : rowI F p f) : wTerm F p = (f 1).toInt64 := by
  unfold wTerm
  rw [hr.1]
  by_cases h7 : f 0 = 7
  · rw [if_pos h7, h.2.2.2.2.2.2.2.2.2 h7, l0]
  · rw [if_neg h7, hr.2.1, tell_1, run_f h.2.2.1, if_neg (fun q => q rfl), if_neg h7]
theorem acH_eq {vt : Bool} {F : Nat → Nat → Int32} {p : Nat} {f : Nat → Int32} {he : Int64} (h : okI vt f) (hr : rowI F p f) (h0 : 0 ≤ he) : acH f he = upM (F 0 p) (F 2 p) ((F 2 p).toInt64 - shS F p) he := by
  unfold acH
  refine upM_eq h0 (by rw [hr.2.2.1, tell_2]) h.1.2.1 (fun hb => ?_) (fun h4 => ?_)
  · rw [hr.2.2.1, tell_2, if_neg hb, shS_eq h hr]
  · rw [hr.1] at h4
    obtain ⟨a, b, c, -⟩ := h.k4 h4
    rw [a, b, c]
    decide
theorem acD_eq {vt : Bool} {F : Nat → Nat → Int32} {p : Nat} {f : Nat → Int32} {de : Int64} (h : okI vt f) (hr : rowI F p f) (h0 : 0 ≤ de) : acD f de = upM (F 0 p) (F 3 p) ((F 3 p).toInt64 + shS F p) de := by
  unfold acD
  refine upM_eq h0 (by rw [hr.2.2.2.1, tell_3]) h.1.2.2.1 (fun hb => ?_) (fun h4 => ?_)
  · rw [hr.2.2.2.1, tell_3, if_neg hb, shS_eq h hr]
  · rw [hr.1] at h4
    obtain ⟨a, b, -, c⟩ := h.k4 h4
    rw [a, b, c]
    decide
theorem acH_pos {f : Nat → Int32} {he : Int64} (h0 : 0 ≤ he) : 0 ≤ acH f he := by
  unfold acH
  split
  · exact h0
  · exact mxL_pos h0
theorem acD_pos {f : Nat → Int32} {he : Int64} (h0 : 0 ≤ he) : 0 ≤ acD f he := by
  unfold acD
  split
  · exact h0
  · exact mxL_pos h0
theorem seg_h {F : Nat → Nat → Int32} {ps : Nat → Nat} {n : Nat} {its : Nat → Nat → Int32} (h : Seg false F ps n its) : ∀ i, i ≤ n → (mAll false its i).1 = (mw F ps i).1 ∧ (mAll false its i).2.1 = 0 ∧ ((mAll false its i).2.2.1 = (mw F ps i).2.1 ∧ 0 ≤ (mAll false its i).2.2.1) ∧ (mAll false its i).2.2.2.1 = (mw F ps i).2.2 ∧ 0 ≤ (mAll false its i).2.2.2.1 := by
  intro i
  induction i with
  | zero => intro _; exact ⟨rfl, rfl, ⟨rfl, (by decide : (0 : Int64) ≤ 0)⟩, rfl, (by decide : (0 : Int64) ≤ 0)⟩
  | succ i ih =>
    intro hi
    obtain ⟨a1, a2, ⟨a3, a4⟩, a5, a6⟩ := ih (by omega)
    obtain ⟨ok, -, -, hr, -⟩ := h i (by omega)
    rw [mAll_f rfl]
    refine ⟨?_, a2, ⟨?_, acH_pos a4⟩, ?_, acD_pos a6⟩
    · show (mAll false its i).1 + (its i 1).toInt64 = (mw F ps i).1 + wTerm F (ps i)
      rw [a1, wT_f ok hr]
    · show acH (its i) (mAll false its i).2.2.1 = upM (F 0 (ps i)) (F 2 (ps i)) ((F 2 (ps i)).toInt64 - shS F (ps i)) (mw F ps i).2.1
      rw [← a3]
      exact acH_eq ok hr a4
    · show acD (its i) (mAll false its i).2.2.2.1 = upM (F 0 (ps i)) (F 3 (ps i)) ((F 3 (ps i)).toInt64 + shS F (ps i)) (mw F ps i).2.2
      rw [← a5]
      exact acD_eq ok hr a6
theorem br_of {vt : Bool} {f : Nat → Int32} (h : okI vt f) (hv : vt = true) : (f 0 = 2 ∨ f 0 = 3 ∨ f 0 = 4) ↔ ¬ 4 < f 0 := by
  obtain ⟨-, -, -, hk, h1, -⟩ := h
  have h1 : ¬ f 0 = 1 := fun q => by have := h1 q; rw [hv] at this; cases this
  rcases hk with q | q | q | q | q | q | q
  · exact absurd q h1
  all_goals rw [q]; decide
theorem dwG_eq {F : Nat → Nat → Int32} {p : Nat} {f : Nat → Int32} {gr : Int64} (h : okI true f) (hr : rowI F p f) (h0 : 0 ≤ gr) : dwG f gr = upM (F 0 p) (F 1 p) ((F 1 p).toInt64 + shS F p) gr := by
  unfold dwG
  by_cases h4 : 4 < f 0
  · rw [if_neg (fun q => (br_of h rfl).mp q h4)]
    unfold upM
    rw [if_neg (fun q => q.1 (by rw [hr.1]; exact h4))]
  · rw [if_pos ((br_of h rfl).mpr h4)]
    have h7 : ¬ f 0 = 7 := fun q => h4 (by rw [q]; decide)
    refine upM_eq h0 (y := f 1) (by rw [hr.2.1, tell_1, if_neg h7]) h.1.1 (fun hb => ?_) (fun q => absurd (by rw [hr.1] at q; exact q) h4)
    rw [hr.2.1, tell_1, if_neg hb, if_neg h7, shS_eq h hr]
theorem dwG_pos {f : Nat → Int32} {gr : Int64} (h0 : 0 ≤ gr) : 0 ≤ dwG f gr := by
  unfold dwG
  split
  · split
    · exact h0
    · exact mxL_pos h0
  · exact h0
theorem seg_v {F : Nat → Nat → Int32} {ps : Nat → Nat} {n : Nat} {its : Nat → Nat → Int32} (h : Seg true F ps n its) : ∀ i, i ≤ n → (mh F ps i).1 = (mAll true its i).1 + (mAll true its i).2.2.2.1 ∧ ((mAll true its i).2.1 = (mh F ps i).2 ∧ 0 ≤ (mAll true its i).2.1) ∧ (mAll true its i).2.2.1 = 0 ∧ (mAll true its i).2.2.2.1 = dpL F ps i := by
  intro i
  induction i with
  | zero => intro _; exact ⟨(by decide : (0 : Int64) = 0 + 0), ⟨rfl, (by decide : (0 : Int64) ≤ 0)⟩, rfl, rfl⟩
  | succ i ih =>
    intro hi
    obtain ⟨a1, ⟨a2, a3⟩, a4, a5⟩ := ih (by omega)
    obtain ⟨ok, -, -, hr, -⟩ := h i (by omega)
    have hd : dwD (its i) = dpL F ps (i + 1) := by
      show dwD (its i) = if 4 < F 0 (ps i) then 0 else (F 3 (ps i)).toInt64
      unfold dwD
      rw [hr.1]
      by_cases h4 : 4 < its i 0
      · rw [if_neg (fun q => (br_of ok rfl).mp q h4), if_pos h4]
      · rw [if_pos ((br_of ok rfl).mpr h4), if_neg h4, hr.2.2.2.1, tell_3, (run_t ok.2.2.1).2, if_neg (fun q => q rfl)]
    rw [mAll_t rfl]
    refine ⟨?_, ⟨?_, dwG_pos a3⟩, a4, hd⟩
    · show (mh F ps i).1 + hTerm F (ps i) = dwN (its i) (mAll true its i).1 (mAll true its i).2.2.2.1 + dwD (its i)
      unfold dwN dwD hTerm
      rw [a1, hr.1]
      by_cases h4 : 4 < its i 0
      · rw [if_pos h4, if_neg (fun q => (br_of ok rfl).mp q h4), if_neg (fun q => (br_of ok rfl).mp q h4), Int64.add_zero]
        congr 1
        unfold wTerm
        rw [hr.1]
        by_cases h7 : its i 0 = 7
        · rw [if_pos h7, ok.2.2.2.2.2.2.2.2.2 h7, l0]
        · rw [if_neg h7, hr.2.1, tell_1, (ok.k4 h4).1, if_neg (by decide), if_neg h7]
      · rw [if_neg h4, if_pos ((br_of ok rfl).mpr h4), if_pos ((br_of ok rfl).mpr h4), hr.2.2.1, hr.2.2.2.1, tell_2, tell_3, (run_t ok.2.2.1).1, (run_t ok.2.2.1).2, if_neg (fun q => q rfl), if_neg (fun q => q rfl)]
        rw [Int64.add_assoc, Int64.add_assoc, Int64.add_assoc]
    · show dwG (its i) (mAll true its i).2.1 = upM (F 0 (ps i)) (F 1 (ps i)) ((F 1 (ps i)).toInt64 + shS F (ps i)) (mh F ps i).2
      rw [← a2]
      exact dwG_eq ok hr a3
theorem z4_0 (T : Nat → Int64) {o : Nat} (h : o < 4) : z4 T o = 0 := by
  have : o = 0 ∨ o = 1 ∨ o = 2 ∨ o = 3 := by omega
  rcases this with rfl | rfl | rfl | rfl <;> rfl
theorem mAll_gl {vt : Bool} {its : Nat → Nat → Int32} {i : Nat} : (mAll vt its (i + 1)).2.2.2.2 = mGlue (its i) (mAll vt its i) := by
  cases vt
  · rw [mAll_f rfl]
  · rw [mAll_t rfl]
theorem nI_mx2 {a b : Nat} (ha : a < 2 ^ 31) (hb : b < 2 ^ 31) : (if nI a < nI b then nI b else nI a) = nI (mx2 a b) := by
  unfold mx2
  by_cases h : a < b
  · rw [if_pos ((nI_ltI ha hb).mpr h), if_pos h]
  · rw [if_neg (fun q => h ((nI_ltI ha hb).mp q)), if_neg h]
theorem seg_g {vt : Bool} {F : Nat → Nat → Int32} {ps : Nat → Nat} {n : Nat} {its : Nat → Nat → Int32} (T : Nat → Int64) (h : Seg vt F ps n its) : ∀ i, i ≤ n → (∀ o, o < 4 → (mAll vt its i).2.2.2.2.1 o = (gl F ps (z4 T) i).1 o) ∧ (mAll vt its i).2.2.2.2.2.1 = (gl F ps (z4 T) i).2 ∧ (mAll vt its i).2.2.2.2.2.2.1 = nI (ps i - ps 0) ∧ (mAll vt its i).2.2.2.2.2.2.2 = nI (mxN (F 0) (spF F) (ps 0) (ps i - ps 0)) := by
  intro i
  induction i with
  | zero => intro _; exact ⟨fun o ho => (z4_0 T ho).symm, rfl, by rw [Nat.sub_self]; rfl, by rw [Nat.sub_self]; rfl⟩
  | succ i ih =>
    intro hi
    obtain ⟨a1, a2, a3, a4⟩ := ih (by omega)
    obtain ⟨ok, hlt, hle, hr, h8, h10, hc, h11⟩ := h i (by omega)
    have b1 := h.le (j := 0) (k := i) (by omega) (by omega)
    rw [mAll_gl]
    refine ⟨?_, ?_, ?_, ?_⟩
    · intro o ho
      show vp_updL (mAll vt its i).2.2.2.2.1 (its i 7).toNatClampNeg ((mAll vt its i).2.2.2.2.1 (its i 7).toNatClampNeg + (its i 6).toInt64) o = (gl F ps (z4 T) (i + 1)).1 o
      by_cases h5 : its i 0 = 5
      · obtain ⟨r4, r5, r6⟩ := hr.2.2.2.2.2 h5
        rw [gl_t (by rw [hr.1]; exact h5), r4, r5]
        obtain ⟨j, hj, e⟩ := vp_in_of ok.2.1 (by omega)
        have hj2 : (its i 7).toNatClampNeg = j := by rw [e]; exact nI_clamp (by omega)
        rw [hj2]
        unfold vp_updL
        dsimp only
        by_cases e2 : o = j
        · rw [if_pos e2, if_pos e2, a1 j hj]
        · rw [if_neg e2, if_neg e2]; exact a1 o ho
      · obtain ⟨z6, z7, z8⟩ := ok.2.2.2.2.2.1 h5
        rw [gl_f (by rw [hr.1]; exact h5), z6, l0, Int64.add_zero, ← a1 o ho]
        unfold vp_updL
        split
        · rename_i q; rw [q]
        · rfl
    · show (mAll vt its i).2.2.2.2.2.1 + (its i 8).toInt64 = (gl F ps (z4 T) (i + 1)).2
      by_cases h5 : its i 0 = 5
      · obtain ⟨r4, r5, r6⟩ := hr.2.2.2.2.2 h5
        rw [gl_t (by rw [hr.1]; exact h5), r6, a2]
      · obtain ⟨z6, z7, z8⟩ := ok.2.2.2.2.2.1 h5
        rw [gl_f (by rw [hr.1]; exact h5), z8, l0, Int64.add_zero, a2]
    · show (mAll vt its i).2.2.2.2.2.2.1 + (1 + its i 10) = nI (ps (i + 1) - ps 0)
      rw [a3, h10, show (1 : Int32) = nI 1 from by decide, nI_add, nI_add]
      congr 1
      omega
    · show (if (mAll vt its i).2.2.2.2.2.2.2 < its i 11 then its i 11 else (mAll vt its i).2.2.2.2.2.2.2) = nI (mxN (F 0) (spF F) (ps 0) (ps (i + 1) - ps 0))
      have m1 := mxN_le (F 0) (spF F) (ps 0) (ps i - ps 0)
      have m2 := mxN_le (F 0) (spF F) (ps i) (ps (i + 1) - ps i)
      rw [a4, h11, h.mx (by omega : i < n), nI_mx2 (by omega) (by omega)]
