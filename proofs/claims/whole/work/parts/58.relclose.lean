theorem cgood_of {u : MT} {wt : Int64} {tot : Nat} (h : cgood u wt tot = true) : tot < 4000 ∧ szL wt = true ∧ (∀ o, o < 4 → szL (u.2.2.2.2.1 o) = true) ∧ szL u.1 = true ∧ szL u.2.1 = true ∧ szL u.2.2.1 = true ∧ szL u.2.2.2.1 = true ∧ szL u.2.2.2.2.2.1 = true := by
  simp only [cgood, canB, Bool.and_eq_true, decide_eq_true_eq] at h
  obtain ⟨⟨h0, ⟨⟨⟨⟨⟨⟨⟨⟨⟨a0, a1⟩, a2⟩, a3⟩, a4⟩, a5⟩, -⟩, a7⟩, a8⟩, a9⟩⟩, hw⟩ := h
  refine ⟨h0, hw, fun o ho => ?_, a4, a7, a8, a9, a5⟩
  have : o = 0 ∨ o = 1 ∨ o = 2 ∨ o = 3 := by omega
  rcases this with rfl | rfl | rfl | rfl <;> assumption
theorem bxF_sz {vt : Bool} {u : MT} {wt : Int32} (gg : szL u.2.1 = true) (gh : szL u.2.2.1 = true) (gd : szL u.2.2.2.1 = true) (zw : szI wt = true) : szI (bxF vt u wt 2) = true ∧ szI (bxF vt u wt 3) = true ∧ szI (bxF vt u wt 4) = true := by
  cases vt
  · exact ⟨zw, szI_rt gh, szI_rt gd⟩
  · exact ⟨szI_rt gg, zw, szI_rt gd⟩
theorem rel_close {t tot : Nat} {VL : Nat → LV} {RG : Nat → Option BX} {F : Nat → Nat → Int32} {M : Nat → Int64} {B Vv : Nat → Int32} {sz : Nat → Nat} {en : Nat} (h : RelA (t + 1, tot, VL, RG) F M B Vv sz en) {k : Nat} (hk : k < 16)
    {ps : Nat → Nat} (hps : ps (VL t).2.1 = en) (hS : Seg (VL t).1 F ps (VL t).2.1 (VL t).2.2) (hcont : ∀ (RG' : Nat → Option BX) (F' : Nat → Nat → Int32) (M' : Nat → Int64) (sz' : Nat → Nat) (tot' : Nat), (∀ c x, x < en → F' c x = F c x) → (∀ k, k < 16 → RS F' M' sz' k (RG' k)) → tot' = ps 0 + sumN sz' 16 → tot' ≤ 4000 → RelA (t, tot', VL, RG') F' M' B Vv sz' (ps 0))
    (T : Nat → Int64) {lim spec amount kk : Int32} {l5 : Nat → Int64} (hm : Mz (mTot (VL t) lim) l5) (hok : closeB spec amount lim kk = true) (hg : cgood (mTot (VL t) lim) (wantedL spec amount (mTot (VL t) lim).1) tot = true) {fw : Nat → Int32} (hfw : ∀ j, j < (VL t).2.1 → fw j = sgX (mTot (VL t) lim) (((wantedL spec amount (mTot (VL t) lim).1).toInt32).toInt64 - (mTot (VL t) lim).1) (VL t).2.2 j)
    {kd wd hgt dp : Int32} (hkd : kd = if (VL t).1 = true then 3 else 2) (b2 : wd = bxF (VL t).1 (mTot (VL t) lim) ((wantedL spec amount (mTot (VL t) lim).1).toInt32) 2) (b3 : hgt = bxF (VL t).1 (mTot (VL t) lim) ((wantedL spec amount (mTot (VL t) lim).1).toInt32) 3) (b4 : dp = bxF (VL t).1 (mTot (VL t) lim) ((wantedL spec amount (mTot (VL t) lim).1).toInt32) 4) :
    RelA (t, tot + 1 - sz k, VL, va_up RG k (some (bxF (VL t).1 (mTot (VL t) lim) ((wantedL spec amount (mTot (VL t) lim).1).toInt32), VL t, fw))) (clF F sz k (ps 0) (ps (VL t).2.1 - ps 0) kd wd hgt dp) (clM (shM F ps (shA (glT F ps T (VL t).2.1) (l5 4) (closeIs spec amount (l5 0) - l5 0)) (shE (l5 4) (closeIs spec amount (l5 0) - l5 0)) (decide (0 < (closeIs spec amount (l5 0) - l5 0))) (hiO (glT F ps T (VL t).2.1)) M (VL t).2.1) sz k (ps 0) (ps (VL t).2.1 - ps 0)) B Vv (szU sz k (ps (VL t).2.1 - ps 0 + 1)) (ps 0) := by
  obtain ⟨h1, h2, h3, -, h5⟩ := h
  dsimp only at h1 h2 h3 h5
  obtain ⟨g0, gw, gT, gn, gg, gh, gd, gs⟩ := cgood_of hg
  obtain ⟨s1, s2, s3, s4⟩ := seg_g T hS (VL t).2.1 (Nat.le_refl _)
  have hl := mTot_gl (VL t) lim
  obtain ⟨m1, m2, m3, m4, m5⟩ := hm
  have hle := hS.le (j := 0) (k := (VL t).2.1) (by omega) (Nat.le_refl _)
  have sk := sumN_lt (f := sz) hk
  have su := sumN_Us (sz := sz) (x := ps (VL t).2.1 - ps 0 + 1) hk
  refine hcont _ _ _ _ _ (fun c x hx => clF_lo (by omega)) (RS.close hk h5 (fun j hj => ?_) hS (by omega) hkd ?_ ?_ b2 b3 b4 ?_ (fun i hi e5 => ?_)) (by omega) (by omega)
  · refine shM_off (n := (VL t).2.1) (fun i hi => ?_) (Nat.le_refl _)
    have := hS.le (j := i) (k := (VL t).2.1) (by omega) (Nat.le_refl _)
    omega
  · show (mTot (VL t) lim).2.2.2.2.2.2.1 = _
    rw [hl]; exact s3
  · show (mTot (VL t) lim).2.2.2.2.2.2.2 + 1 = _
    rw [hl, s4]
  · exact bxF_sz gg gh gd (szI_rt gw)
  · rw [hfw i hi, sz_rt gw, ← is_eq hok, m1]
    refine seg_share hS (u := mTot (VL t) lim) (T := glT F ps T (VL t).2.1) (fun o ho => by rw [hl]; exact s1 o ho) m5 (fun o ho => ?_) (by rw [← m5]; exact gs) M hi e5
    have := gT o ho
    rw [hl, s1 o ho] at this
    exact this
