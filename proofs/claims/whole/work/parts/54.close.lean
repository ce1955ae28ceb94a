/-! close: the same numbers on both sides -/
def Mz (u : MT) (l5 : Nat → Int64) : Prop := u.1 = l5 0 ∧ u.2.1 = l5 3 ∧ u.2.2.1 = l5 1 ∧ u.2.2.2.1 = l5 2 ∧ u.2.2.2.2.2.1 = l5 4
theorem mTot_gl (V : LV) (lim : Int32) : (mTot V lim).2.2.2.2 = (mAll V.1 V.2.2 V.2.1).2.2.2.2 := by
  unfold mTot mLim
  split <;> rfl
theorem mz_h {V : LV} (lim : Int32) {F : Nat → Nat → Int32} {ps : Nat → Nat} (T : Nat → Int64) (hv : V.1 = false) (h : Seg V.1 F ps V.2.1 V.2.2) : Mz (mTot V lim) (mzW F ps T V.2.1) := by
  have g := (seg_g T h V.2.1 (Nat.le_refl _)).2.1
  have hm : mTot V lim = mAll V.1 V.2.2 V.2.1 := by
    unfold mTot mLim
    rw [if_neg (by rw [hv]; decide)]
  rw [hm]
  rw [hv] at h g ⊢
  obtain ⟨a1, a2, ⟨a3, -⟩, a5, -⟩ := seg_h h V.2.1 (Nat.le_refl _)
  exact ⟨a1, a2, a3, a5, g⟩
theorem mz_v {V : LV} (lim : Int32) {F : Nat → Nat → Int32} {ps : Nat → Nat} (T : Nat → Int64) (hv : V.1 = true) (h : Seg V.1 F ps V.2.1 V.2.2) : Mz (mTot V lim) (mzH F ps T V.2.1 lim) := by
  have g := (seg_g T h V.2.1 (Nat.le_refl _)).2.1
  have hm : mTot V lim = mLim true lim (mAll V.1 V.2.2 V.2.1) := by
    unfold mTot
    rw [hv]
  rw [hm]
  rw [hv] at h g ⊢
  obtain ⟨a1, ⟨a2, -⟩, a4, a5⟩ := seg_v h V.2.1 (Nat.le_refl _)
  have a1' : (mh F ps V.2.1).1 - dpL F ps V.2.1 = (mAll true V.2.2 V.2.1).1 := by
    rw [a1, a5, Int64.sub_eq_add_neg, Int64.add_assoc, Int64.add_right_neg, Int64.add_zero]
  refine ⟨?_, a2, a4, ?_, g⟩
  · show (if (mAll true V.2.2 V.2.1).2.2.2.1 ≤ lim.toInt64 then (mAll true V.2.2 V.2.1).1 else (mAll true V.2.2 V.2.1).1 + ((mAll true V.2.2 V.2.1).2.2.2.1 - lim.toInt64)) = (if dpL F ps V.2.1 ≤ lim.toInt64 then (mh F ps V.2.1).1 - dpL F ps V.2.1 else (mh F ps V.2.1).1 - dpL F ps V.2.1 + (dpL F ps V.2.1 - lim.toInt64))
    rw [a5, a1']
  · show (if (mAll true V.2.2 V.2.1).2.2.2.1 ≤ lim.toInt64 then (mAll true V.2.2 V.2.1).2.2.2.1 else lim.toInt64) = (if dpL F ps V.2.1 ≤ lim.toInt64 then dpL F ps V.2.1 else lim.toInt64)
    rw [a5]
theorem is_eq {spec amount lim kk : Int32} {na : Int64} (h : closeB spec amount lim kk = true) : closeIs spec amount na = wantedL spec amount na := by
  simp only [closeB, Bool.and_eq_true, Bool.not_eq_true', decide_eq_false_iff_not] at h
  obtain ⟨⟨⟨⟨h0, h2⟩, -⟩, -⟩, -⟩ := h
  have q0 := Int32.le_iff_toInt_le.mp (Int32.not_lt.mp h0)
  have q2 := Int32.le_iff_toInt_le.mp (Int32.not_lt.mp h2)
  rw [show (0 : Int32).toInt = 0 from by decide] at q0
  rw [show (2 : Int32).toInt = 2 from by decide] at q2
  have : spec.toInt = (0 : Int32).toInt ∨ spec.toInt = (1 : Int32).toInt ∨ spec.toInt = (2 : Int32).toInt := by
    rw [show (0 : Int32).toInt = 0 from by decide, show (1 : Int32).toInt = 1 from by decide, show (2 : Int32).toInt = 2 from by decide]
    omega
  unfold closeIs wantedL
  rcases this with q | q | q <;> have q := Int32.toInt_inj.mp q <;> subst q <;> simp
theorem lt100_nI {x : Nat} (h : x < 2 ^ 31) : decide (nI x < (100 : Int32)) = decide (x < 100) := by
  rw [show (100 : Int32) = nI 100 from by decide]
  exact decide_eq_decide.mpr (nI_ltI h (by decide))
theorem good_eq {V : LV} {lim : Int32} {F : Nat → Nat → Int32} {ps : Nat → Nat} {T : Nat → Int64} {l5 : Nat → Int64} {is : Int64} {tot : Nat} (h : Seg V.1 F ps V.2.1 V.2.2) (hp : ps V.2.1 ≤ 8200) (hm : Mz (mTot V lim) l5) : closeG l5 (glT F ps T V.2.1) is (mxN (F 0) (spF F) (ps 0) (ps V.2.1 - ps 0)) tot = cgood (mTot V lim) is tot := by
  obtain ⟨g1, g2, g3, g4⟩ := seg_g T h V.2.1 (Nat.le_refl _)
  obtain ⟨m1, m2, m3, m4, m5⟩ := hm
  have mx := mxN_le (F 0) (spF F) (ps 0) (ps V.2.1 - ps 0)
  unfold closeG cgood canB
  rw [m1, m2, m3, m4, m5, mTot_gl, g4, g1 0 (by omega), g1 1 (by omega), g1 2 (by omega), g1 3 (by omega), lt100_nI (by omega)]
  rw [show decide (tot + 1 ≤ 4000) = decide (tot < 4000) from rfl]
  unfold glT
  ac_rfl
theorem sz_rt {x : Int64} (h : szL x = true) : x.toInt32.toInt64 = x := by
  simp only [szL, Bool.and_eq_true, decide_eq_true_eq] at h
  have h1 := Int64.le_iff_toInt_le.mp h.1
  have h2 := Int64.le_iff_toInt_le.mp h.2
  rw [show (-1073741823 : Int64).toInt = -1073741823 from by decide] at h1
  rw [show (1073741823 : Int64).toInt = 1073741823 from by decide] at h2
  apply Int64.toInt_inj.mp
  rw [Int32.toInt_toInt64, Int64.toInt_toInt32]
  exact Int.bmod_eq_of_le (by omega) (by omega)
theorem szI_rt {x : Int64} (h : szL x = true) : szI x.toInt32 = true := by unfold szI; rw [sz_rt h]; exact h
