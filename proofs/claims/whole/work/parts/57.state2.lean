theorem sizeB_of {which v : Int32} (h : sizeB which v = true) : szI v = true ∧ (which = 0 ∨ which = 1 ∨ which = 2) := by
  simp only [sizeB, Bool.and_eq_true, Bool.or_eq_true, decide_eq_true_eq] at h
  exact ⟨h.1, by rcases h.2 with (q | q) | q; exact Or.inl q; exact Or.inr (Or.inl q); exact Or.inr (Or.inr q)⟩
theorem rel_size {on tot : Nat} {VL : Nat → LV} {RG : Nat → Option BX} {F : Nat → Nat → Int32} {M : Nat → Int64} {B Vv : Nat → Int32} {sz : Nat → Nat} {en : Nat} (h : RelA (on, tot, VL, RG) F M B Vv sz en) {k : Nat} (hk : k < 16) {f : Nat → Int32} {V : LV} {fw : Nat → Int32} (hR : RG k = some (f, V, fw)) {which v : Int32} (hx : sizeB which v = true) : RelA (on, tot, VL, va_up RG k (some (sizeF f which v, V, fw))) (colF F (whN which) (stN sz k) v) M B Vv sz en := by
  obtain ⟨h1, h2, h3, ⟨bg, b1, b2⟩, h5⟩ := h
  dsimp only at *
  have hm : ∀ {j k : Nat}, j ≤ k → k ≤ on → bg j ≤ bg k := fun hjk hk => bg_le (fun t ht => (b2 t ht).2.2) hjk hk
  have sk := sumN_lt (f := sz) hk
  refine ⟨h1, h2, h3, ⟨bg, b1, fun t ht => ?_⟩, fun j hj => ?_⟩
  · obtain ⟨c1, c2, c3⟩ := b2 t ht
    refine ⟨c1, c2, c3.keep (fun c i _ q => colF_off (Or.inl ?_))⟩
    have := hm (j := t + 1) (k := on) (by omega) (Nat.le_refl _)
    unfold stN
    omega
  · have hr := h5 j hj
    have hrk := h5 k hk
    rw [hR] at hrk
    have hrk : Reg F M (stN sz k) (sz k) f V fw := hrk
    obtain ⟨g1, g2, g3, g4, g5, g6, g7, g8, ⟨z2, z3, z4⟩, g10, ps, q1, q2, q3, q4⟩ := hrk
    by_cases e : j = k
    · subst e
      dsimp only
      rw [va_up_self]
      show Reg _ _ _ _ (sizeF f which v) V fw
      obtain ⟨hv, hw⟩ := sizeB_of hx
      have off : ∀ c, c = 0 ∨ 4 ≤ c → ∀ x, colF F (whN which) (stN sz j) v c x = F c x := by
        intro c hc x
        refine colF_off (Or.inr (fun q => ?_))
        subst q
        rcases hw with q | q | q <;> subst q <;> revert hc <;> decide
      have off2 : ∀ c x, x ≠ stN sz j → colF F (whN which) (stN sz j) v c x = F c x := fun c x q => colF_off (Or.inl q)
      have at1 : colF F (whN which) (stN sz j) v 1 (stN sz j) = sizeF f which v 2 ∧ colF F (whN which) (stN sz j) v 2 (stN sz j) = sizeF f which v 3 ∧ colF F (whN which) (stN sz j) v 3 (stN sz j) = sizeF f which v 4 := by
        rcases hw with q | q | q <;> subst q
        · exact ⟨colF_at, by rw [colF_off (Or.inr (by decide)), g6]; rfl, by rw [colF_off (Or.inr (by decide)), g7]; rfl⟩
        · exact ⟨by rw [colF_off (Or.inr (by decide)), g5]; rfl, colF_at, by rw [colF_off (Or.inr (by decide)), g7]; rfl⟩
        · exact ⟨by rw [colF_off (Or.inr (by decide)), g5]; rfl, by rw [colF_off (Or.inr (by decide)), g6]; rfl, colF_at⟩
      have z : szI (sizeF f which v 2) = true ∧ szI (sizeF f which v 3) = true ∧ szI (sizeF f which v 4) = true := by
        rcases hw with q | q | q <;> subst q
        · exact ⟨hv, z3, z4⟩
        · exact ⟨z2, hv, z4⟩
        · exact ⟨z2, z3, hv⟩
      have s0 : sizeF f which v 0 = f 0 := by unfold sizeF; exact if_neg (by omega)
      have s1 : sizeF f which v 1 = f 1 := by unfold sizeF; exact if_neg (by omega)
      refine ⟨g1, g2, by rw [s0]; exact g3, by rw [off 0 (Or.inl rfl)]; exact g4, at1.1, at1.2.1, at1.2.2, by rw [off 8 (Or.inr (by decide))]; exact g8, z, ?_, ps, q1, q2, q3.keep (fun c i a _ => off2 c i (by omega)), fun i hi h5 => ?_⟩
      · rw [s1, g10]
        congr 1
        exact mxN_cong (fun i _ => (off 0 (Or.inl rfl) _).symm) (fun i _ => by unfold spF; rw [off 8 (Or.inr (by decide))])
      · have := q3.le (j := 0) (k := i) (by omega) (by omega)
        rw [off2 1 _ (by omega)]
        exact q4 i hi h5
    · dsimp only
      rw [va_up_ne _ _ e]
      cases hj2 : RG j with
      | none => rw [hj2] at hr; exact hr
      | some x =>
        rw [hj2] at hr
        have hr : Reg F M (stN sz j) (sz j) x.1 x.2.1 x.2.2 := hr
        refine Reg.keep hr (fun c i a b => colF_off (Or.inl ?_)) (fun i _ _ => rfl)
        by_cases h : j < k
        · have := sumN_lt (f := sz) h
          unfold stN at *
          omega
        · have := sumN_lt (f := sz) (show k < j by omega)
          unfold stN at *
          omega
theorem rel_top {t tot : Nat} {VL : Nat → LV} {RG : Nat → Option BX} {F : Nat → Nat → Int32} {M : Nat → Int64} {B Vv : Nat → Int32} {sz : Nat → Nat} {en : Nat} (h : RelA (t + 1, tot, VL, RG) F M B Vv sz en) : ∃ ps, ps (VL t).2.1 = en ∧ Seg (VL t).1 F ps (VL t).2.1 (VL t).2.2 ∧ B t = nI (ps 0) ∧ Vv t = zi (VL t).1 ∧ ∀ (RG' : Nat → Option BX) (F' : Nat → Nat → Int32) (M' : Nat → Int64) (sz' : Nat → Nat) (tot' : Nat), (∀ c x, x < en → F' c x = F c x) → (∀ k, k < 16 → RS F' M' sz' k (RG' k)) → tot' = ps 0 + sumN sz' 16 → tot' ≤ 4000 → RelA (t, tot', VL, RG') F' M' B Vv sz' (ps 0) := by
  obtain ⟨h1, h2, h3, ⟨bg, b1, b2⟩, h5⟩ := h
  dsimp only at *
  have hm : ∀ {j k : Nat}, j ≤ k → k ≤ t + 1 → bg j ≤ bg k := fun hjk hk => bg_le (fun t ht => (b2 t ht).2.2) hjk hk
  obtain ⟨c1, c2, ps, p0, p1, p2⟩ := b2 t (by omega)
  refine ⟨ps, by omega, p2, by rw [p0]; exact c1, c2, ?_⟩
  intro RG' F' M' sz' tot' hlo hreg ht hle
  refine ⟨by dsimp only; omega, ht, hle, ⟨bg, p0.symm, fun s hs => ?_⟩, hreg⟩
  dsimp only at hs ⊢
  obtain ⟨d1, d2, d3⟩ := b2 s (by omega)
  refine ⟨d1, d2, d3.keep (fun c j _ q => hlo c j ?_)⟩
  have := hm (j := s + 1) (k := t + 1) (by omega) (Nat.le_refl _)
  omega
/-- the rows after a close -/
def clF (F : Nat → Nat → Int32) (sz : Nat → Nat) (k a N : Nat) (kd wd hg dp : Int32) : Nat → Nat → Int32 := cpF (hdF (mkF (emF F sz k) sz k (N + 1)) (stN sz k) kd wd hg dp (nI (N + 1))) a (stN sz k + 1) N
def clM (M : Nat → Int64) (sz : Nat → Nat) (k a N : Nat) : Nat → Int64 := cpM (mkM (emM M sz k) sz k (N + 1)) a (stN sz k + 1) N
theorem clF_lo {F : Nat → Nat → Int32} {sz : Nat → Nat} {k a N : Nat} {kd wd hg dp : Int32} {c x : Nat} (h : x < 4100) : clF F sz k a N kd wd hg dp c x = F c x := by
  unfold clF
  rw [cpF_lo (by unfold stN; omega), hdF_off (by unfold stN; omega), mkF_lo h, emF_lo h]
theorem RS.close {F : Nat → Nat → Int32} {M M1 : Nat → Int64} {sz : Nat → Nat} {RG : Nat → Option BX} {k : Nat} (hk : k < 16) (h : ∀ j, j < 16 → RS F M sz j (RG j)) (hM : ∀ j, 4100 ≤ j → M1 j = M j)
    {V : LV} {ps : Nat → Nat} (hS : Seg V.1 F ps V.2.1 V.2.2) (hp : ps V.2.1 + sumN sz 16 < 4000) {kd wd hg dp : Int32} {bx fw : Nat → Int32} (hkd : kd = if V.1 = true then 3 else 2) (b0 : bx 0 = nI (ps V.2.1 - ps 0)) (b1 : bx 1 = nI (mxN (F 0) (spF F) (ps 0) (ps V.2.1 - ps 0)) + 1) (b2 : wd = bx 2) (b3 : hg = bx 3) (b4 : dp = bx 4) (z : szI (bx 2) = true ∧ szI (bx 3) = true ∧ szI (bx 4) = true) (hfw : ∀ i, i < V.2.1 → V.2.2 i 0 = 5 → clampR ((F 1 (ps i)).toInt64 + M1 (ps i)) = fw i) :
    ∀ j, j < 16 → RS (clF F sz k (ps 0) (ps V.2.1 - ps 0) kd wd hg dp) (clM M1 sz k (ps 0) (ps V.2.1 - ps 0)) (szU sz k (ps V.2.1 - ps 0 + 1)) j (va_up RG k (some (bx, V, fw)) j) := by
  have hle := hS.le (j := 0) (k := V.2.1) (by omega) (Nat.le_refl _)
  generalize hN : ps V.2.1 - ps 0 = N at *
  have sk := sumN_lt (f := sz) hk
  have su := sumN_Us (sz := sz) (x := N + 1) hk
  intro j hj
  by_cases e : j = k
  · subst e
    rw [va_up_self]
    show Reg _ _ _ _ bx V fw
    have hz : szU sz j (N + 1) j = N + 1 := if_pos rfl
    have hst : stN (szU sz j (N + 1)) j = stN sz j := stN_U (Nat.le_refl _)
    rw [hz, hst]
    have hs : Same F (clF F sz j (ps 0) N kd wd hg dp) (ps 0) (stN sz j + 1) N := by
      intro c i hi
      unfold clF
      rw [cpF_in hi, hdF_off (by unfold stN; omega), mkF_lo (by omega), emF_lo (by omega)]
    have hm : ∀ i, i < N → clM M1 sz j (ps 0) N (stN sz j + 1 + i) = M1 (ps 0 + i) := by
      intro i hi
      unfold clM
      rw [cpM_in hi, mkM_lo (by omega), emM_lo (by omega)]
    have at0 : ∀ c, clF F sz j (ps 0) N kd wd hg dp c (stN sz j) = hdF (mkF (emF F sz j) sz j (N + 1)) (stN sz j) kd wd hg dp (nI (N + 1)) c (stN sz j) := by
      intro c
      unfold clF
      rw [cpF_lo (by omega)]
    have st : stN sz j + N + 1 ≤ 8200 := by unfold stN; omega
    have a0 : clF F sz j (ps 0) N kd wd hg dp 0 (stN sz j) = kd := by rw [at0]; exact pk_us
    have a8 : clF F sz j (ps 0) N kd wd hg dp 8 (stN sz j) = nI (N + 1) := by rw [at0]; exact pk_us
    refine ⟨by omega, by omega, by rw [b0]; rfl, by rw [a0, hkd], by rw [at0, ← b2]; exact pk_us, by rw [at0, ← b3]; exact pk_us, by rw [at0, ← b4]; exact pk_us, a8, z, ?_, fun i => stN sz j + 1 + (ps i - ps 0), by dsimp only; omega, by dsimp only; omega, hS.move (by rw [hN]; exact hs) (by omega), fun i hi h5 => ?_⟩
    · rw [b1, nI_1]
      congr 1
      rw [mxN_head (by rw [a0, hkd]; split <;> first | exact Or.inr rfl | exact Or.inl rfl) (by unfold spF; rw [a8, nI_clamp (by omega)]; omega), hs.mx]
    · have c1 := hS.le (j := 0) (k := i) (by omega) (by omega)
      have c2 := hS.le (j := i) (k := V.2.1) (by omega) (by omega)
      rw [hs 1 (ps i - ps 0) (by omega), hm (ps i - ps 0) (by omega), show ps 0 + (ps i - ps 0) = ps i by omega]
      exact hfw i hi h5
  · rw [va_up_ne _ _ e]
    have h := h j hj
    have hz : szU sz k (N + 1) j = sz j := if_neg e
    cases hr : RG j with
    | none =>
      rw [hr] at h
      show szU sz k (N + 1) j = 0
      rw [hz]
      exact h
    | some x =>
      rw [hr] at h
      show Reg _ _ _ _ _ _ _
      rw [hz]
      have sj := sumN_lt (f := szU sz k (N + 1)) (k := j) (n := 16) hj
      have out : ∀ i, i < sz j → (stN (szU sz k (N + 1)) j + i < stN sz k ∨ stN sz k + 1 + N ≤ stN (szU sz k (N + 1)) j + i) := by
        intro i hi
        by_cases q : j < k
        · have := sumN_lt (f := sz) q
          have c1 := stN_U (sz := sz) (x := N + 1) (show j ≤ k by omega)
          left
          unfold stN at *
          omega
        · have := sumN_lt (f := sz) (show k < j by omega)
          have c1 := sumN_Us (sz := sz) (x := N + 1) (show k < j by omega)
          right
          unfold stN
          omega
      refine Reg.move h (fun c i hi => ?_) (fun i hi => ?_) ?_
      · unfold clF
        have := out i hi
        rw [cpF_lo (by omega), hdF_off (by omega), mkF_reg hk hj e hi]
      · unfold clM
        have := out i hi
        rw [cpM_lo (by omega), mkM_reg hk hj e hi]
        exact hM _ (by unfold stN; omega)
      · unfold stN
        rw [hz] at sj
        omega
