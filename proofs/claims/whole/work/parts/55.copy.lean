/-! rows that a copy keeps -/
theorem emF_lo {F : Nat → Nat → Int32} {sz : Nat → Nat} {k c x : Nat} (h : x < 4100) : emF F sz k c x = F c x := by
  unfold emF cpF
  exact if_neg (fun q => by unfold stN at q; omega)
theorem mkF_lo {F : Nat → Nat → Int32} {sz : Nat → Nat} {k n c x : Nat} (h : x < 4100) : mkF F sz k n c x = F c x := by
  unfold mkF cpF
  exact if_neg (fun q => by unfold stN at q; omega)
theorem emF_reg {F : Nat → Nat → Int32} {sz : Nat → Nat} {k j i c : Nat} (hk : k < 16) (hj : j < 16) (hjk : j ≠ k) (hi : i < sz j) : emF F sz k c (stN (szU sz k 0) j + i) = F c (stN sz j + i) := by
  unfold emF cpF
  have a := sumN_lt (f := sz) (k := j) (n := 16) hj
  by_cases h : j < k
  · have b := sumN_lt (f := sz) h
    rw [stN_U (by omega), if_neg (fun q => by unfold stN at q; omega)]
  · have b := sumN_lt (f := sz) (show k < j by omega)
    have c' := sumN_Us (sz := sz) (x := 0) (show k < j by omega)
    have d := sumN_lt (f := sz) hk
    have e : stN (szU sz k 0) j = stN sz j - sz k := by unfold stN; omega
    rw [e, if_pos ⟨by unfold stN; omega, by unfold stN cpC; omega⟩]
    congr 1
    unfold stN
    omega
theorem mkF_reg {F : Nat → Nat → Int32} {sz : Nat → Nat} {k j i n c : Nat} (hk : k < 16) (hj : j < 16) (hjk : j ≠ k) (hi : i < sz j) : mkF (emF F sz k) sz k n c (stN (szU sz k n) j + i) = F c (stN sz j + i) := by
  rw [← emF_reg (F := F) (sz := sz) (k := k) (i := i) (c := c) hk hj hjk hi]
  generalize emF F sz k = X
  unfold mkF cpF
  have a := sumN_lt (f := sz) (k := j) (n := 16) hj
  by_cases h : j < k
  · have b := sumN_lt (f := sz) h
    rw [stN_U (by omega), stN_U (by omega), if_neg (fun q => by unfold stN at q; omega)]
  · have b := sumN_lt (f := sz) (show k < j by omega)
    have c' := sumN_Us (sz := sz) (x := 0) (show k < j by omega)
    have c2 := sumN_Us (sz := sz) (x := n) (show k < j by omega)
    have d := sumN_lt (f := sz) hk
    rw [if_pos ⟨by unfold stN; omega, by unfold stN cpC; omega⟩]
    congr 1
    unfold stN
    omega
theorem cpF_lo {F : Nat → Nat → Int32} {a b n c x : Nat} (h : x < b ∨ b + n ≤ x) : cpF F a b n c x = F c x := by
  unfold cpF
  exact if_neg (fun q => by omega)
theorem cpF_in {F : Nat → Nat → Int32} {a b n c j : Nat} (h : j < n) : cpF F a b n c (b + j) = F c (a + j) := by
  unfold cpF
  rw [if_pos ⟨by omega, by omega⟩]
  congr 1
  omega
theorem emM_lo {M : Nat → Int64} {sz : Nat → Nat} {k x : Nat} (h : x < 4100) : emM M sz k x = M x := by
  unfold emM cpM
  exact if_neg (fun q => by unfold stN at q; omega)
theorem mkM_lo {M : Nat → Int64} {sz : Nat → Nat} {k n x : Nat} (h : x < 4100) : mkM M sz k n x = M x := by
  unfold mkM cpM
  exact if_neg (fun q => by unfold stN at q; omega)
theorem emM_reg {M : Nat → Int64} {sz : Nat → Nat} {k j i : Nat} (hk : k < 16) (hj : j < 16) (hjk : j ≠ k) (hi : i < sz j) : emM M sz k (stN (szU sz k 0) j + i) = M (stN sz j + i) := by
  unfold emM cpM
  have a := sumN_lt (f := sz) (k := j) (n := 16) hj
  by_cases h : j < k
  · have b := sumN_lt (f := sz) h
    rw [stN_U (by omega), if_neg (fun q => by unfold stN at q; omega)]
  · have b := sumN_lt (f := sz) (show k < j by omega)
    have c' := sumN_Us (sz := sz) (x := 0) (show k < j by omega)
    have d := sumN_lt (f := sz) hk
    have e : stN (szU sz k 0) j = stN sz j - sz k := by unfold stN; omega
    rw [e, if_pos ⟨by unfold stN; omega, by unfold stN cpC; omega⟩]
    congr 1
    unfold stN
    omega
theorem mkM_reg {M : Nat → Int64} {sz : Nat → Nat} {k j i n : Nat} (hk : k < 16) (hj : j < 16) (hjk : j ≠ k) (hi : i < sz j) : mkM (emM M sz k) sz k n (stN (szU sz k n) j + i) = M (stN sz j + i) := by
  rw [← emM_reg (M := M) (sz := sz) (k := k) (i := i) hk hj hjk hi]
  generalize emM M sz k = X
  unfold mkM cpM
  have a := sumN_lt (f := sz) (k := j) (n := 16) hj
  by_cases h : j < k
  · have b := sumN_lt (f := sz) h
    rw [stN_U (by omega), stN_U (by omega), if_neg (fun q => by unfold stN at q; omega)]
  · have b := sumN_lt (f := sz) (show k < j by omega)
    have c' := sumN_Us (sz := sz) (x := 0) (show k < j by omega)
    have c2 := sumN_Us (sz := sz) (x := n) (show k < j by omega)
    have d := sumN_lt (f := sz) hk
    rw [if_pos ⟨by unfold stN; omega, by unfold stN cpC; omega⟩]
    congr 1
    unfold stN
    omega
theorem cpM_lo {M : Nat → Int64} {a b n x : Nat} (h : x < b ∨ b + n ≤ x) : cpM M a b n x = M x := by
  unfold cpM
  exact if_neg (fun q => by omega)
theorem cpM_in {M : Nat → Int64} {a b n j : Nat} (h : j < n) : cpM M a b n (b + j) = M (a + j) := by
  unfold cpM
  rw [if_pos ⟨by omega, by omega⟩]
  congr 1
  omega
theorem hdF_off {F : Nat → Nat → Int32} {t : Nat} {kd wd hg dp sp : Int32} {c x : Nat} (h : x ≠ t) : hdF F t kd wd hg dp sp c x = F c x := by
  unfold hdF
  split <;> first | exact pk_un h | rfl
theorem colF_off {F : Nat → Nat → Int32} {q t : Nat} {v : Int32} {c x : Nat} (h : x ≠ t ∨ c ≠ q) : colF F q t v c x = F c x := by
  unfold colF
  by_cases e : c = q
  · rw [if_pos e]
    exact pk_un (by rcases h with h | h; exact h; exact absurd e h)
  · rw [if_neg e]
theorem colF_at {F : Nat → Nat → Int32} {q t : Nat} {v : Int32} : colF F q t v q t = v := by
  unfold colF
  rw [if_pos rfl]
  exact pk_us
theorem setF_off {F : Nat → Nat → Int32} {t : Nat} {r : Nat → Int32} {c x : Nat} (h : x ≠ t) : setF F t r c x = F c x := pk_un h
theorem setF_at {F : Nat → Nat → Int32} {t : Nat} {r : Nat → Int32} {c : Nat} : setF F t r c t = r c := pk_us
theorem updL_off {M : Nat → Int64} {t x : Nat} {v : Int64} (h : x ≠ t) : vp_updL M t v x = M x := if_neg h
