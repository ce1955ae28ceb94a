def appN (V V2 : LV) (i : Nat) : LV := (V.1, V.2.1 + i, fun j => if j < V.2.1 then V.2.2 j else V2.2.2 (j - V.2.1))
theorem appN_s (V V2 : LV) (i : Nat) : (appN V V2 i).push (V2.2.2 i) = appN V V2 (i + 1) := by
  unfold appN LV.push
  congr 2
  funext j
  by_cases h : j = V.2.1 + i
  · subst h
    rw [if_pos rfl, if_neg (by omega), Nat.add_sub_cancel_left]
  · rw [if_neg h]
theorem appN_0 {G : zG} {e0 : Nat} {w : zw} {A : LA} {V V2 : LV} (h : LL G e0 w A V) : LL G e0 w A (appN V V2 0) := by
  obtain ⟨hi, hc, md, fa, ha, hr, hx⟩ := h
  refine ⟨hi, by unfold appN; simpa using hc, md, fa, by unfold appN; simpa using ha, by unfold appN; simpa using hr, fun i hi => ?_⟩
  unfold appN at hi ⊢
  obtain ⟨x, q1, q2⟩ := hx i (by simpa using hi)
  exact ⟨x, q1, by dsimp only; rw [if_pos (by simpa using hi)]; exact q2⟩
theorem LL.two {G : zG} {e0 : Nat} {w w1 : zw} {il al ar cap li al2 ar2 cap2 : Nat} {V V2 : LV} (hA : LL G e0 w (il, al, ar, cap) V) (hB : LL G e0 w (li, al2, ar2, cap2) V2) (he : w e0 = none) (h1 : al2 ≠ al) (h2 : ar2 ≠ ar ∨ ar2 = e0) (hF : Fr [al, ar] w w1) : LL G e0 w1 (li, al2, ar2, cap2) V2 := by
  obtain ⟨hi, hc, md, fa, ha, hr, hx⟩ := hB
  have hA' := hA
  obtain ⟨-, -, md', fa', ha', hr', -⟩ := hA'
  dsimp only at hi hc ha hr hx ha' hr'
  have hal : al2 ∉ [al, ar] := by
    simp only [List.mem_cons, List.not_mem_nil, or_false, not_or]
    refine ⟨h1, fun q => ?_⟩
    subst q
    rcases hr' with ⟨z, -⟩ | ⟨z, -⟩
    · rw [z, he] at ha; cases ha
    · rw [ha] at z; simp at z
  refine ⟨hF.keep hi (hA.notin he hi (by simp) (by simp)), hc, md, fa, hF.keep ha hal, ?_, fun i hi => ?_⟩
  · rcases hr with hr | hr
    · exact Or.inl hr
    · refine Or.inr ⟨hF.keep hr.1 ?_, hr.2⟩
      simp only [List.mem_cons, List.not_mem_nil, or_false, not_or]
      refine ⟨fun q => ?_, fun q => ?_⟩
      · subst q; rw [hr.1] at ha'; simp at ha'
      · rcases h2 with h2 | h2
        · exact h2 q
        · have := hr.1
          rw [h2, he] at this; cases this
  · obtain ⟨x, q1, q2⟩ := hx i hi
    exact ⟨x, q1, hF.keep q2 (hA.notin he q2 (by simp) (by simp))⟩
