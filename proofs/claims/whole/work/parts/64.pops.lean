/-! characters, rules, glue, kerns, penalties -/
theorem in4_0 : vp_in 0 4 := by unfold vp_in; decide
theorem p_character (l : Launch) (G : zG) (n0 e0 : Nat) {w : zw} {d la ra o : Nat} {A : Nat → Nat} {P : List Nat} {c : Nat} {X : XS} (hA : ∀ i j, i < 13 → j < 13 → i ≠ j → A i ≠ A j) (hI : CI G e0 w d la ra P c X) (hRI : RI G w o A X) (hc : c ≤ 512) (x y z : Int32) : Pair l G n0 e0 w d la ra o A P c X y_D_character b_D_character 5 y_R_character b_R_character 4 (Option.some FieldType.boolean) [.int x, .int y, .int z] [.int x, .int y, .int z] := by
  refine pair_add l G n0 e0 (gd := fun vb => !vb && (szI x && szI y && szI z)) (f := mkI 1 x y z 0 0 0 0 0 0 0 0) (r9 := row9 1 x y z 0 0 0) hA hI hRI hc (fun tot hd => c_character_0 l G n0 e0 w d la ra tot hd x y z) (fun k tot il al ar cap V fl h1 h2 h3 h4 h5 h6 h7 => c_character l G n0 e0 w d la ra k tot il al ar cap V fl h1 h2 h3 h4 h5 h6 h7 x y z) (fun w1 S L F M h1 h2 h3 h4 en h5 h6 lists h7 h8 vb h9 => r_character l G n0 e0 w1 o A S L h1 F M h2 hA h3 h4 en h5 h6 lists h7 h8 vb h9 x y z) ?_
  intro vb h
  simp only [Bool.and_eq_true, Bool.not_eq_true'] at h
  obtain ⟨hv, ⟨hx, hy⟩, hz⟩ := h
  subst hv
  exact ⟨⟨⟨hx, hy, hz, by show szI 0 = true; decide⟩, in4_0, rfl, Or.inl rfl, fun _ => rfl, fun _ => ⟨rfl, rfl, rfl⟩, fun _ => rfl, fun q => absurd q (by show ¬ (4 : Int32) < 1; decide), fun _ => rfl, fun q => absurd q (by show ¬ (1 : Int32) = 7; decide)⟩, ⟨by show ¬ ((1 : Int32) = 2 ∨ (1 : Int32) = 3); decide, rfl, rfl⟩, ⟨rfl, by rw [tell_1, if_neg (by show ¬ (0 : Int32) &&& 1 ≠ 0; decide), if_neg (by show ¬ (1 : Int32) = 7; decide)]; rfl, by rw [tell_2, if_neg (by show ¬ (0 : Int32) &&& 2 ≠ 0; decide)]; rfl, by rw [tell_3, if_neg (by show ¬ (0 : Int32) &&& 4 ≠ 0; decide)]; rfl, fun q => absurd q (by show ¬ ((1 : Int32) = 2 ∨ (1 : Int32) = 3); decide), fun q => absurd q (by show ¬ (1 : Int32) = 5; decide)⟩, rfl⟩
theorem p_kern (l : Launch) (G : zG) (n0 e0 : Nat) {w : zw} {d la ra o : Nat} {A : Nat → Nat} {P : List Nat} {c : Nat} {X : XS} (hA : ∀ i j, i < 13 → j < 13 → i ≠ j → A i ≠ A j) (hI : CI G e0 w d la ra P c X) (hRI : RI G w o A X) (hc : c ≤ 512) (x : Int32) : Pair l G n0 e0 w d la ra o A P c X y_D_kern b_D_kern 3 y_R_kern b_R_kern 2 (Option.some FieldType.boolean) [.int x] [.int x] := by
  refine pair_add l G n0 e0 (gd := fun _ => szI x) (f := mkI 6 x 0 0 0 0 0 0 0 0 0 0) (r9 := row9 6 x 0 0 0 0 0) hA hI hRI hc (fun tot hd => c_kern_0 l G n0 e0 w d la ra tot hd x) (fun k tot il al ar cap V fl h1 h2 h3 h4 h5 h6 h7 => c_kern l G n0 e0 w d la ra k tot il al ar cap V fl h1 h2 h3 h4 h5 h6 h7 x) (fun w1 S L F M h1 h2 h3 h4 en h5 h6 lists h7 h8 vb h9 => r_kern l G n0 e0 w1 o A S L h1 F M h2 hA h3 h4 en h5 h6 lists h7 h8 x) ?_
  intro vb hx
  exact ⟨⟨⟨hx, by show szI 0 = true; decide, by show szI 0 = true; decide, by show szI 0 = true; decide⟩, in4_0, by cases vb <;> rfl, Or.inr (Or.inr (Or.inr (Or.inr (Or.inr (Or.inl rfl))))), fun q => absurd q (by show ¬ (6 : Int32) = 1; decide), fun _ => ⟨rfl, rfl, rfl⟩, fun _ => rfl, fun _ => ⟨rfl, rfl⟩, fun _ => rfl, fun q => absurd q (by show ¬ (6 : Int32) = 7; decide)⟩, ⟨by show ¬ ((6 : Int32) = 2 ∨ (6 : Int32) = 3); decide, rfl, rfl⟩, ⟨rfl, by rw [tell_1, if_neg (by show ¬ (0 : Int32) &&& 1 ≠ 0; decide), if_neg (by show ¬ (6 : Int32) = 7; decide)]; rfl, by rw [tell_2, if_neg (by show ¬ (0 : Int32) &&& 2 ≠ 0; decide)]; rfl, by rw [tell_3, if_neg (by show ¬ (0 : Int32) &&& 4 ≠ 0; decide)]; rfl, fun q => absurd q (by show ¬ ((6 : Int32) = 2 ∨ (6 : Int32) = 3); decide), fun q => absurd q (by show ¬ (6 : Int32) = 5; decide)⟩, rfl⟩
theorem p_penalty (l : Launch) (G : zG) (n0 e0 : Nat) {w : zw} {d la ra o : Nat} {A : Nat → Nat} {P : List Nat} {c : Nat} {X : XS} (hA : ∀ i j, i < 13 → j < 13 → i ≠ j → A i ≠ A j) (hI : CI G e0 w d la ra P c X) (hRI : RI G w o A X) (hc : c ≤ 512) (x : Int32) : Pair l G n0 e0 w d la ra o A P c X y_D_penalty b_D_penalty 3 y_R_penalty b_R_penalty 2 (Option.some FieldType.boolean) [.int x] [.int x] := by
  refine pair_add l G n0 e0 (gd := fun _ => true) (f := mkI 7 0 0 0 0 x 0 0 0 0 0 0) (r9 := row9 7 x 0 0 0 0 0) hA hI hRI hc (fun tot hd => c_penalty_0 l G n0 e0 w d la ra tot hd x) (fun k tot il al ar cap V fl h1 h2 h3 h4 h5 h6 h7 => c_penalty l G n0 e0 w d la ra k tot il al ar cap V fl h1 h2 h3 h4 h5 h6 h7 x) (fun w1 S L F M h1 h2 h3 h4 en h5 h6 lists h7 h8 vb h9 => r_penalty l G n0 e0 w1 o A S L h1 F M h2 hA h3 h4 en h5 h6 lists h7 h8 x) ?_
  intro vb hx
  exact ⟨⟨⟨by show szI 0 = true; decide, by show szI 0 = true; decide, by show szI 0 = true; decide, by show szI 0 = true; decide⟩, in4_0, by cases vb <;> rfl, Or.inr (Or.inr (Or.inr (Or.inr (Or.inr (Or.inr rfl))))), fun q => absurd q (by show ¬ (7 : Int32) = 1; decide), fun _ => ⟨rfl, rfl, rfl⟩, fun _ => rfl, fun _ => ⟨rfl, rfl⟩, fun _ => rfl, fun _ => rfl⟩, ⟨by show ¬ ((7 : Int32) = 2 ∨ (7 : Int32) = 3); decide, rfl, rfl⟩, ⟨rfl, by rw [tell_1, if_neg (by show ¬ (0 : Int32) &&& 1 ≠ 0; decide), if_pos (by show (7 : Int32) = 7; rfl)]; rfl, by rw [tell_2, if_neg (by show ¬ (0 : Int32) &&& 2 ≠ 0; decide)]; rfl, by rw [tell_3, if_neg (by show ¬ (0 : Int32) &&& 4 ≠ 0; decide)]; rfl, fun q => absurd q (by show ¬ ((7 : Int32) = 2 ∨ (7 : Int32) = 3); decide), fun q => absurd q (by show ¬ (7 : Int32) = 5; decide)⟩, rfl⟩
theorem in4_of {o : Int32} (h0 : ¬ o < 0) (h4 : o < 4) : vp_in o 4 := by
  obtain ⟨j, hj, e⟩ := nI_of h0
  subst e
  rw [show (4 : Int32) = nI 4 from by decide, nI_ltI hj (by omega)] at h4
  exact vp_in_nI h4 (by omega)
theorem p_glue (l : Launch) (G : zG) (n0 e0 : Nat) {w : zw} {d la ra o : Nat} {A : Nat → Nat} {P : List Nat} {c : Nat} {X : XS} (hA : ∀ i j, i < 13 → j < 13 → i ≠ j → A i ≠ A j) (hI : CI G e0 w d la ra P c X) (hRI : RI G w o A X) (hc : c ≤ 512) (x st od sh : Int32) : Pair l G n0 e0 w d la ra o A P c X y_D_glue b_D_glue 6 y_R_glue b_R_glue 5 (Option.some FieldType.boolean) [.int x, .int st, .int od, .int sh] [.int x, .int st, .int od, .int sh] := by
  refine pair_add l G n0 e0 (gd := fun _ => (szI x && szI st && szI sh) && !decide (st < 0) && !decide (sh < 0) && !decide (od < 0) && decide (od < 4)) (f := mkI 5 x 0 0 0 0 st od sh 0 0 0) (r9 := row9 5 x 0 0 st od sh) hA hI hRI hc (fun tot hd => c_glue_0 l G n0 e0 w d la ra tot hd x st od sh) (fun k tot il al ar cap V fl h1 h2 h3 h4 h5 h6 h7 => c_glue l G n0 e0 w d la ra k tot il al ar cap V fl h1 h2 h3 h4 h5 h6 h7 x st od sh) (fun w1 S L F M h1 h2 h3 h4 en h5 h6 lists h7 h8 vb h9 => r_glue l G n0 e0 w1 o A S L h1 F M h2 hA h3 h4 en h5 h6 lists h7 h8 x st od sh) ?_
  intro vb h
  simp only [Bool.and_eq_true, Bool.not_eq_true', decide_eq_false_iff_not, decide_eq_true_eq] at h
  obtain ⟨⟨⟨⟨⟨⟨hx, -⟩, -⟩, -⟩, -⟩, h0⟩, h4⟩ := h
  exact ⟨⟨⟨hx, by show szI 0 = true; decide, by show szI 0 = true; decide, by show szI 0 = true; decide⟩, in4_of h0 h4, by cases vb <;> rfl, Or.inr (Or.inr (Or.inr (Or.inr (Or.inl rfl)))), fun q => absurd q (by show ¬ (5 : Int32) = 1; decide), fun q => absurd rfl q, fun _ => rfl, fun _ => ⟨rfl, rfl⟩, fun _ => rfl, fun q => absurd q (by show ¬ (5 : Int32) = 7; decide)⟩, ⟨by show ¬ ((5 : Int32) = 2 ∨ (5 : Int32) = 3); decide, rfl, rfl⟩, ⟨rfl, by rw [tell_1, if_neg (by show ¬ (0 : Int32) &&& 1 ≠ 0; decide), if_neg (by show ¬ (5 : Int32) = 7; decide)]; rfl, by rw [tell_2, if_neg (by show ¬ (0 : Int32) &&& 2 ≠ 0; decide)]; rfl, by rw [tell_3, if_neg (by show ¬ (0 : Int32) &&& 4 ≠ 0; decide)]; rfl, fun q => absurd q (by show ¬ ((5 : Int32) = 2 ∨ (5 : Int32) = 3); decide), fun _ => ⟨rfl, rfl, rfl⟩⟩, rfl⟩
theorem run_in {vb : Bool} {rn : Int32} (h : runOk vb rn = true) : (rn &&& 1 = 1 ↔ rn &&& 1 ≠ 0) ∧ (rn &&& 2 = 2 ↔ rn &&& 2 ≠ 0) ∧ (rn &&& 4 = 4 ↔ rn &&& 4 ≠ 0) := by
  unfold runOk at h
  cases vb
  · simp only [Bool.false_eq_true, if_false, Bool.or_eq_true, decide_eq_true_eq] at h
    rcases h with ((h | h) | h) | h <;> subst h <;> decide
  · simp only [if_true, Bool.or_eq_true, decide_eq_true_eq] at h
    rcases h with h | h <;> subst h <;> decide
theorem run_if {p q : Prop} [Decidable p] [Decidable q] {a b : Int32} (h : p ↔ q) : (if p then a else b) = (if q then a else b) := by
  by_cases hp : p
  · rw [if_pos hp, if_pos (h.mp hp)]
  · rw [if_neg hp, if_neg (fun r => hp (h.mpr r))]
theorem p_rule (l : Launch) (G : zG) (n0 e0 : Nat) {w : zw} {d la ra o : Nat} {A : Nat → Nat} {P : List Nat} {c : Nat} {X : XS} (hA : ∀ i j, i < 13 → j < 13 → i ≠ j → A i ≠ A j) (hI : CI G e0 w d la ra P c X) (hRI : RI G w o A X) (hc : c ≤ 512) (x y z rn : Int32) : Pair l G n0 e0 w d la ra o A P c X y_D_rule b_D_rule 7 y_R_rule b_R_rule 9 (Option.some FieldType.boolean) [.int x, .int y, .int z, .int rn] [.int x, .int y, .int z, .int rn] := by
  refine pair_add l G n0 e0 (gd := fun vb => runOk vb rn && (szI x && szI y && szI z)) (f := mkI 4 x y z rn 0 0 0 0 0 0 0) (r9 := row9 4 (if rn &&& 1 = 1 then (-2147483648) else x) (if rn &&& 2 = 2 then (-2147483648) else y) (if rn &&& 4 = 4 then (-2147483648) else z) 0 0 0) hA hI hRI hc (fun tot hd => c_rule_0 l G n0 e0 w d la ra tot hd x y z rn) (fun k tot il al ar cap V fl h1 h2 h3 h4 h5 h6 h7 => ?_) (fun w1 S L F M h1 h2 h3 h4 en h5 h6 lists h7 h8 vb h9 => r_rule l G n0 e0 w1 o A S L h1 F M h2 hA h3 h4 en h5 h6 lists h7 h8 vb h9 x y z rn) ?_
  · have := c_rule l G n0 e0 w d la ra k tot il al ar cap V fl h1 h2 h3 h4 h5 h6 h7 x y z rn
    rw [run_eq, Bool.and_comm] at this
    exact this
  · intro vb h
    rw [Bool.and_eq_true] at h
    obtain ⟨hr, h⟩ := h
    simp only [Bool.and_eq_true] at h
    obtain ⟨⟨hx, hy⟩, hz⟩ := h
    have hrow : rowI (fun c _ => row9 4 (if rn &&& 1 = 1 then (-2147483648) else x) (if rn &&& 2 = 2 then (-2147483648) else y) (if rn &&& 4 = 4 then (-2147483648) else z) 0 0 0 c) 0 (mkI 4 x y z rn 0 0 0 0 0 0 0) := by
      refine ⟨rfl, ?_, ?_, ?_, fun q => absurd q (by show ¬ ((4 : Int32) = 2 ∨ (4 : Int32) = 3); decide), fun q => absurd q (by show ¬ (4 : Int32) = 5; decide)⟩
      · show (if rn &&& 1 = 1 then (-2147483648) else x) = (if rn &&& 1 ≠ 0 then (-2147483648) else if (4 : Int32) = 7 then 0 else x)
        rw [if_neg (by decide : ¬ (4 : Int32) = 7)]
        exact run_if (run_in hr).1
      · show (if rn &&& 2 = 2 then (-2147483648) else y) = (if rn &&& 2 ≠ 0 then (-2147483648) else y)
        exact run_if (run_in hr).2.1
      · rw [tell_3]
        show (if rn &&& 4 = 4 then (-2147483648) else z) = (if rn &&& 4 ≠ 0 then (-2147483648) else z)
        exact run_if (run_in hr).2.2
    exact ⟨⟨⟨hx, hy, hz, by show szI 0 = true; decide⟩, in4_0, hr, Or.inr (Or.inr (Or.inr (Or.inl rfl))), fun q => absurd q (by show ¬ (4 : Int32) = 1; decide), fun _ => ⟨rfl, rfl, rfl⟩, fun _ => rfl, fun q => absurd q (by show ¬ (4 : Int32) < 4; decide), fun q => absurd rfl q, fun q => absurd q (by show ¬ (4 : Int32) = 7; decide)⟩, ⟨by show ¬ ((4 : Int32) = 2 ∨ (4 : Int32) = 3); decide, rfl, rfl⟩, hrow, rfl⟩
