/-! one list grows -/
theorem nin4 {G : zG} {w : zw} {d ra al ar b : Nat} {xd xr xa x : va_E} (hd : w d = some xd) (hra : w ra = some xr) (hal : w al = some xa) (har : w ar = none ∨ ∃ cap fa, w ar = some (.inl (G.2 3, cap, .inr (.inr (.inr (.inr fa)))))) (hb : w b = some x) (h1 : x ≠ xd) (h2 : x ≠ xr) (h3 : x ≠ xa) (h4 : ∀ cap fa, x ≠ .inl (G.2 3, cap, .inr (.inr (.inr (.inr fa))))) : b ∉ [d, ra, al, ar] := by
  intro q
  simp only [List.mem_cons, List.not_mem_nil, or_false] at q
  rcases q with rfl | rfl | rfl | rfl
  · rw [hb] at hd; cases hd; exact h1 rfl
  · rw [hb] at hra; cases hra; exact h2 rfl
  · rw [hb] at hal; cases hal; exact h3 rfl
  · rcases har with q | ⟨cap, fa, q⟩
    · rw [hb] at q; cases q
    · rw [hb] at q; cases q; exact h4 _ _ rfl
theorem LL.al {G : zG} {e0 : Nat} {w : zw} {A : LA} {V : LV} (h : LL G e0 w A V) : ∃ md, w A.2.1 = some (.inr (0, fA md (.ref A.2.2.1) (nI V.2.1))) := by
  obtain ⟨-, -, md, fa, ha, -, -⟩ := h
  exact ⟨md, ha⟩
theorem LL.keep4 {G : zG} {e0 : Nat} {w w1 : zw} {A A2 : LA} {V V2 : LV} {d ra : Nat} {xd : List Value} {fr : Nat → Option Nat} (h : LL G e0 w A V) (h2 : LL G e0 w A2 V2) (he : w e0 = none) (g53 : ¬ G.2 5 = G.2 3) (hd : w d = some (.inr (5, xd))) (hra : w ra = some (.inl (G.2 5, 16, .inr (.inr (.inr (.inr fr)))))) (hF : Fr [d, ra, A2.2.1, A2.2.2.1] w w1) (n1 : A.2.1 ≠ A2.2.1) (n2 : A.2.2.1 ≠ A2.2.2.1 ∨ A.2.2.1 = e0) : LL G e0 w1 A V := by
  obtain ⟨md2, hal2⟩ := h2.al
  have har2 := h2.ar he
  have hi := h.1
  obtain ⟨md, hal⟩ := h.al
  refine LL.keep h hF (nin4 hd hra hal2 har2 hi (by simp) (by simp) (by simp) (by simp)) ?_ ?_ (fun t ht fs q => nin4 hd hra hal2 har2 q (by simp) (by simp) (by simp) (by simp) ht)
  · intro q
    simp only [List.mem_cons, List.not_mem_nil, or_false] at q
    rcases q with q | q | q | q
    · rw [q, hd] at hal; simp at hal
    · rw [q, hra] at hal; simp at hal
    · exact n1 q
    · rcases har2 with r | ⟨cap, fa, r⟩
      · rw [q, r] at hal; cases hal
      · rw [q, r] at hal; simp at hal
  · rcases h.ar he with r | ⟨cap, fa, r⟩
    · exact Or.inr r
    · left
      intro q
      simp only [List.mem_cons, List.not_mem_nil, or_false] at q
      rcases q with q | q | q | q
      · rw [q, hd] at r; simp at r
      · rw [q, hra] at r; simp at r; exact g53 r.1
      · rw [q, hal2] at r; simp at r
      · rcases n2 with n2 | n2
        · exact n2 q
        · rw [n2, he] at r; cases r
theorem live_list {X : XS} {t : Nat} (h : t < X.1) : live X t := Or.inl h
theorem live_reg {X : XS} {k : Nat} (hk : k < 16) (h : X.2.2.2 k ≠ none) : live X (100 + k) := Or.inr ⟨k, hk, rfl, h⟩
/-- the innermost list grows; a register may go -/
theorem ci_ext {G : zG} {e0 : Nat} {w w1 : zw} {d la ra : Nat} {P : List Nat} {t tot tot' : Nat} {VL : Nat → LV} {RG RG' : Nat → Option BX} {fl fr fr' : Nat → Option Nat} {LAt : Nat → LA} {bs : Nat → Nat × Nat} {V' : LV} {ar2 cap2 : Nat}
    (h : CIw G e0 w d la ra P (t + 1, tot, VL, RG) fl fr LAt bs) (hL : LL G e0 w1 ((LAt t).1, (LAt t).2.1, ar2, cap2) V') (har : ar2 = (LAt t).2.2.1 ∨ w ar2 = none) (hd : w1 d = some (.inr (5, [.ref la, .int (nI (t + 1)), .ref ra, .int (nI tot')]))) (hra : w1 ra = some (.inl (G.2 5, 16, .inr (.inr (.inr (.inr fr')))))) (hF : Fr [d, ra, (LAt t).2.1, (LAt t).2.2.1] w w1) (he : w1 e0 = none) (hR : ∀ k, k < 16 → (RG' k = RG k ∧ fr' k = fr k) ∨ (RG' k = none ∧ fr' k = none)) :
    CIw G e0 w1 d la ra P (t + 1, tot', va_up VL t V', RG') fl fr' (va_up LAt t ((LAt t).1, (LAt t).2.1, ar2, cap2)) bs := by
  obtain ⟨⟨h1, h2, h3, h4⟩, gd, gla, gra, gl, gr, gdi, gbi⟩ := h
  dsimp only at *
  have ht := gl t (by omega)
  obtain ⟨md, hal⟩ := ht.2.al
  have harr := ht.2.ar h2
  have lv : ∀ i, live (t + 1, tot', va_up VL t V', RG') i → live (t + 1, tot, VL, RG) i := by
    rintro i (q | ⟨k, q1, q2, q3⟩)
    · exact Or.inl q
    · refine Or.inr ⟨k, q1, q2, ?_⟩
      rcases hR k q1 with r | r
      · dsimp only at q3 ⊢; rw [r.1] at q3; exact q3
      · exact absurd r.1 q3
  have keepL : ∀ i V, live (t + 1, tot, VL, RG) i → i ≠ t → LL G e0 w (LAt i) V → LL G e0 w1 (LAt i) V := by
    intro i V hi hne hl
    obtain ⟨n1, n2⟩ := gdi i t hi (live_list (by dsimp only; omega)) hne
    exact LL.keep4 hl ht.2 h2 h4 gd gra hF n1 n2
  have ar2ne : ∀ i V, LL G e0 w (LAt i) V → w ar2 = none → (LAt i).2.2.1 = ar2 → (LAt i).2.2.1 = e0 := by
    intro i V hl hq q
    obtain ⟨-, -, md3, fa3, ha3, hr3, -⟩ := hl
    rcases hr3 with s | s
    · exact s.1
    · rw [q, hq] at s; cases s.1
  have llOf : ∀ i, live (t + 1, tot, VL, RG) i → ∃ V, LL G e0 w (LAt i) V := by
    rintro i (q | ⟨k, q1, q2, q3⟩)
    · exact ⟨_, (gl i q).2⟩
    · have := gr k q1
      cases hx : RG k with
      | none => exact absurd hx q3
      | some x => rw [hx] at this; rw [q2]; exact ⟨_, this.2.2.1⟩
  refine ⟨⟨h1, he, h3, h4⟩, hd, hF.keep gla (nin4 gd gra hal harr gla (by simp) (by simp) (by simp) (by simp [h3])), hra, fun s hs => ?_, fun k hk => ?_, ?_, ?_⟩
  · dsimp only at hs ⊢
    by_cases e : s = t
    · subst e
      rw [va_up_self, va_up_self]
      exact ⟨ht.1, hL⟩
    · rw [va_up_ne _ _ e, va_up_ne _ _ e]
      exact ⟨(gl s hs).1, keepL s _ (live_list hs) e (gl s hs).2⟩
  · have q := gr k hk
    dsimp only
    rcases hR k hk with ⟨r1, r2⟩ | ⟨r1, r2⟩
    · rw [r1]
      cases hx : RG k with
      | none =>
        rw [hx] at q
        show fr' k = none
        rw [r2]; exact q
      | some x =>
        rw [hx] at q
        obtain ⟨q1, q2, q3, ⟨fw4, q4, q4'⟩, q5⟩ := q
        have ne : 100 + k ≠ t := by omega
        refine ⟨by rw [r2]; exact q1, ?_, ?_, ⟨fw4, hF.keep q4 (nin4 gd gra hal harr q4 (by simp) (by simp) (by simp) (by simp)), q4'⟩, q5⟩
        · rw [va_up_ne _ _ ne]
          exact hF.keep q2 (nin4 gd gra hal harr q2 (by simp) (by simp) (by simp) (by simp))
        · rw [va_up_ne _ _ ne]
          exact keepL _ _ (live_reg hk (by dsimp only; rw [hx]; simp)) ne q3
    · rw [r1]; exact r2
  · intro i j hi hj hij
    have hi := lv i hi
    have hj := lv j hj
    obtain ⟨n1, n2⟩ := gdi i j hi hj hij
    by_cases ei : i = t
    · subst ei
      have ej : j ≠ i := fun q => hij q.symm
      rw [va_up_self, va_up_ne _ _ ej]
      dsimp only
      refine ⟨n1, ?_⟩
      rcases har with q | q
      · rw [q]; exact n2
      · obtain ⟨V, hV⟩ := llOf j hj
        by_cases r : (LAt j).2.2.1 = ar2
        · exact Or.inr (by rw [← r]; exact ar2ne j V hV q r)
        · exact Or.inl (fun s => r s.symm)
    · rw [va_up_ne _ _ ei]
      by_cases ej : j = t
      · subst ej
        rw [va_up_self]
        dsimp only
        refine ⟨n1, ?_⟩
        rcases har with q | q
        · rw [q]; exact n2
        · obtain ⟨V, hV⟩ := llOf i hi
          by_cases r : (LAt i).2.2.1 = ar2
          · exact Or.inr (ar2ne i V hV q r)
          · exact Or.inl r
      · rw [va_up_ne _ _ ej]
        exact ⟨n1, n2⟩
  · intro j k hj hk hjk rj rk
    dsimp only at rj rk
    refine gbi j k hj hk hjk ?_ ?_
    · rcases hR j hj with r | r
      · rw [r.1] at rj; exact rj
      · exact absurd r.1 rj
    · rcases hR k hk with r | r
      · rw [r.1] at rk; exact rk
      · exact absurd r.1 rk
