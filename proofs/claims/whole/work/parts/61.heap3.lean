theorem nin3 {w : zw} {d la ra b : Nat} {xd xl xr x : va_E} (hd : w d = some xd) (hla : w la = some xl) (hra : w ra = some xr) (hb : w b = some x) (h1 : x ≠ xd) (h2 : x ≠ xl) (h3 : x ≠ xr) : b ∉ [d, la, ra] := by
  intro q
  simp only [List.mem_cons, List.not_mem_nil, or_false] at q
  rcases q with rfl | rfl | rfl
  · rw [hb] at hd; cases hd; exact h1 rfl
  · rw [hb] at hla; cases hla; exact h2 rfl
  · rw [hb] at hra; cases hra; exact h3 rfl
theorem LL.keep3 {G : zG} {e0 : Nat} {w w1 : zw} {A : LA} {V : LV} {d la ra : Nat} {xd : List Value} {fl fr : Nat → Option Nat} (h : LL G e0 w A V) (he : w e0 = none) (g43 : ¬ G.2 4 = G.2 3) (g53 : ¬ G.2 5 = G.2 3) (hd : w d = some (.inr (5, xd))) (hla : w la = some (.inl (G.2 4, 100, .inr (.inr (.inr (.inr fl)))))) (hra : w ra = some (.inl (G.2 5, 16, .inr (.inr (.inr (.inr fr)))))) (hF : Fr [d, la, ra] w w1) : LL G e0 w1 A V := by
  obtain ⟨md, hal⟩ := h.al
  refine LL.keep h hF (nin3 hd hla hra h.1 (by simp) (by simp) (by simp)) (nin3 hd hla hra hal (by simp) (by simp) (by simp)) ?_ (fun t ht fs q => nin3 hd hla hra q (by simp) (by simp) (by simp) ht)
  rcases h.ar he with r | ⟨cap, fa, r⟩
  · exact Or.inr r
  · exact Or.inl (nin3 hd hla hra r (by simp) (by simp; exact fun q => absurd q.symm g43) (by simp; exact fun q => absurd q.symm g53))
theorem ci_open {G : zG} {e0 : Nat} {w w1 : zw} {d la ra : Nat} {P : List Nat} {on tot : Nat} {VL : Nat → LV} {RG : Nat → Option BX} {fl fr : Nat → Option Nat} {LAt : Nat → LA} {bs : Nat → Nat × Nat} {il al : Nat} {vt : Bool} {its : Nat → Nat → Int32}
    (h : CIw G e0 w d la ra P (on, tot, VL, RG) fl fr LAt bs) (ho : on < 100) (hal0 : w al = none) (hL : LL G e0 w1 (il, al, e0, 0) (vt, 0, its)) (hla : w1 la = some (.inl (G.2 4, 100, .inr (.inr (.inr (.inr (va_up fl on (some il)))))))) (hd : w1 d = some (.inr (5, [.ref la, .int (nI (on + 1)), .ref ra, .int (nI tot)]))) (hF : Fr [d, la] w w1) (he : w1 e0 = none) :
    CIw G e0 w1 d la ra P (on + 1, tot, va_up VL on (vt, 0, its), RG) (va_up fl on (some il)) fr (va_up LAt on (il, al, e0, 0)) bs := by
  obtain ⟨⟨h1, h2, h3, h4⟩, gd, gla, gra, gl, gr, gdi, gbi⟩ := h
  dsimp only at *
  have hF3 : Fr [d, la, ra] w w1 := hF.sub (fun t ht => by simp at ht ⊢; rcases ht with q | q <;> simp [q])
  have nin2 : ∀ {b : Nat} {x : va_E}, w b = some x → (∀ fs, x ≠ .inr (5, fs)) → (∀ f, x ≠ .inl (G.2 4, 100, .inr (.inr (.inr (.inr f))))) → b ∉ [d, la] := by
    intro b x hb a1 a2 q
    simp only [List.mem_cons, List.not_mem_nil, or_false] at q
    rcases q with rfl | rfl
    · rw [hb] at gd; cases gd; exact a1 _ rfl
    · rw [hb] at gla; cases gla; exact a2 _ rfl
  have llOf : ∀ i, live (on, tot, VL, RG) i → ∃ V, LL G e0 w (LAt i) V := by
    rintro i (q | ⟨k, q1, q2, q3⟩)
    · exact ⟨_, (gl i q).2⟩
    · have := gr k q1
      cases hx : RG k with
      | none => exact absurd hx q3
      | some x => rw [hx] at this; rw [q2]; exact ⟨_, this.2.2.1⟩
  have alne : ∀ i, live (on, tot, VL, RG) i → (LAt i).2.1 ≠ al := by
    intro i hi q
    obtain ⟨V, hV⟩ := llOf i hi
    obtain ⟨md, ha⟩ := hV.al
    rw [q, hal0] at ha; cases ha
  have lv : ∀ i, live (on + 1, tot, va_up VL on (vt, 0, its), RG) i → i ≠ on → live (on, tot, VL, RG) i := by
    rintro i (q | q) hne
    · exact Or.inl (by dsimp only at q ⊢; omega)
    · exact Or.inr q
  refine ⟨⟨by dsimp only; omega, he, h3, h4⟩, hd, hla, hF.keep gra (nin2 gra (by simp) (by simp)), fun s hs => ?_, fun k hk => ?_, ?_, gbi⟩
  · dsimp only at hs ⊢
    by_cases e : s = on
    · subst e
      rw [va_up_self, va_up_self, va_up_self]
      exact ⟨rfl, hL⟩
    · rw [va_up_ne _ _ e, va_up_ne _ _ e, va_up_ne _ _ e]
      have := gl s (by omega)
      exact ⟨this.1, this.2.keep3 h2 h3 h4 gd gla gra hF3⟩
  · have q := gr k hk
    dsimp only
    cases hx : RG k with
    | none => rw [hx] at q; exact q
    | some x =>
      rw [hx] at q
      obtain ⟨q1, q2, q3, ⟨fw4, q4, q4'⟩, q5⟩ := q
      have ne : 100 + k ≠ on := by omega
      refine ⟨q1, ?_, ?_, ⟨fw4, hF.keep q4 (nin2 q4 (by simp) (by simp)), q4'⟩, q5⟩
      · rw [va_up_ne _ _ ne]; exact hF.keep q2 (nin2 q2 (by simp) (by simp))
      · rw [va_up_ne _ _ ne]; exact q3.keep3 h2 h3 h4 gd gla gra hF3
  · intro i j hi hj hij
    by_cases ei : i = on
    · subst ei
      have ej : j ≠ i := fun q => hij q.symm
      rw [va_up_self, va_up_ne _ _ ej]
      exact ⟨fun q => alne j (lv j hj ej) q.symm, Or.inr rfl⟩
    · rw [va_up_ne _ _ ei]
      by_cases ej : j = on
      · subst ej
        rw [va_up_self]
        dsimp only
        exact ⟨alne i (lv i hi ei), by by_cases q : (LAt i).2.2.1 = e0; exact Or.inr q; exact Or.inl q⟩
      · rw [va_up_ne _ _ ej]
        exact gdi i j (lv i hi ei) (lv j hj ej) hij
theorem ci_size {G : zG} {e0 : Nat} {w w1 : zw} {d la ra : Nat} {P : List Nat} {X : XS} {fl fr : Nat → Option Nat} {LAt : Nat → LA} {bs : Nat → Nat × Nat} {k : Nat} {f f' : Nat → Int32} {V : LV} {fw : Nat → Int32}
    (h : CIw G e0 w d la ra P X fl fr LAt bs) (hk : k < 16) (hR : X.2.2.2 k = some (f, V, fw)) (hb : w1 (bs k).1 = some (.inr (4, fB (LAt (100 + k)).1 (bs k).2 f'))) (hF : Fr [(bs k).1] w w1) (he : w1 e0 = none) :
    CIw G e0 w1 d la ra P (X.1, X.2.1, X.2.2.1, va_up X.2.2.2 k (some (f', V, fw))) fl fr LAt bs := by
  obtain ⟨⟨h1, h2, h3, h4⟩, gd, gla, gra, gl, gr, gdi, gbi⟩ := h
  have hbk := gr k hk
  rw [hR] at hbk
  obtain ⟨r1, r2, r3, ⟨fw5, r4, r4'⟩, r5⟩ := hbk
  have nin1 : ∀ {b : Nat} {x : va_E}, w b = some x → (∀ fs, x ≠ .inr (4, fs)) → b ∉ [(bs k).1] := by
    intro b x hb a1 q
    simp only [List.mem_cons, List.not_mem_nil, or_false] at q
    rw [q, r2] at hb; cases hb; exact a1 _ rfl
  have keepL : ∀ {A : LA} {V : LV}, LL G e0 w A V → LL G e0 w1 A V := by
    intro A V hl
    obtain ⟨md, hal⟩ := hl.al
    refine LL.keep hl hF (nin1 hl.1 (by simp)) (nin1 hal (by simp)) ?_ (fun t ht fs q => nin1 q (by simp) ht)
    rcases hl.ar h2 with q | ⟨cap, fa, q⟩
    · exact Or.inr q
    · exact Or.inl (nin1 q (by simp))
  have lv : ∀ i, live (X.1, X.2.1, X.2.2.1, va_up X.2.2.2 k (some (f', V, fw))) i → live X i := by
    rintro i (q | ⟨j, q1, q2, q3⟩)
    · exact Or.inl q
    · refine Or.inr ⟨j, q1, q2, ?_⟩
      dsimp only at q3
      by_cases e : j = k
      · rw [e, hR]; simp
      · rw [va_up_ne _ _ e] at q3; exact q3
  refine ⟨⟨h1, he, h3, h4⟩, hF.keep gd (nin1 gd (by simp)), hF.keep gla (nin1 gla (by simp)), hF.keep gra (nin1 gra (by simp)), fun s hs => ⟨(gl s hs).1, keepL (gl s hs).2⟩, fun j hj => ?_, fun i j hi hj hij => gdi i j (lv i hi) (lv j hj) hij, fun i j hi hj hij ri rj => ?_⟩
  · dsimp only
    by_cases e : j = k
    · subst e
      rw [va_up_self]
      exact ⟨r1, hb, keepL r3, ⟨fw5, hF.keep r4 (nin1 r4 (by simp)), r4'⟩, r5⟩
    · rw [va_up_ne _ _ e]
      have q := gr j hj
      cases hx : X.2.2.2 j with
      | none => rw [hx] at q; exact q
      | some x =>
        rw [hx] at q
        obtain ⟨q1, q2, q3, ⟨fw4, q4, q4'⟩, q5⟩ := q
        refine ⟨q1, hF.keep q2 ?_, keepL q3, ⟨fw4, hF.keep q4 (nin1 q4 (by simp)), q4'⟩, q5⟩
        simp only [List.mem_cons, List.not_mem_nil, or_false]
        exact gbi j k hj hk e (by rw [hx]; simp) (by rw [hR]; simp)
  · have un : ∀ m, (va_up X.2.2.2 k (some (f', V, fw))) m ≠ none → X.2.2.2 m ≠ none := by
      intro m q
      by_cases e : m = k
      · rw [e, hR]; simp
      · rw [va_up_ne _ _ e] at q; exact q
    exact gbi i j hi hj hij (un i ri) (un j rj)
theorem ci_close {G : zG} {e0 : Nat} {w w1 : zw} {d la ra : Nat} {P : List Nat} {t tot tot' : Nat} {VL : Nat → LV} {RG : Nat → Option BX} {fl fr : Nat → Option Nat} {LAt : Nat → LA} {bs : Nat → Nat × Nat} {k b2 sw2 : Nat} {f fw fw' : Nat → Int32}
    (h : CIw G e0 w d la ra P (t + 1, tot, VL, RG) fl fr LAt bs) (hk : k < 16) (hfw : ∀ j, j < (VL t).2.1 → fw' j = fw j) (hb0 : w b2 = none) (hs0 : w sw2 = none) (hP : ∀ q ∈ P, w q ≠ none) (hs : w1 sw2 = some (.inl (G.2 0, (VL t).2.1, .inl fw'))) (hb : w1 b2 = some (.inr (4, fB (LAt t).1 sw2 f))) (hla : w1 la = some (.inl (G.2 4, 100, .inr (.inr (.inr (.inr (va_up fl t none))))))) (hra : w1 ra = some (.inl (G.2 5, 16, .inr (.inr (.inr (.inr (va_up fr k (some b2)))))))) (hd : w1 d = some (.inr (5, [.ref la, .int (nI t), .ref ra, .int (nI tot')]))) (hF : Fr [d, la, ra] w w1) (he : w1 e0 = none) :
    CIw G e0 w1 d la ra P (t, tot', VL, va_up RG k (some (f, VL t, fw))) (va_up fl t none) (va_up fr k (some b2)) (va_up LAt (100 + k) (LAt t)) (va_up bs k (b2, sw2)) := by
  obtain ⟨⟨h1, h2, h3, h4⟩, gd, gla, gra, gl, gr, gdi, gbi⟩ := h
  dsimp only at *
  have keepL : ∀ {A : LA} {V : LV}, LL G e0 w A V → LL G e0 w1 A V := fun hl => hl.keep3 h2 h3 h4 gd gla gra hF
  have lv : ∀ i, live (t, tot', VL, va_up RG k (some (f, VL t, fw))) i → i ≠ 100 + k → live (t + 1, tot, VL, RG) i ∧ i ≠ t := by
    rintro i (q | ⟨j, q1, q2, q3⟩) hne
    · exact ⟨Or.inl (by dsimp only at q ⊢; omega), by dsimp only at q; omega⟩
    · dsimp only at q3
      have e : j ≠ k := fun e => hne (by omega)
      rw [va_up_ne _ _ e] at q3
      exact ⟨Or.inr ⟨j, q1, q2, q3⟩, by omega⟩
  have lt : live (t + 1, tot, VL, RG) t := live_list (by dsimp only; omega)
  refine ⟨⟨by dsimp only; omega, he, h3, h4⟩, hd, hla, hra, fun s hs => ?_, fun j hj => ?_, fun i j hi hj hij => ?_, fun i j hi hj hij ri rj => ?_⟩
  · dsimp only at hs ⊢
    rw [va_up_ne _ _ (by omega : s ≠ t), va_up_ne _ _ (by omega : s ≠ 100 + k)]
    have := gl s (by omega)
    exact ⟨this.1, keepL this.2⟩
  · dsimp only
    by_cases e : j = k
    · subst e
      rw [va_up_self]
      refine ⟨by rw [va_up_self, va_up_self], ?_, ?_, ?_, ?_⟩
      · rw [va_up_self, va_up_self]; exact hb
      · rw [va_up_self]; exact keepL (gl t (by omega)).2
      · rw [va_up_self]; exact ⟨fw', hs, hfw⟩
      · rw [va_up_self]; exact fun q => hP _ q hs0
    · rw [va_up_ne _ _ e]
      have q := gr j hj
      cases hx : RG j with
      | none =>
        rw [hx] at q
        show va_up fr k (some b2) j = none
        rw [va_up_ne _ _ e]; exact q
      | some x =>
        rw [hx] at q
        obtain ⟨q1, q2, q3, ⟨fw4, q4, q4'⟩, q5⟩ := q
        have ne : 100 + j ≠ 100 + k := by omega
        refine ⟨?_, ?_, ?_, ?_, ?_⟩
        · rw [va_up_ne _ _ e, va_up_ne _ _ e]; exact q1
        · rw [va_up_ne _ _ e, va_up_ne _ _ ne]; exact hF.keep q2 (nin3 gd gla gra q2 (by simp) (by simp) (by simp))
        · rw [va_up_ne _ _ ne]; exact keepL q3
        · rw [va_up_ne _ _ e]; exact ⟨fw4, hF.keep q4 (nin3 gd gla gra q4 (by simp) (by simp) (by simp)), q4'⟩
        · rw [va_up_ne _ _ e]; exact q5
  · by_cases ei : i = 100 + k
    · subst ei
      have ej : j ≠ 100 + k := fun q => hij q.symm
      obtain ⟨l1, l2⟩ := lv j hj ej
      rw [va_up_self, va_up_ne _ _ ej]
      exact gdi t j lt l1 (fun q => l2 q.symm)
    · obtain ⟨l1, l2⟩ := lv i hi ei
      rw [va_up_ne _ _ ei]
      by_cases ej : j = 100 + k
      · subst ej
        rw [va_up_self]
        exact gdi i t l1 lt l2
      · rw [va_up_ne _ _ ej]
        exact gdi i j l1 (lv j hj ej).1 hij
  · dsimp only at ri rj
    have old : ∀ m, m < 16 → m ≠ k → (va_up RG k (some (f, VL t, fw))) m ≠ none → RG m ≠ none ∧ w (bs m).1 ≠ none := by
      intro m hm e q
      rw [va_up_ne _ _ e] at q
      refine ⟨q, ?_⟩
      have := gr m hm
      cases hx : RG m with
      | none => exact absurd hx q
      | some x => rw [hx] at this; rw [this.2.1]; simp
    by_cases ei : i = k
    · subst ei
      have ej : j ≠ i := fun q => hij q.symm
      rw [va_up_self, va_up_ne _ _ ej]
      intro q
      exact (old j hj ej rj).2 (by rw [← q]; exact hb0)
    · rw [va_up_ne _ _ ei]
      by_cases ej : j = k
      · subst ej
        rw [va_up_self]
        intro q
        exact (old i hi ei ri).2 (by rw [q]; exact hb0)
      · rw [va_up_ne _ _ ej]
        exact gbi i j hi hj hij (old i hi ei ri).1 (old j hj ej rj).1
