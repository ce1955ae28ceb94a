/-! what the class holds on the heap -/
def regN : Option BX → Nat
  | none => 0
  | some x => x.2.1.2.1
def cnt (X : XS) : Nat := sumN (fun t => (X.2.2.1 t).2.1) X.1 + sumN (fun k => regN (X.2.2.2 k)) 16
def live (X : XS) (i : Nat) : Prop := i < X.1 ∨ ∃ k, k < 16 ∧ i = 100 + k ∧ X.2.2.2 k ≠ none
def RSC (G : zG) (e0 : Nat) (w : zw) (P : List Nat) (fr : Nat → Option Nat) (LAt : Nat → LA) (bs : Nat → Nat × Nat) (k : Nat) : Option BX → Prop
  | none => fr k = none
  | some x => fr k = some (bs k).1 ∧ w (bs k).1 = some (.inr (4, fB (LAt (100 + k)).1 (bs k).2 x.1)) ∧ LL G e0 w (LAt (100 + k)) x.2.1 ∧ (∃ fw, w (bs k).2 = some (.inl (G.2 0, x.2.1.2.1, .inl fw)) ∧ ∀ j, j < x.2.1.2.1 → fw j = x.2.2 j) ∧ (bs k).2 ∉ P
def CIw (G : zG) (e0 : Nat) (w : zw) (d la ra : Nat) (P : List Nat) (X : XS) (fl fr : Nat → Option Nat) (LAt : Nat → LA) (bs : Nat → Nat × Nat) : Prop :=
  (X.1 ≤ 100 ∧ w e0 = none ∧ ¬ G.2 4 = G.2 3 ∧ ¬ G.2 5 = G.2 3) ∧ w d = some (.inr (5, [.ref la, .int (nI X.1), .ref ra, .int (nI X.2.1)])) ∧ w la = some (.inl (G.2 4, 100, .inr (.inr (.inr (.inr fl))))) ∧ w ra = some (.inl (G.2 5, 16, .inr (.inr (.inr (.inr fr)))))
  ∧ (∀ t, t < X.1 → fl t = some (LAt t).1 ∧ LL G e0 w (LAt t) (X.2.2.1 t)) ∧ (∀ k, k < 16 → RSC G e0 w P fr LAt bs k (X.2.2.2 k))
  ∧ (∀ i j, live X i → live X j → i ≠ j → (LAt i).2.1 ≠ (LAt j).2.1 ∧ ((LAt i).2.2.1 ≠ (LAt j).2.2.1 ∨ (LAt i).2.2.1 = e0)) ∧ ∀ j k, j < 16 → k < 16 → j ≠ k → X.2.2.2 j ≠ none → X.2.2.2 k ≠ none → (bs j).1 ≠ (bs k).1
def CI (G : zG) (e0 : Nat) (w : zw) (d la ra : Nat) (P : List Nat) (c : Nat) (X : XS) : Prop := cnt X ≤ c ∧ ∃ fl fr LAt bs, CIw G e0 w d la ra P X fl fr LAt bs
/-- cells of the reference -/
def refE (y : va_E) : Prop := (∃ fs, y = .inr (6, fs)) ∨ (∃ c n f, y = .inl (c, n, .inl f)) ∨ ∃ c n f, y = .inl (c, n, .inr (.inl f))
theorem RA.cells {G : zG} {w : zw} {o : Nat} {A : Nat → Nat} {S : Nat → Int32} {L : Nat → Int64} {F : Nat → Nat → Int32} {M : Nat → Int64} {B V Z : Nat → Int32} {T : Nat → Int64} (h : RA G w o A S L F M B V Z T) : ∀ t ∈ allR o A, ∃ y, w t = some y ∧ refE y := by
  obtain ⟨h0, ⟨a0, a1, a2, a3, a4, a5, a6, a7, a8⟩, a9, a10, a11, a12⟩ := h
  intro t ht
  simp only [List.mem_cons, List.not_mem_nil, or_false] at ht
  rcases ht with rfl | rfl | rfl | rfl | rfl | rfl | rfl | rfl | rfl | rfl | rfl | rfl | rfl | rfl
  · exact ⟨_, h0, Or.inl ⟨_, rfl⟩⟩
  · exact ⟨_, a0, Or.inr (Or.inl ⟨_, _, _, rfl⟩)⟩
  · exact ⟨_, a1, Or.inr (Or.inl ⟨_, _, _, rfl⟩)⟩
  · exact ⟨_, a2, Or.inr (Or.inl ⟨_, _, _, rfl⟩)⟩
  · exact ⟨_, a3, Or.inr (Or.inl ⟨_, _, _, rfl⟩)⟩
  · exact ⟨_, a4, Or.inr (Or.inl ⟨_, _, _, rfl⟩)⟩
  · exact ⟨_, a5, Or.inr (Or.inl ⟨_, _, _, rfl⟩)⟩
  · exact ⟨_, a6, Or.inr (Or.inl ⟨_, _, _, rfl⟩)⟩
  · exact ⟨_, a7, Or.inr (Or.inr ⟨_, _, _, rfl⟩)⟩
  · exact ⟨_, a8, Or.inr (Or.inl ⟨_, _, _, rfl⟩)⟩
  · exact ⟨_, a9, Or.inr (Or.inl ⟨_, _, _, rfl⟩)⟩
  · exact ⟨_, a10, Or.inr (Or.inl ⟨_, _, _, rfl⟩)⟩
  · exact ⟨_, a11, Or.inr (Or.inl ⟨_, _, _, rfl⟩)⟩
  · exact ⟨_, a12, Or.inr (Or.inr ⟨_, _, _, rfl⟩)⟩
theorem RA.keepC {G : zG} {w w1 : zw} {o : Nat} {A : Nat → Nat} {S : Nat → Int32} {L : Nat → Int64} {F : Nat → Nat → Int32} {M : Nat → Int64} {B V Z : Nat → Int32} {T : Nat → Int64} (h : RA G w o A S L F M B V Z T) {Q : List Nat} (hF : Fr Q w w1) (hQ : ∀ t ∈ Q, w t = none ∨ ∃ y, w t = some y ∧ ¬ refE y) : RA G w1 o A S L F M B V Z T := by
  have hc := h.cells
  have hn : ∀ t ∈ allR o A, t ∉ Q := by
    intro t ht hq
    obtain ⟨y, h1, h2⟩ := hc t ht
    rcases hQ t hq with q | ⟨z, q1, q2⟩
    · rw [h1] at q; cases q
    · rw [h1] at q1; cases q1; exact q2 h2
  obtain ⟨h0, ⟨a0, a1, a2, a3, a4, a5, a6, a7, a8⟩, a9, a10, a11, a12⟩ := h
  exact ⟨hF.keep h0 (hn _ (by simp)), ⟨hF.keep a0 (hn _ (by simp)), hF.keep a1 (hn _ (by simp)), hF.keep a2 (hn _ (by simp)), hF.keep a3 (hn _ (by simp)), hF.keep a4 (hn _ (by simp)), hF.keep a5 (hn _ (by simp)), hF.keep a6 (hn _ (by simp)), hF.keep a7 (hn _ (by simp)), hF.keep a8 (hn _ (by simp))⟩, hF.keep a9 (hn _ (by simp)), hF.keep a10 (hn _ (by simp)), hF.keep a11 (hn _ (by simp)), hF.keep a12 (hn _ (by simp))⟩
theorem nref_inr {k : Nat} {fs : List Value} (h : k ≠ 6) : ¬ refE (.inr (k, fs)) := by
  rintro (⟨fs, q⟩ | ⟨c, n, f, q⟩ | ⟨c, n, f, q⟩)
  · simp at q; exact h q.1
  · simp at q
  · simp at q
theorem nref_inl {c : ClassId} {n : Nat} {f : Nat → Option Nat} : ¬ refE (.inl (c, n, .inr (.inr (.inr (.inr f))))) := by
  rintro (⟨fs, q⟩ | ⟨c, n, f, q⟩ | ⟨c, n, f, q⟩) <;> simp at q
theorem LL.ar {G : zG} {e0 : Nat} {w : zw} {A : LA} {V : LV} (h : LL G e0 w A V) (he : w e0 = none) : w A.2.2.1 = none ∨ ∃ cap fa, w A.2.2.1 = some (.inl (G.2 3, cap, .inr (.inr (.inr (.inr fa))))) := by
  obtain ⟨-, -, md, fa, -, hr, -⟩ := h
  rcases hr with ⟨q, -⟩ | ⟨q, -⟩
  · exact Or.inl (by rw [q]; exact he)
  · exact Or.inr ⟨_, _, q⟩
theorem LL.keepRef {G : zG} {e0 : Nat} {w w1 : zw} {A : LA} {V : LV} {S : List Nat} (h : LL G e0 w A V) (hF : Fr S w w1) (hS : ∀ t ∈ S, ∃ y, w t = some y ∧ refE y) (he : w e0 = none) : LL G e0 w1 A V := by
  have hn : ∀ {b : Nat} {x : va_E}, w b = some x → ¬ refE x → b ∉ S := by
    intro b x hb hx hq
    obtain ⟨y, h1, h2⟩ := hS b hq
    rw [hb] at h1; cases h1; exact hx h2
  have h' := h
  obtain ⟨hi, -, md, fa, ha, hr, -⟩ := h'
  refine LL.keep h hF (hn hi (nref_inr (by decide))) (hn ha (nref_inr (by decide))) ?_ (fun t ht fs q => ?_)
  · rcases h.ar he with q | ⟨cap, fa, q⟩
    · exact Or.inr q
    · exact Or.inl (hn q nref_inl)
  · exact hn q (nref_inr (by decide)) ht
theorem CI.keepR {G : zG} {e0 : Nat} {w w1 : zw} {d la ra : Nat} {P : List Nat} {c : Nat} {X : XS} (h : CI G e0 w d la ra P c X) (hF : Fr P w w1) (hS : ∀ t ∈ P, ∃ y, w t = some y ∧ refE y) (he : w1 e0 = none) : CI G e0 w1 d la ra P c X := by
  obtain ⟨hc, fl, fr, LAt, bs, ⟨h1, h2, h3, h4⟩, hd, hla, hra, hl, hr, hdi, hbi⟩ := h
  have hn : ∀ {b : Nat} {x : va_E}, w b = some x → ¬ refE x → b ∉ P := by
    intro b x hb hx hq
    obtain ⟨y, h1, h2⟩ := hS b hq
    rw [hb] at h1; cases h1; exact hx h2
  refine ⟨hc, fl, fr, LAt, bs, ⟨h1, he, h3, h4⟩, hF.keep hd (hn hd (nref_inr (by decide))), hF.keep hla (hn hla nref_inl), hF.keep hra (hn hra nref_inl), fun t ht => ⟨(hl t ht).1, (hl t ht).2.keepRef hF hS h2⟩, fun k hk => ?_, hdi, hbi⟩
  have q := hr k hk
  cases hx : X.2.2.2 k with
  | none => rw [hx] at q; exact q
  | some x =>
    rw [hx] at q
    obtain ⟨q1, q2, q3, ⟨fw4, q4, q4'⟩, q5⟩ := q
    exact ⟨q1, hF.keep q2 (hn q2 (nref_inr (by decide))), q3.keepRef hF hS h2, ⟨fw4, hF.keep q4 q5, q4'⟩, q5⟩
