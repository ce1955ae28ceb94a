/-! open, count, size -/
theorem RA.set0 {G : zG} {w w1 : zw} {o : Nat} {A : Nat → Nat} {S S' : Nat → Int32} {L : Nat → Int64} {F : Nat → Nat → Int32} {M : Nat → Int64} {B V Z : Nat → Int32} {T : Nat → Int64} (h : RA G w o A S L F M B V Z T) (ho : w1 o = some (.inr (6, fR A S' L))) (hF : Fr [o] w w1) : RA G w1 o A S' L F M B V Z T := by
  obtain ⟨h0, ⟨a0, a1, a2, a3, a4, a5, a6, a7, a8⟩, a9, a10, a11, a12⟩ := h
  have n : ∀ {b : Nat} {c : ClassId × vp_A}, w b = some (.inl c) → b ∉ [o] := by
    intro b c hb q
    rw [List.mem_singleton.mp q, h0] at hb
    cases hb
  exact ⟨ho, ⟨hF.keep a0 (n a0), hF.keep a1 (n a1), hF.keep a2 (n a2), hF.keep a3 (n a3), hF.keep a4 (n a4), hF.keep a5 (n a5), hF.keep a6 (n a6), hF.keep a7 (n a7), hF.keep a8 (n a8)⟩, hF.keep a9 (n a9), hF.keep a10 (n a10), hF.keep a11 (n a11), hF.keep a12 (n a12)⟩
theorem sub_o {o : Nat} {A : Nat → Nat} : ∀ t ∈ [o], t ∈ allR o A := by
  intro t ht
  rw [List.mem_singleton.mp ht]
  simp
/-- the reference's state, its number of the exception set -/
theorem RI.set0 {G : zG} {w1 : zw} {o : Nat} {A : Nat → Nat} {X : XS} {S : Nat → Int32} {L : Nat → Int64} {F : Nat → Nat → Int32} {M : Nat → Int64} {B V Z : Nat → Int32} {T : Nat → Int64} {sz : Nat → Nat} {en : Nat} {x : Int32} (hr : RA G w1 o A (upd S 0 x) L F M B V Z T) (hrel : RelA X F M B V sz en) (h1 : S 1 = nI X.1) (h2 : S 2 = nI en) (hZ : ∀ k, k < 16 → Z k = nI (sz k)) : RI G w1 o A X :=
  ⟨_, L, F, M, B, V, Z, T, sz, en, hr, hrel, by rw [pk_un (by decide)]; exact h1, by rw [pk_un (by decide)]; exact h2, hZ⟩
theorem p_open (l : Launch) (G : zG) (n0 e0 : Nat) {w : zw} {d la ra o : Nat} {A : Nat → Nat} {P : List Nat} {c : Nat} {X : XS} (hA : ∀ i j, i < 13 → j < 13 → i ≠ j → A i ≠ A j) (hI : CI G e0 w d la ra P c X) (hRI : RI G w o A X) (vt : Bool) : Pair l G n0 e0 w d la ra o A P c X y_D_open b_D_open 2 y_R_open b_R_open 2 (Option.some FieldType.boolean) [.int (zi vt)] [.int (zi vt)] := by
  obtain ⟨on, tot, VL, RG⟩ := X
  have hI' := hI
  obtain ⟨hcn, fl, fr, LAt, bs, hW⟩ := hI
  have hW' := hW
  obtain ⟨⟨h1, h2, h3, h4⟩, gd, gla, gra, gl, gr, gdi, gbi⟩ := hW'
  dsimp only at h1 gd
  by_cases ho : on < 100
  · refine ⟨1, (on + 1, tot, va_up VL on (vt, 0, fun _ _ => 0), RG), (c_open l G n0 e0 w d la ra on tot fl vt gd gla ho).mono (by decide) (by decide) (by decide) (by decide) ?_, fun w1 hr1 => ?_⟩
    · rintro v w1 ⟨il, al, rfl, hil, hal, hL, hla, hd, hF⟩
      refine ⟨rfl, fun he => ⟨?_, _, fr, _, bs, ci_open hW ho hal hL hla hd hF he⟩, KeepR.of hF ?_⟩
      · unfold cnt at hcn ⊢
        dsimp only at hcn ⊢
        have : sumN (fun t => (va_up VL on (vt, 0, fun _ _ => 0) t).2.1) (on + 1) = sumN (fun t => (VL t).2.1) on := by
          show sumN (fun t => (va_up VL on (vt, 0, fun _ _ => 0) t).2.1) on + (va_up VL on (vt, 0, fun _ _ => 0) on).2.1 = _
          rw [va_up_self, sumN_ext (g' := fun t => (VL t).2.1) (fun i hi => by rw [va_up_ne _ _ (by omega)])]
          rfl
        omega
      · intro q hq
        simp only [List.mem_cons, List.not_mem_nil, or_false] at hq
        rcases hq with rfl | rfl
        · exact Or.inr ⟨_, gd, nref_inr (by decide)⟩
        · exact Or.inr ⟨_, gla, nref_inl⟩
    · obtain ⟨S, L, F, M, B, V, Z, T, sz, en, hr, hrel, hS1, hS2, hZ⟩ := hr1
      dsimp only at hS1
      have hr' := hr
      obtain ⟨k0, kR, k9, k10, k11, k12⟩ := hr'
      refine (r_open l G n0 e0 w1 o A S L k0 (fun i => match i with | 9 => B | 10 => V | i => F i) k9 k10 hA vt on ho hS1).mono (by decide) (by decide) (by decide) (by decide) ?_
      rintro v w2 ⟨rfl, q9, q10, q0, hF⟩
      have no : ∀ i, i < 13 → i ≠ 9 → i ≠ 10 → A i ≠ o → A i ∉ [o, A 9, A 10] := by
        intro i hi e9 e10 eo q
        simp only [List.mem_cons, List.not_mem_nil, or_false] at q
        rcases q with q | q | q
        · exact eo q
        · exact hA i 9 hi (by omega) e9 q
        · exact hA i 10 hi (by omega) e10 q
      have neo : ∀ {b : Nat} {c : ClassId × vp_A}, w1 b = some (.inl c) → b ≠ o := by
        intro b c hb q
        rw [q, k0] at hb; cases hb
      have hcells := hr.cells
      refine ⟨rfl, ⟨_, L, F, M, _, _, Z, T, sz, en, ⟨q0, kR.keepF hF (fun i hi => ?_), q9, q10, hF.keep k11 (no 11 (by omega) (by omega) (by omega) (neo k11)), hF.keep k12 (no 12 (by omega) (by omega) (by omega) (neo k12))⟩, ?_, ?_, ?_, hZ⟩, hF.sub ?_⟩
      · refine no i (by omega) (by omega) (by omega) ?_
        obtain ⟨a0, a1, a2, a3, a4, a5, a6, a7, a8⟩ := kR
        have : i = 0 ∨ i = 1 ∨ i = 2 ∨ i = 3 ∨ i = 4 ∨ i = 5 ∨ i = 6 ∨ i = 7 ∨ i = 8 := by omega
        rcases this with rfl | rfl | rfl | rfl | rfl | rfl | rfl | rfl | rfl
        · exact neo a0
        · exact neo a1
        · exact neo a2
        · exact neo a3
        · exact neo a4
        · exact neo a5
        · exact neo a6
        · exact neo a7
        · exact neo a8
      · have := rel_open hrel ho vt (fun _ _ => 0)
        rw [← hS2] at this
        exact this
      · rw [pk_us]
      · rw [pk_un (by decide), pk_un (by decide)]; exact hS2
      · intro t ht
        simp only [List.mem_cons, List.not_mem_nil, or_false] at ht
        rcases ht with rfl | rfl | rfl <;> simp
  · have e : on = 100 := by omega
    refine ⟨0, (on, tot, VL, RG), (c_open_no l G n0 e0 w d la ra on tot fl vt gd gla e).mono (by decide) (by decide) (by decide) (by decide) ?_, fun w1 hr1 => ?_⟩
    · rintro v w1 ⟨rfl, rfl⟩
      exact ⟨rfl, fun he => hI'.same Fr.rf he, KeepR.same Fr.rf⟩
    · obtain ⟨S, L, F, M, B, V, Z, T, sz, en, hr, hrel, hS1, hS2, hZ⟩ := hr1
      refine (r_open_no l G n0 e0 w1 o A S L hr.1 vt (by rw [hS1]; show nI on = 100; rw [e]; decide)).mono (by decide) (by decide) (by decide) (by decide) ?_
      rintro v w2 ⟨rfl, q0, hF⟩
      exact ⟨rfl, RI.set0 (hr.set0 q0 hF) hrel hS1 hS2 hZ, hF.sub sub_o⟩
theorem p_count (l : Launch) (G : zG) (n0 e0 : Nat) {w : zw} {d la ra o : Nat} {A : Nat → Nat} {P : List Nat} {c : Nat} {X : XS} (hI : CI G e0 w d la ra P c X) (what : Int32) : Pair l G n0 e0 w d la ra o A P c X y_D_count b_D_count 2 y_R_count b_R_count 2 (Option.some FieldType.int) [.int what] [.int what] := by
  obtain ⟨on, tot, VL, RG⟩ := X
  have hI' := hI
  obtain ⟨hcn, fl, fr, LAt, bs, ⟨h1, h2, h3, h4⟩, gd, gla, gra, gl, gr, gdi, gbi⟩ := hI
  dsimp only at h1 gd
  refine ⟨if what = 0 then nI on else if what = 1 then nI tot else (-1), (on, tot, VL, RG), (c_count l G n0 e0 w d la ra on tot what gd).mono (by decide) (by decide) (by decide) (by decide) ?_, fun w1 hr1 => ?_⟩
  · rintro v w1 ⟨rfl, rfl⟩
    exact ⟨rfl, fun he => hI'.same Fr.rf he, KeepR.same Fr.rf⟩
  · obtain ⟨S, L, F, M, B, V, Z, T, sz, en, hr, hrel, hS1, hS2, hZ⟩ := hr1
    refine (r_count l G n0 e0 w1 o A S L hr.1 Z hr.2.2.2.2.1 what).mono (by decide) (by decide) (by decide) (by decide) ?_
    rintro v w2 ⟨rfl, q0, hF⟩
    refine ⟨?_, RI.set0 (hr.set0 q0 hF) hrel hS1 hS2 hZ, hF.sub sub_o⟩
    have ht : tot = en + sumN sz 16 := hrel.2.1
    rw [hS1, hS2, sumI_nI hZ, nI_add, ← ht]
theorem regB_ex (kk : Int32) : regB kk = false ∨ ∃ k, k < 16 ∧ kk = nI k := by
  cases h : regB kk with
  | false => exact Or.inl rfl
  | true => exact Or.inr (regB_of h)
theorem RelA.sum {X : XS} {F : Nat → Nat → Int32} {M : Nat → Int64} {B Vv : Nat → Int32} {sz : Nat → Nat} {en : Nat} (h : RelA X F M B Vv sz en) : en + sumN sz 16 ≤ 4000 := by
  have := h.2.1
  have := h.2.2.1
  omega
theorem p_size (l : Launch) (G : zG) (n0 e0 : Nat) {w : zw} {d la ra o : Nat} {A : Nat → Nat} {P : List Nat} {c : Nat} {X : XS} (hA : ∀ i j, i < 13 → j < 13 → i ≠ j → A i ≠ A j) (hI : CI G e0 w d la ra P c X) (kk which x : Int32) : Pair l G n0 e0 w d la ra o A P c X y_D_size b_D_size 5 y_R_size b_R_size 5 (Option.some FieldType.boolean) [.int kk, .int which, .int x] [.int kk, .int which, .int x] := by
  obtain ⟨on, tot, VL, RG⟩ := X
  have hI' := hI
  obtain ⟨hcn, fl, fr, LAt, bs, hW⟩ := hI
  have hW' := hW
  obtain ⟨⟨h1, h2, h3, h4⟩, gd, gla, gra, gl, gr, gdi, gbi⟩ := hW'
  dsimp only at h1 gd gr
  rcases regB_ex kk with hk | ⟨k, hk, rfl⟩
  · refine ⟨0, (on, tot, VL, RG), (c_size_out l G n0 e0 w d la ra on tot fr gd gra kk which x hk).mono (by decide) (by decide) (by decide) (by decide) ?_, fun w1 hr1 => ?_⟩
    · rintro v w1 ⟨rfl, rfl⟩
      exact ⟨rfl, fun he => hI'.same Fr.rf he, KeepR.same Fr.rf⟩
    · obtain ⟨S, L, F, M, B, V, Z, T, sz, en, hr, hrel, hS1, hS2, hZ⟩ := hr1
      refine (r_size_out l G n0 e0 w1 o A S L hr.1 kk hk which x).mono (by decide) (by decide) (by decide) (by decide) ?_
      rintro v w2 ⟨rfl, q0, hF⟩
      exact ⟨rfl, RI.set0 (hr.set0 q0 hF) hrel hS1 hS2 hZ, hF.sub sub_o⟩
  · have hgr := gr k hk
    cases hx : RG k with
    | none =>
      rw [hx] at hgr
      refine ⟨0, (on, tot, VL, RG), (c_size_void l G n0 e0 w d la ra on tot fr gd gra k which x hk hgr).mono (by decide) (by decide) (by decide) (by decide) ?_, fun w1 hr1 => ?_⟩
      · rintro v w1 ⟨rfl, rfl⟩
        exact ⟨rfl, fun he => hI'.same Fr.rf he, KeepR.same Fr.rf⟩
      · obtain ⟨S, L, F, M, B, V, Z, T, sz, en, hr, hrel, hS1, hS2, hZ⟩ := hr1
        have hz := hrel.2.2.2.2 k hk
        dsimp only at hz
        rw [hx] at hz
        refine (r_size_void l G n0 e0 w1 o A S L hr.1 Z hr.2.2.2.2.1 sz hZ (by have := hrel.sum; omega) k hk hz which x).mono (by decide) (by decide) (by decide) (by decide) ?_
        rintro v w2 ⟨rfl, q0, hF⟩
        exact ⟨rfl, RI.set0 (hr.set0 q0 hF) hrel hS1 hS2 hZ, hF.sub sub_o⟩
    | some y =>
      obtain ⟨f, V2, fw⟩ := y
      rw [hx] at hgr
      obtain ⟨q1, q2, q3, q4, q5⟩ := hgr
      have CC := c_size_some l G n0 e0 w d la ra on tot fr gd gra (bs k).1 (LAt (100 + k)).1 (bs k).2 f q2 k which x hk q1
      have hql : ∀ q ∈ [(bs k).1], w q = none ∨ ∃ y, w q = some y ∧ ¬ refE y := by
        intro q hq
        rw [List.mem_singleton.mp hq]
        exact Or.inr ⟨_, q2, nref_inr (by decide)⟩
      refine ⟨zi (sizeB which x), (on, tot, VL, va_up RG k (some (if sizeB which x = true then sizeF f which x else f, V2, fw))), CC.mono (by decide) (by decide) (by decide) (by decide) ?_, fun w1 hr1 => ?_⟩
      · rintro v w1 ⟨rfl, hb, hF⟩
        refine ⟨rfl, fun he => ⟨?_, fl, fr, LAt, bs, ci_size (X := (on, tot, VL, RG)) hW hk hx hb hF he⟩, KeepR.of hF hql⟩
        have := cnt_reg (on := on) (tot := tot) (tot' := tot) (VL := VL) (RG := RG) (x := some (if sizeB which x = true then sizeF f which x else f, V2, fw)) hk
        rw [hx] at this
        have e1 : regN (some (f, V2, fw)) = V2.2.1 := rfl
        have e2 : regN (some (if sizeB which x = true then sizeF f which x else f, V2, fw)) = V2.2.1 := rfl
        omega
      · obtain ⟨S, L, F, M, B, V, Z, T, sz, en, hr, hrel, hS1, hS2, hZ⟩ := hr1
        have hz := hrel.2.2.2.2 k hk
        dsimp only at hz
        rw [hx] at hz
        have hz1 : 1 ≤ sz k := hz.1
        refine (r_size l G n0 e0 w1 o A S L hr.1 F M hr.2.1 hA Z hr.2.2.2.2.1 sz hZ (by have := hrel.sum; omega) k hk (by omega) which x).mono (by decide) (by decide) (by decide) (by decide) ?_
        rintro v w2 ⟨rfl, qR, q0, hF⟩
        refine ⟨rfl, RI.set0 (hr.ofAdd hA qR q0 hF) ?_ hS1 hS2 hZ, hF.sub sub_all⟩
        cases hb : sizeB which x with
        | true =>
          rw [if_pos rfl, if_pos rfl]
          exact rel_size hrel hk hx hb
        | false =>
          rw [if_neg (by decide), if_neg (by decide)]
          have e : va_up RG k (some (f, V2, fw)) = RG := by
            funext j
            by_cases ej : j = k
            · rw [ej, va_up_self, hx]
            · rw [va_up_ne _ _ ej]
          rw [e]
          exact hrel
