/-! about, item, close: both sides, and what is thrown -/
def RIt (G : zG) (w : zw) (o : Nat) (A : Nat → Nat) (X : XS) (j : Int32) : Prop := ∃ (S : Nat → Int32) (L : Nat → Int64) (F : Nat → Nat → Int32) (M : Nat → Int64) (B V Z : Nat → Int32) (T : Nat → Int64) (sz : Nat → Nat) (en : Nat), S 0 = j ∧ RA G w o A S L F M B V Z T ∧ RelA X F M B V sz en ∧ S 1 = nI X.1 ∧ S 2 = nI en ∧ ∀ k, k < 16 → Z k = nI (sz k)
theorem RIt.ri {G : zG} {w : zw} {o : Nat} {A : Nat → Nat} {X : XS} {j : Int32} (h : RIt G w o A X j) : RI G w o A X := by
  obtain ⟨S, L, F, M, B, V, Z, T, sz, en, -, h⟩ := h
  exact ⟨S, L, F, M, B, V, Z, T, sz, en, h⟩
theorem RIt.set0 {G : zG} {w1 : zw} {o : Nat} {A : Nat → Nat} {X : XS} {S : Nat → Int32} {L : Nat → Int64} {F : Nat → Nat → Int32} {M : Nat → Int64} {B V Z : Nat → Int32} {T : Nat → Int64} {sz : Nat → Nat} {en : Nat} {x : Int32} (hr : RA G w1 o A (upd S 0 x) L F M B V Z T) (hrel : RelA X F M B V sz en) (h1 : S 1 = nI X.1) (h2 : S 2 = nI en) (hZ : ∀ k, k < 16 → Z k = nI (sz k)) : RIt G w1 o A X x :=
  ⟨_, L, F, M, B, V, Z, T, sz, en, pk_us, hr, hrel, by rw [pk_un (by decide)]; exact h1, by rw [pk_un (by decide)]; exact h2, hZ⟩
def PairT (l : Launch) (G : zG) (n0 e0 : Nat) (w : zw) (d la ra o : Nat) (A : Nat → Nat) (P : List Nat) (c : Nat) (X : XS) (cs : List (String × Int32)) (yC : MethodName) (bC : ByteArray) (nC : Nat) (yR : MethodName) (bR : ByteArray) (nR : Nat) (aC aR : List Value) : Prop :=
  (∃ N j, (N, j) ∈ cs ∧ CtT l G n0 e0 yC bC nC (Option.some FieldType.int) rmC (.ref d :: aC) w (fun _ _ => False) (fun N' w1 => N' = N ∧ (w1 e0 = none → CI G e0 w1 d la ra P (c + 1) X) ∧ KeepR w w1) ∧ ∀ w1, RI G w1 o A X → Ct l G n0 e0 yR bR nR (Option.some FieldType.int) rmR (.ref o :: aR) w1 (fun v w2 => (∃ b, v = some (.int b)) ∧ RIt G w2 o A X j ∧ Fr (allR o A) w1 w2))
  ∨ ∃ (r : Int32) (X' : XS), CtT l G n0 e0 yC bC nC (Option.some FieldType.int) rmC (.ref d :: aC) w (fun v w1 => v = some (.int r) ∧ (w1 e0 = none → CI G e0 w1 d la ra P (c + 1) X') ∧ KeepR w w1) (fun _ _ => False) ∧ ∀ w1, RI G w1 o A X → Ct l G n0 e0 yR bR nR (Option.some FieldType.int) rmR (.ref o :: aR) w1 (fun v w2 => v = some (.int r) ∧ RIt G w2 o A X' 0 ∧ Fr (allR o A) w1 w2)
theorem what_6 {what : Int32} (h : whatB what = true) : what = 0 ∨ what = 1 ∨ what = 2 ∨ what = 3 ∨ what = 4 ∨ what = 5 := by
  simp only [whatB, Bool.and_eq_true, Bool.not_eq_true', decide_eq_false_iff_not] at h
  obtain ⟨j, hj, rfl⟩ := nI_of h.1
  have : ¬ 5 < j := by
    intro q
    apply h.2
    rw [show (5 : Int32) = nI 5 from by decide]
    exact nI_lt q hj
  have : j = 0 ∨ j = 1 ∨ j = 2 ∨ j = 3 ∨ j = 4 ∨ j = 5 := by omega
  rcases this with rfl | rfl | rfl | rfl | rfl | rfl <;> decide
theorem about_eq {F : Nat → Nat → Int32} {M : Nat → Int64} {p s : Nat} {f : Nat → Int32} {V : LV} {fw : Nat → Int32} (h : Reg F M p s f V fw) (what : Int32) : aboutR F p (nI V.2.1) (nI s - 1) what = tellB V.1 (nI V.2.1) f what := by
  obtain ⟨h1, h2, h3, k0, k1, k2, k3, -⟩ := h
  unfold aboutR tellB
  have e : nI s - 1 = f 0 := by
    rw [h3]
    obtain ⟨s', rfl⟩ : ∃ s', s = s' + 1 := ⟨s - 1, by omega⟩
    rw [nI_pred]; rfl
  have e0 : F 0 p - 1 = if V.1 = true then 2 else 1 := by
    rw [k0]
    split <;> decide
  rw [e, e0, k1, k2, k3]
theorem tell_4 (f : Nat → Int32) : tellI f 4 = if f 0 = 5 then f 6 else f 9 := rfl
theorem tell_5 (f : Nat → Int32) : tellI f 5 = f 8 := rfl
theorem item_eq {vt : Bool} {F : Nat → Nat → Int32} {M : Nat → Int64} {p q : Nat} {f : Nat → Int32} {x : Int32} (h : Blk vt F p q f) (hx : f 0 = 5 → clampR ((F 1 p).toInt64 + M p) = x) {what : Int32} (hw : whatB what = true) : itemR F M p what = itemC f x what := by
  obtain ⟨ok, -, -, ⟨r0, r1, r2, r3, r4, r5⟩, -⟩ := h
  obtain ⟨-, -, -, -, -, k5, k9, k2, k4, -⟩ := ok
  unfold itemR itemC
  rw [r0]
  by_cases e5 : f 0 = 5
  · have z4 := k4 (by rw [e5]; decide)
    obtain ⟨z2, z3⟩ := k2 (by rw [e5]; decide)
    obtain ⟨s4, s5, s6⟩ := r5 e5
    rcases what_6 hw with q | q | q | q | q | q <;> subst q
    · rw [if_pos rfl, if_neg (fun q => absurd q.2 (by decide))]; rfl
    · rw [if_neg (by decide), if_pos e5, if_pos rfl, if_pos ⟨e5, rfl⟩]; exact hx e5
    · rw [if_neg (by decide), if_pos e5, if_neg (by decide), if_neg (by decide), if_neg (by decide), if_neg (fun q => absurd q.2 (by decide)), tell_2, z4, if_neg (by decide), z2]
    · rw [if_neg (by decide), if_pos e5, if_neg (by decide), if_neg (by decide), if_neg (by decide), if_neg (fun q => absurd q.2 (by decide)), tell_3, z4, if_neg (by decide), z3]
    · rw [if_neg (by decide), if_pos e5, if_neg (by decide), if_pos rfl, if_neg (fun q => absurd q.2 (by decide)), tell_4, if_pos e5, s4]
    · rw [if_neg (by decide), if_pos e5, if_neg (by decide), if_neg (by decide), if_pos rfl, if_neg (fun q => absurd q.2 (by decide)), tell_5, s6]
  · rw [if_neg (fun q : f 0 = 5 ∧ what = 1 => e5 q.1)]
    rcases what_6 hw with q | q | q | q | q | q <;> subst q
    · rw [if_pos rfl]; rfl
    · rw [if_neg (by decide), if_neg e5, if_pos rfl, r1]
    · rw [if_neg (by decide), if_neg e5, if_neg (by decide), if_pos rfl, r2]
    · rw [if_neg (by decide), if_neg e5, if_neg (by decide), if_neg (by decide), if_pos rfl, r3]
    · rw [if_neg (by decide), if_neg e5, if_neg (by decide), if_neg (by decide), if_neg (by decide), tell_4, if_neg e5]
      by_cases hb : f 0 = 2 ∨ f 0 = 3
      · rw [if_pos ⟨rfl, hb⟩, r4 hb]
      · rw [if_neg (fun q => hb q.2), k9 hb]
    · rw [if_neg (by decide), if_neg e5, if_neg (by decide), if_neg (by decide), if_neg (by decide), if_neg (fun q => absurd q.1 (by decide)), tell_5, (k5 e5).2.2]
theorem p_about (l : Launch) (hTr : l.stackTraces = false) (G : zG) (n0 e0 : Nat) {w : zw} {d la ra o : Nat} {A : Nat → Nat} {P : List Nat} {c : Nat} {X : XS} (hA : ∀ i j, i < 13 → j < 13 → i ≠ j → A i ≠ A j) (hI : CI G e0 w d la ra P c X) (kk what : Int32) : PairT l G n0 e0 w d la ra o A P c X [(nIOB, 1)] y_D_about b_D_about 4 y_R_about b_R_about 4 [.int kk, .int what] [.int kk, .int what] := by
  obtain ⟨on, tot, VL, RG⟩ := X
  have hI' := hI
  obtain ⟨hcn, fl, fr, LAt, bs, hW⟩ := hI
  obtain ⟨⟨h1, h2, h3, h4⟩, gd, gla, gra, gl, gr, gdi, gbi⟩ := hW
  dsimp only at h1 gd gl gr
  cases hbad : (regB kk && whatB what) with
  | false =>
    refine Or.inl ⟨nIOB, 1, List.mem_singleton.mpr rfl, (c_about_bad l hTr G n0 e0 w d la ra on tot fr gd gra kk what hbad).mono (by decide) (by decide) (by decide) (by decide) (fun _ _ h => h) ?_, fun w1 hr1 => ?_⟩
    · rintro N w1 ⟨rfl, rfl⟩
      exact ⟨rfl, fun he => hI'.same Fr.rf he, KeepR.same Fr.rf⟩
    · obtain ⟨S, L, F, M, B, V, Z, T, sz, en, hr, hrel, hS1, hS2, hZ⟩ := hr1
      refine (r_about_bad l G n0 e0 w1 o A S L hr.1 kk what hbad).mono (by decide) (by decide) (by decide) (by decide) ?_
      rintro v w2 ⟨rfl, q0, hF⟩
      exact ⟨⟨_, rfl⟩, RIt.set0 (hr.set0 q0 hF) hrel hS1 hS2 hZ, hF.sub sub_o⟩
  | true =>
    rw [Bool.and_eq_true] at hbad
    obtain ⟨k, hk, rfl⟩ := regB_of hbad.1
    have hgr := gr k hk
    cases hx : RG k with
    | none =>
      rw [hx] at hgr
      refine Or.inr ⟨0, (on, tot, VL, RG), (c_about_void l hTr G n0 e0 w d la ra on tot fr gd gra k hk hgr what hbad.2).mono (by decide) (by decide) (by decide) (by decide) ?_ (fun _ _ h => h), fun w1 hr1 => ?_⟩
      · rintro v w1 ⟨rfl, rfl⟩
        exact ⟨rfl, fun he => hI'.same Fr.rf he, KeepR.same Fr.rf⟩
      · obtain ⟨S, L, F, M, B, V, Z, T, sz, en, hr, hrel, hS1, hS2, hZ⟩ := hr1
        have hz := hrel.2.2.2.2 k hk
        dsimp only at hz
        rw [hx] at hz
        refine (r_about_void l G n0 e0 w1 o A S L hr.1 Z hr.2.2.2.2.1 sz hZ (by have := hrel.sum; omega) k hk hz what hbad.2).mono (by decide) (by decide) (by decide) (by decide) ?_
        rintro v w2 ⟨rfl, q0, hF⟩
        exact ⟨rfl, RIt.set0 (hr.set0 q0 hF) hrel hS1 hS2 hZ, hF.sub sub_o⟩
    | some y =>
      obtain ⟨f, V2, fw⟩ := y
      rw [hx] at hgr
      obtain ⟨q1, q2, q3, q4, q5⟩ := hgr
      refine Or.inr ⟨tellB V2.1 (nI V2.2.1) f what, (on, tot, VL, RG), (c_about l hTr G n0 e0 w d la ra on tot fr gd gra k hk (bs k).1 (LAt (100 + k)).1 (bs k).2 (LAt (100 + k)).2.1 (LAt (100 + k)).2.2.1 (LAt (100 + k)).2.2.2 f V2 q1 q2 q3 what hbad.2).mono (by decide) (by decide) (by decide) (by decide) ?_ (fun _ _ h => h), fun w1 hr1 => ?_⟩
      · rintro v w1 ⟨rfl, rfl⟩
        exact ⟨rfl, fun he => hI'.same Fr.rf he, KeepR.same Fr.rf⟩
      · obtain ⟨S, L, F, M, B, V, Z, T, sz, en, hr, hrel, hS1, hS2, hZ⟩ := hr1
        have hz := hrel.2.2.2.2 k hk
        dsimp only at hz
        rw [hx] at hz
        have hz : Reg F M (stN sz k) (sz k) f V2 fw := hz
        have hz' := hz
        obtain ⟨z1, z2, z3, z4, z5, z6, z7, z8, z9, z10, ps, p1, p2, p3, p4⟩ := hz'
        refine (r_about l G n0 e0 w1 o A S L hr.1 F M hr.2.1 hA Z hr.2.2.2.2.1 sz hZ (by have := hrel.sum; omega) k hk (by omega) ps V2.2.1 p3.sp (by omega) (by omega) (by rw [z8]; congr 1; omega) what hbad.2).mono (by decide) (by decide) (by decide) (by decide) ?_
        rintro v w2 ⟨rfl, q0, hF⟩
        refine ⟨?_, RIt.set0 (hr.set0 q0 hF) hrel hS1 hS2 hZ, hF.sub sub_o⟩
        rw [about_eq hz]
theorem p_item (l : Launch) (hTr : l.stackTraces = false) (G : zG) (n0 e0 : Nat) {w : zw} {d la ra o : Nat} {A : Nat → Nat} {P : List Nat} {c : Nat} {X : XS} (hA : ∀ i j, i < 13 → j < 13 → i ≠ j → A i ≠ A j) (hI : CI G e0 w d la ra P c X) (hc : c ≤ 512) (kk ii what : Int32) : PairT l G n0 e0 w d la ra o A P c X [(nIOB, 1)] y_D_item b_D_item 7 y_R_item b_R_item 8 [.int kk, .int ii, .int what] [.int kk, .int ii, .int what] := by
  obtain ⟨on, tot, VL, RG⟩ := X
  have hI' := hI
  obtain ⟨hcn, fl, fr, LAt, bs, hW⟩ := hI
  obtain ⟨⟨h1, h2, h3, h4⟩, gd, gla, gra, gl, gr, gdi, gbi⟩ := hW
  dsimp only at h1 gd gl gr
  have no : CtT l G n0 e0 y_D_item b_D_item 7 (Option.some FieldType.int) ({ frames := 6, cells := 1, slots := 6, locals := 90 }) [.ref d, .int kk, .int ii, .int what] w (fun _ _ => False) (fun N w1 => N = nIOB ∧ w1 = w) → (∀ (w1 : zw) (S : Nat → Int32) (L : Nat → Int64) (F : Nat → Nat → Int32) (M : Nat → Int64) (B V Z : Nat → Int32) (T : Nat → Int64) (sz : Nat → Nat) (en : Nat), RA G w1 o A S L F M B V Z T → RelA (on, tot, VL, RG) F M B V sz en → (∀ k, k < 16 → Z k = nI (sz k)) → Ct l G n0 e0 y_R_item b_R_item 8 (Option.some FieldType.int) ({ frames := 1, cells := 0, slots := 0, locals := 25 }) [.ref o, .int kk, .int ii, .int what] w1 (fun v w2 => v = some (.int 0) ∧ w2 o = some (.inr (6, fR A (upd S 0 1) L)) ∧ Fr [o] w1 w2)) → PairT l G n0 e0 w d la ra o A P c (on, tot, VL, RG) [(nIOB, 1)] y_D_item b_D_item 7 y_R_item b_R_item 8 [.int kk, .int ii, .int what] [.int kk, .int ii, .int what] := by
    intro CC RR
    refine Or.inl ⟨nIOB, 1, List.mem_singleton.mpr rfl, CC.mono (by decide) (by decide) (by decide) (by decide) (fun _ _ h => h) ?_, fun w1 hr1 => ?_⟩
    · rintro N w1 ⟨rfl, rfl⟩
      exact ⟨rfl, fun he => hI'.same Fr.rf he, KeepR.same Fr.rf⟩
    · obtain ⟨S, L, F, M, B, V, Z, T, sz, en, hr, hrel, hS1, hS2, hZ⟩ := hr1
      refine (RR w1 S L F M B V Z T sz en hr hrel hZ).mono (by decide) (by decide) (by decide) (by decide) ?_
      rintro v w2 ⟨rfl, q0, hF⟩
      exact ⟨⟨_, rfl⟩, RIt.set0 (hr.set0 q0 hF) hrel hS1 hS2 hZ, hF.sub sub_o⟩
  rcases regB_ex kk with hk | ⟨k, hk, rfl⟩
  · exact no (c_item_out l hTr G n0 e0 w d la ra on tot fr gd gra kk hk ii what) (fun w1 S L F M B V Z T sz en hr hrel hZ => r_item_out l G n0 e0 w1 o A S L hr.1 kk hk ii what)
  · have hgr := gr k hk
    cases hx : RG k with
    | none =>
      rw [hx] at hgr
      refine no (c_item_void l hTr G n0 e0 w d la ra on tot fr gd gra k hk hgr ii what) (fun w1 S L F M B V Z T sz en hr hrel hZ => ?_)
      have hz := hrel.2.2.2.2 k hk
      dsimp only at hz
      rw [hx] at hz
      exact r_item_void l G n0 e0 w1 o A S L hr.1 Z hr.2.2.2.2.1 sz hZ (by have := hrel.sum; omega) k hk hz ii what
    | some y =>
      obtain ⟨f, V2, fw⟩ := y
      rw [hx] at hgr
      obtain ⟨q1, q2, q3, ⟨fw4, q4, q4'⟩, q5⟩ := hgr
      have hn2 : V2.2.1 ≤ c := by
        have h2 := sumN_lt (f := fun k => regN (RG k)) hk
        have e : regN (RG k) = V2.2.1 := by rw [hx]; rfl
        unfold cnt at hcn
        dsimp only at hcn
        omega
      have hcap := q3.cap
      dsimp only at hcap
      by_cases hbad : ii < 0 ∨ whatB what = false ∨ ¬ ii < nI V2.2.1
      · refine no (c_item_bad l hTr G n0 e0 w d la ra on tot fr gd gra k hk (bs k).1 (LAt (100 + k)).1 (bs k).2 (LAt (100 + k)).2.1 (LAt (100 + k)).2.2.1 (LAt (100 + k)).2.2.2 f V2 q1 q2 q3 ii what hbad) (fun w1 S L F M B V Z T sz en hr hrel hZ => ?_)
        have hz := hrel.2.2.2.2 k hk
        dsimp only at hz
        rw [hx] at hz
        obtain ⟨z1, z2, z3, z4, z5, z6, z7, z8, z9, z10, ps, p1, p2, p3, p4⟩ := hz
        dsimp only at p1 p2 p3 p4
        exact r_item_bad l G n0 e0 w1 o A S L hr.1 F M hr.2.1 hA Z hr.2.2.2.2.1 sz hZ (by have := hrel.sum; omega) k hk (by omega) ps V2.2.1 p3.sp (by omega) (by omega) (by rw [z8]; congr 1; omega) ii what hbad
      · have b1 : ¬ ii < 0 := fun q => hbad (Or.inl q)
        have b2 : whatB what = true := by
          cases q : whatB what with
          | true => rfl
          | false => exact absurd (Or.inr (Or.inl q)) hbad
        have b3 : ii < nI V2.2.1 := Classical.not_not.mp (fun q => hbad (Or.inr (Or.inr q)))
        obtain ⟨jj, hj, rfl⟩ := nI_of b1
        have b4 : jj < V2.2.1 := (nI_ltI hj (by omega)).mp b3
        refine Or.inr ⟨itemC (V2.2.2 jj) (fw jj) what, (on, tot, VL, RG), (c_item l hTr G n0 e0 w d la ra on tot fr gd gra k hk (bs k).1 (LAt (100 + k)).1 (bs k).2 (LAt (100 + k)).2.1 (LAt (100 + k)).2.2.1 (LAt (100 + k)).2.2.2 f V2 q1 q2 q3 fw4 q4 (by omega) jj b4 what b2).mono (by decide) (by decide) (by decide) (by decide) ?_ (fun _ _ h => h), fun w1 hr1 => ?_⟩
        · rintro v w1 ⟨rfl, rfl⟩
          exact ⟨by rw [q4' jj b4], fun he => hI'.same Fr.rf he, KeepR.same Fr.rf⟩
        · obtain ⟨S, L, F, M, B, V, Z, T, sz, en, hr, hrel, hS1, hS2, hZ⟩ := hr1
          have hz := hrel.2.2.2.2 k hk
          dsimp only at hz
          rw [hx] at hz
          obtain ⟨z1, z2, z3, z4, z5, z6, z7, z8, z9, z10, ps, p1, p2, p3, p4⟩ := hz
          dsimp only at p1 p2 p3 p4
          refine (r_item l G n0 e0 w1 o A S L hr.1 F M hr.2.1 hA Z hr.2.2.2.2.1 sz hZ (by have := hrel.sum; omega) k hk (by omega) ps V2.2.1 p3.sp (by omega) (by omega) (by rw [z8]; congr 1; omega) jj b4 what b2).mono (by decide) (by decide) (by decide) (by decide) ?_
          rintro v w2 ⟨rfl, q0, hF⟩
          refine ⟨?_, RIt.set0 (hr.set0 q0 hF) hrel hS1 hS2 hZ, hF.sub sub_o⟩
          rw [item_eq (p3 jj b4) (fun e5 => p4 jj b4 e5) b2]
