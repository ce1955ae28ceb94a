/-! put and unbox -/
theorem hsz_0 {Z : Nat → Int32} {sz : Nat → Nat} {k : Nat} (h : ∀ j, j < 16 → Z j = nI (sz j)) : ∀ j, j < 16 → upd Z k 0 j = nI (szU sz k 0 j) := by
  have := hsz_U (k := k) (x := 0) h
  rw [nI_0] at this
  exact this
theorem zero_t : nI 0 = nI (4294967295 + 1) := by decide
theorem tot_ex (tot : Nat) : ∃ t, nI tot = nI (t + 1) := by
  cases tot with
  | zero => exact ⟨4294967295, zero_t⟩
  | succ t => exact ⟨t, rfl⟩
theorem p_put (l : Launch) (G : zG) (n0 e0 : Nat) {w : zw} {d la ra o : Nat} {A : Nat → Nat} {P : List Nat} {c : Nat} {X : XS} (hA : ∀ i j, i < 13 → j < 13 → i ≠ j → A i ≠ A j) (hI : CI G e0 w d la ra P c X) (hRI : RI G w o A X) (hc : c ≤ 512) (kk x : Int32) (cp : Bool) : Pair l G n0 e0 w d la ra o A P c X y_D_put b_D_put 7 y_R_put b_R_put 7 (Option.some FieldType.boolean) [.int kk, .int x, .int (zi cp)] [.int kk, .int x, .int (zi cp)] := by
  obtain ⟨on, tot, VL, RG⟩ := X
  have hI' := hI
  obtain ⟨hcn, fl, fr, LAt, bs, hW⟩ := hI
  have hW' := hW
  obtain ⟨⟨h1, h2, h3, h4⟩, gd, gla, gra, gl, gr, gdi, gbi⟩ := hW'
  dsimp only at h1 gd gl gr
  have htot : tot ≤ 4000 := by
    obtain ⟨S, L, F, M, B, V, Z, T, sz, en, hr, hrel, -⟩ := hRI
    exact hrel.2.2.1
  -- no change: what the class says is enough
  have no : (∃ rm : Room, (rm.frames ≤ 9 ∧ rm.cells ≤ 210 ∧ rm.slots ≤ 4200 ∧ rm.locals ≤ 260) ∧ Ct l G n0 e0 y_D_put b_D_put 7 (Option.some FieldType.boolean) rm [.ref d, .int kk, .int x, .int (zi cp)] w (fun v w1 => v = some (.int 0) ∧ w1 = w)) → (∀ w1, RI G w1 o A (on, tot, VL, RG) → Ct l G n0 e0 y_R_put b_R_put 7 (Option.some FieldType.boolean) ({ frames := 2, cells := 0, slots := 0, locals := 55 }) [.ref o, .int kk, .int x, .int (zi cp)] w1 (fun v w2 => v = some (.int 0) ∧ RI G w2 o A (on, tot, VL, RG) ∧ Fr (allR o A) w1 w2)) → Pair l G n0 e0 w d la ra o A P c (on, tot, VL, RG) y_D_put b_D_put 7 y_R_put b_R_put 7 (Option.some FieldType.boolean) [.int kk, .int x, .int (zi cp)] [.int kk, .int x, .int (zi cp)] := by
    rintro ⟨rm, ⟨r1, r2, r3, r4⟩, CC⟩ RR
    refine ⟨0, (on, tot, VL, RG), CC.mono r1 r2 r3 r4 ?_, fun w1 hr1 => (RR w1 hr1).mono (by decide) (by decide) (by decide) (by decide) (fun v w2 h => h)⟩
    rintro v w1 ⟨rfl, rfl⟩
    exact ⟨rfl, fun he => hI'.same Fr.rf he, KeepR.same Fr.rf⟩
  have rm0 : (rmP 0).frames ≤ 9 ∧ (rmP 0).cells ≤ 210 ∧ (rmP 0).slots ≤ 4200 ∧ (rmP 0).locals ≤ 260 := by decide
  have rOut : regB kk = false → ∀ w1, RI G w1 o A (on, tot, VL, RG) → Ct l G n0 e0 y_R_put b_R_put 7 (Option.some FieldType.boolean) ({ frames := 2, cells := 0, slots := 0, locals := 55 }) [.ref o, .int kk, .int x, .int (zi cp)] w1 (fun v w2 => v = some (.int 0) ∧ RI G w2 o A (on, tot, VL, RG) ∧ Fr (allR o A) w1 w2) := by
    intro hk w1 hr1
    obtain ⟨S, L, F, M, B, V, Z, T, sz, en, hr, hrel, hS1, hS2, hZ⟩ := hr1
    refine (r_put_out l G n0 e0 w1 o A S L F M B V Z T hr hA kk hk x cp).mono (by decide) (by decide) (by decide) (by decide) ?_
    rintro v w2 ⟨rfl, q0, hF⟩
    exact ⟨rfl, RI.set0 q0 hrel hS1 hS2 hZ, hF⟩
  cases on with
  | zero =>
    have r0 : ∀ w1, RI G w1 o A (0, tot, VL, RG) → Ct l G n0 e0 y_R_put b_R_put 7 (Option.some FieldType.boolean) ({ frames := 2, cells := 0, slots := 0, locals := 55 }) [.ref o, .int kk, .int x, .int (zi cp)] w1 (fun v w2 => v = some (.int 0) ∧ RI G w2 o A (0, tot, VL, RG) ∧ Fr (allR o A) w1 w2) := by
      intro w1 hr1
      obtain ⟨S, L, F, M, B, V, Z, T, sz, en, hr, hrel, hS1, hS2, hZ⟩ := hr1
      refine (r_put_0 l G n0 e0 w1 o A S L F M B V Z T hr hA (by rw [hS1]; exact nI_0) kk x cp).mono (by decide) (by decide) (by decide) (by decide) ?_
      rintro v w2 ⟨rfl, q0, hF⟩
      exact ⟨rfl, RI.set0 q0 hrel hS1 hS2 hZ, hF⟩
    rcases regB_ex kk with hk | ⟨k, hk, rfl⟩
    · cases cp
      · exact no ⟨_, rm0, c_put_0out0 l G n0 e0 w d la ra tot fl fr x gd gla gra kk hk⟩ r0
      · exact no ⟨_, rm0, c_put_0out1 l G n0 e0 w d la ra tot fl fr x gd gla gra kk hk⟩ r0
    · have hgr := gr k hk
      cases hx : RG k with
      | none =>
        rw [hx] at hgr
        cases cp
        · exact no ⟨_, rm0, c_put_0void0 l G n0 e0 w d la ra tot fl fr x gd gla gra k hk hgr⟩ r0
        · exact no ⟨_, rm0, c_put_0void1 l G n0 e0 w d la ra tot fl fr x gd gla gra k hk hgr⟩ r0
      | some y =>
        obtain ⟨f, V2, fw⟩ := y
        rw [hx] at hgr
        obtain ⟨q1, q2, q3, q4, q5⟩ := hgr
        have hf : ∃ wi, f 0 = nI wi ∧ wi < 10000 := by
          obtain ⟨S, L, F, M, B, V, Z, T, sz, en, hr, hrel, hS1, hS2, hZ⟩ := hRI
          have hz := hrel.2.2.2.2 k hk
          dsimp only at hz
          rw [hx] at hz
          exact ⟨_, hz.2.2.1, by have := hz.2.1; omega⟩
        obtain ⟨wi, hwi, hw2⟩ := hf
        cases cp
        · exact no ⟨_, rm0, c_put_0some0 l G n0 e0 w d la ra tot fl fr x gd gla gra k (bs k).1 (LAt (100 + k)).1 (bs k).2 (LAt (100 + k)).2.1 wi f V2.1 hk q1 q2 q3.1 hwi hw2⟩ r0
        · exact no ⟨_, rm0, c_put_0some1 l G n0 e0 w d la ra tot fl fr x gd gla gra k (bs k).1 (LAt (100 + k)).1 (bs k).2 (LAt (100 + k)).2.1 wi f V2.1 hk q1 q2 q3.1 hwi hw2⟩ r0
  | succ t =>
    have ht := gl t (by omega)
    have hn := cnt_le (X := (t + 1, tot, VL, RG)) (t := t) (by dsimp only; omega)
    dsimp only at hn
    have hcap := ht.2.cap
    have rm1 : (rmP (LAt t).2.2.2).frames ≤ 9 ∧ (rmP (LAt t).2.2.2).cells ≤ 210 ∧ (rmP (LAt t).2.2.2).slots ≤ 4200 ∧ (rmP (LAt t).2.2.2).locals ≤ 260 := ⟨Nat.le_of_ble_eq_true rfl, Nat.le_of_ble_eq_true rfl, by show 22 + (LAt t).2.2.2 + (LAt t).2.2.2 / 2 ≤ 4200; omega, Nat.le_of_ble_eq_true rfl⟩
    have hL : LL G e0 w ((LAt t).1, (LAt t).2.1, (LAt t).2.2.1, (LAt t).2.2.2) (VL t) := ht.2
    rcases regB_ex kk with hk | ⟨k, hk, rfl⟩
    · cases cp
      · exact no ⟨_, rm1, c_put_1out0 l G n0 e0 w d la ra tot fl fr x t (LAt t).1 (LAt t).2.1 (LAt t).2.2.1 (LAt t).2.2.2 (VL t) gd gla gra (by omega) ht.1 hL (by omega) (by omega) kk hk⟩ (rOut hk)
      · exact no ⟨_, rm1, c_put_1out1 l G n0 e0 w d la ra tot fl fr x t (LAt t).1 (LAt t).2.1 (LAt t).2.2.1 (LAt t).2.2.2 (VL t) gd gla gra (by omega) ht.1 hL (by omega) (by omega) kk hk⟩ (rOut hk)
    · have hgr := gr k hk
      cases hx : RG k with
      | none =>
        rw [hx] at hgr
        have rV : ∀ w1, RI G w1 o A (t + 1, tot, VL, RG) → Ct l G n0 e0 y_R_put b_R_put 7 (Option.some FieldType.boolean) ({ frames := 2, cells := 0, slots := 0, locals := 55 }) [.ref o, .int (nI k), .int x, .int (zi cp)] w1 (fun v w2 => v = some (.int 0) ∧ RI G w2 o A (t + 1, tot, VL, RG) ∧ Fr (allR o A) w1 w2) := by
          intro w1 hr1
          obtain ⟨S, L, F, M, B, V, Z, T, sz, en, hr, hrel, hS1, hS2, hZ⟩ := hr1
          have hz := hrel.2.2.2.2 k hk
          dsimp only at hz
          rw [hx] at hz
          refine (r_put_void l G n0 e0 w1 o A S L F M B V Z T hr hA sz hZ (by have := hrel.sum; omega) k hk hz x cp).mono (by decide) (by decide) (by decide) (by decide) ?_
          rintro v w2 ⟨rfl, q0, hF⟩
          exact ⟨rfl, RI.set0 q0 hrel hS1 hS2 hZ, hF⟩
        cases cp
        · exact no ⟨_, rm1, c_put_1void0 l G n0 e0 w d la ra tot fl fr x t (LAt t).1 (LAt t).2.1 (LAt t).2.2.1 (LAt t).2.2.2 (VL t) gd gla gra (by omega) ht.1 hL (by omega) (by omega) k hk hgr⟩ rV
        · exact no ⟨_, rm1, c_put_1void1 l G n0 e0 w d la ra tot fl fr x t (LAt t).1 (LAt t).2.1 (LAt t).2.2.1 (LAt t).2.2.2 (VL t) gd gla gra (by omega) ht.1 hL (by omega) (by omega) k hk hgr⟩ rV
      | some y =>
        obtain ⟨f, V2, fw⟩ := y
        rw [hx] at hgr
        obtain ⟨q1, q2, q3, q4, q5⟩ := hgr
        -- the size of the box, the same in every state of the reference
        have hf : ∃ wi, f 0 = nI wi ∧ wi < 10000 := by
          obtain ⟨S, L, F, M, B, V, Z, T, sz, en, hr, hrel, hS1, hS2, hZ⟩ := hRI
          have hz := hrel.2.2.2.2 k hk
          dsimp only at hz
          rw [hx] at hz
          exact ⟨_, hz.2.2.1, by have := hz.2.1; omega⟩
        obtain ⟨wi, hwi, hw2⟩ := hf
        have szk : ∀ {F : Nat → Nat → Int32} {M : Nat → Int64} {B V : Nat → Int32} {sz : Nat → Nat} {en : Nat}, RelA (t + 1, tot, VL, RG) F M B V sz en → sz k = 1 + wi := by
          intro F M B V sz en hrel
          have hz := hrel.2.2.2.2 k hk
          dsimp only at hz
          rw [hx] at hz
          have z1 := hz.1
          have z2 := hz.2.1
          have z3 : f 0 = nI (sz k - 1) := hz.2.2.1
          rw [hwi] at z3
          have := (nI_eq (by omega) (by omega)).mp z3
          omega
        have hgo : ∀ (tot' ar2 cap2 : Nat) (fr' : Nat → Option Nat) (RG' : Nat → Option BX) (w1 : zw), LL G e0 w1 ((LAt t).1, (LAt t).2.1, ar2, cap2) ((VL t).push (boxF V2.1 f x)) → (ar2 = (LAt t).2.2.1 ∨ w ar2 = none) → w1 d = some (.inr (5, [.ref la, .int (nI (t + 1)), .ref ra, .int (nI tot')])) → w1 ra = some (.inl (G.2 5, 16, .inr (.inr (.inr (.inr fr'))))) → Fr [d, ra, (LAt t).2.1, (LAt t).2.2.1] w w1 → (∀ k, k < 16 → (RG' k = RG k ∧ fr' k = fr k) ∨ (RG' k = none ∧ fr' k = none)) → cnt (t + 1, tot', VL, RG') ≤ cnt (t + 1, tot, VL, RG) → (w1 e0 = none → CI G e0 w1 d la ra P (c + 1) (t + 1, tot', va_up VL t ((VL t).push (boxF V2.1 f x)), RG')) ∧ KeepR w w1 := by
          intro tot' ar2 cap2 fr' RG' w1 p1 p2 p3 p4 p5 p6 p7
          refine ⟨fun he => ⟨?_, fl, fr', _, bs, ci_ext hW p1 ?_ p3 p4 p5 he p6⟩, KeepR.of p5 hW.ql⟩
          · have := cnt_list (tot := tot') (tot' := tot') (VL := VL) (RG := RG') (V := (VL t).push (boxF V2.1 f x)) (show t < t + 1 by omega)
            have e : ((VL t).push (boxF V2.1 f x)).2.1 = (VL t).2.1 + 1 := rfl
            omega
          · rcases p2 with q | q
            · exact Or.inl q
            · exact Or.inr q
        cases cp
        · have CC := c_put_1some0 l G n0 e0 w d la ra tot fl fr x t (LAt t).1 (LAt t).2.1 (LAt t).2.2.1 (LAt t).2.2.2 (VL t) gd gla gra (by omega) ht.1 hL (by omega) (by omega) k (bs k).1 (LAt (100 + k)).1 (bs k).2 (LAt (100 + k)).2.1 wi f V2.1 hk q1 q2 q3.1 hwi hw2
          rw [decide_eq_true (by omega : tot + 0 ≤ 4000), Bool.and_true] at CC
          cases hs : szI x with
          | true =>
            rw [hs] at CC
            refine ⟨1, (t + 1, tot, va_up VL t ((VL t).push (boxF V2.1 f x)), va_up RG k none), CC.mono rm1.1 rm1.2.1 rm1.2.2.1 rm1.2.2.2 ?_, fun w1 hr1 => ?_⟩
            · rintro v w1 ⟨r, rfl, ⟨-, rfl, ar2, cap2, p1, p2, p3, p4, p5⟩ | ⟨q, -⟩⟩
              · refine ⟨rfl, hgo tot ar2 cap2 _ (va_up RG k none) w1 p1 p2 p3 p4 p5 (fun j _ => ?_) ?_⟩
                · by_cases e : j = k
                  · rw [e]; exact Or.inr ⟨va_up_self _ _ _, va_up_self _ _ _⟩
                  · exact Or.inl ⟨va_up_ne _ _ e, va_up_ne _ _ e⟩
                · have := cnt_reg (on := t + 1) (tot := tot) (tot' := tot) (VL := VL) (RG := RG) (x := none) hk
                  have e : regN none = 0 := rfl
                  omega
              · cases q
            · obtain ⟨S, L, F, M, B, V, Z, T, sz, en, hr, hrel, hS1, hS2, hZ⟩ := hr1
              have hsk := szk hrel
              refine (r_put_m l G n0 e0 w1 o A S L F M B V Z T hr hA sz hZ (by have := hrel.sum; omega) k hk (by omega) x (t + 1) hS1 h1 (by omega) en hS2 hrel.sum).mono (by decide) (by decide) (by decide) (by decide) ?_
              rintro v w2 ⟨r, rfl, ⟨-, rfl, q0⟩ | ⟨q, -⟩, hF⟩
              · refine ⟨rfl, ⟨_, L, _, _, B, V, _, T, szU sz k 0, en + sz k, q0, rel_put_m hrel hk hx hs, ?_, ?_, hsz_0 hZ⟩, hF⟩
                · rw [pk_un (by decide), pk_un (by decide)]; exact hS1
                · rw [pk_us]
              · rw [hs] at q; cases q
          | false =>
            rw [hs] at CC
            refine no ⟨_, rm1, CC.mono (Nat.le_refl _) (Nat.le_refl _) (Nat.le_refl _) (Nat.le_refl _) ?_⟩ ?_
            · rintro v w1 ⟨r, rfl, ⟨q, -⟩ | ⟨-, rfl, rfl⟩⟩
              · cases q
              · exact ⟨rfl, rfl⟩
            · intro w1 hr1
              obtain ⟨S, L, F, M, B, V, Z, T, sz, en, hr, hrel, hS1, hS2, hZ⟩ := hr1
              have hsk := szk hrel
              refine (r_put_m l G n0 e0 w1 o A S L F M B V Z T hr hA sz hZ (by have := hrel.sum; omega) k hk (by omega) x (t + 1) hS1 h1 (by omega) en hS2 hrel.sum).mono (by decide) (by decide) (by decide) (by decide) ?_
              rintro v w2 ⟨r, rfl, ⟨q, -⟩ | ⟨-, rfl, q0⟩, hF⟩
              · rw [hs] at q; cases q
              · exact ⟨rfl, RI.set0 q0 hrel hS1 hS2 hZ, hF⟩
        · have CC := c_put_1some1 l G n0 e0 w d la ra tot fl fr x t (LAt t).1 (LAt t).2.1 (LAt t).2.2.1 (LAt t).2.2.2 (VL t) gd gla gra (by omega) ht.1 hL (by omega) (by omega) k (bs k).1 (LAt (100 + k)).1 (bs k).2 (LAt (100 + k)).2.1 wi f V2.1 hk q1 q2 q3.1 hwi hw2
          cases hs : (szI x && decide (tot + (1 + wi) ≤ 4000)) with
          | true =>
            have hs' := hs
            rw [Bool.and_eq_true, decide_eq_true_eq] at hs'
            refine ⟨1, (t + 1, tot + (1 + wi), va_up VL t ((VL t).push (boxF V2.1 f x)), RG), CC.mono rm1.1 rm1.2.1 rm1.2.2.1 rm1.2.2.2 ?_, fun w1 hr1 => ?_⟩
            · rintro v w1 ⟨r, rfl, ⟨-, rfl, ar2, cap2, p1, p2, p3, p4, p5⟩ | ⟨q, -⟩⟩
              · exact ⟨rfl, hgo (tot + (1 + wi)) ar2 cap2 _ RG w1 p1 p2 p3 p4 p5 (fun j _ => Or.inl ⟨rfl, rfl⟩) (Nat.le_refl _)⟩
              · rw [hs] at q; cases q
            · obtain ⟨S, L, F, M, B, V, Z, T, sz, en, hr, hrel, hS1, hS2, hZ⟩ := hr1
              have hsk := szk hrel
              have hto : tot = en + sumN sz 16 := hrel.2.1
              have hs2 : (szI x && decide (en + sumN sz 16 + sz k ≤ 4000)) = true := by rw [← hto, hsk]; exact hs
              refine (r_put_c l G n0 e0 w1 o A S L F M B V Z T hr hA sz hZ (by have := hrel.sum; omega) k hk (by omega) x (t + 1) hS1 h1 (by omega) en hS2 hrel.sum).mono (by decide) (by decide) (by decide) (by decide) ?_
              rintro v w2 ⟨r, rfl, ⟨-, rfl, q0⟩ | ⟨q, -⟩, hF⟩
              · refine ⟨rfl, ⟨_, L, _, _, B, V, Z, T, sz, en + sz k, q0, ?_, ?_, ?_, hZ⟩, hF⟩
                · have := rel_put_c hrel hk hx hs'.1 (by omega)
                  rw [hsk] at this ⊢
                  exact this
                · rw [pk_un (by decide), pk_un (by decide)]; exact hS1
                · rw [pk_us]
              · rw [hs2] at q; cases q
          | false =>
            refine no ⟨_, rm1, CC.mono (Nat.le_refl _) (Nat.le_refl _) (Nat.le_refl _) (Nat.le_refl _) ?_⟩ ?_
            · rintro v w1 ⟨r, rfl, ⟨q, -⟩ | ⟨-, rfl, rfl⟩⟩
              · rw [hs] at q; cases q
              · exact ⟨rfl, rfl⟩
            · intro w1 hr1
              obtain ⟨S, L, F, M, B, V, Z, T, sz, en, hr, hrel, hS1, hS2, hZ⟩ := hr1
              have hsk := szk hrel
              have hto : tot = en + sumN sz 16 := hrel.2.1
              have hs2 : (szI x && decide (en + sumN sz 16 + sz k ≤ 4000)) = false := by rw [← hto, hsk]; exact hs
              refine (r_put_c l G n0 e0 w1 o A S L F M B V Z T hr hA sz hZ (by have := hrel.sum; omega) k hk (by omega) x (t + 1) hS1 h1 (by omega) en hS2 hrel.sum).mono (by decide) (by decide) (by decide) (by decide) ?_
              rintro v w2 ⟨r, rfl, ⟨q, -⟩ | ⟨-, rfl, q0⟩, hF⟩
              · rw [hs2] at q; cases q
              · exact ⟨rfl, RI.set0 q0 hrel hS1 hS2 hZ, hF⟩
theorem p_unbox (l : Launch) (G : zG) (n0 e0 : Nat) {w : zw} {d la ra o : Nat} {A : Nat → Nat} {P : List Nat} {c : Nat} {X : XS} (hA : ∀ i j, i < 13 → j < 13 → i ≠ j → A i ≠ A j) (hI : CI G e0 w d la ra P c X) (hRI : RI G w o A X) (hc : c ≤ 512) (kk : Int32) : Pair l G n0 e0 w d la ra o A P c X y_D_unbox b_D_unbox 6 y_R_unbox b_R_unbox 5 (Option.some FieldType.boolean) [.int kk] [.int kk] := by
  obtain ⟨on, tot, VL, RG⟩ := X
  have hI' := hI
  obtain ⟨hcn, fl, fr, LAt, bs, hW⟩ := hI
  have hW' := hW
  obtain ⟨⟨h1, h2, h3, h4⟩, gd, gla, gra, gl, gr, gdi, gbi⟩ := hW'
  dsimp only at h1 gd gl gr
  have htot : tot ≤ 4000 := by
    obtain ⟨S, L, F, M, B, V, Z, T, sz, en, hr, hrel, -⟩ := hRI
    exact hrel.2.2.1
  have no : (∃ rm : Room, (rm.frames ≤ 9 ∧ rm.cells ≤ 210 ∧ rm.slots ≤ 4200 ∧ rm.locals ≤ 260) ∧ Ct l G n0 e0 y_D_unbox b_D_unbox 6 (Option.some FieldType.boolean) rm [.ref d, .int kk] w (fun v w1 => v = some (.int 0) ∧ w1 = w)) → (∀ w1, RI G w1 o A (on, tot, VL, RG) → Ct l G n0 e0 y_R_unbox b_R_unbox 5 (Option.some FieldType.boolean) ({ frames := 2, cells := 0, slots := 0, locals := 55 }) [.ref o, .int kk] w1 (fun v w2 => v = some (.int 0) ∧ RI G w2 o A (on, tot, VL, RG) ∧ Fr (allR o A) w1 w2)) → Pair l G n0 e0 w d la ra o A P c (on, tot, VL, RG) y_D_unbox b_D_unbox 6 y_R_unbox b_R_unbox 5 (Option.some FieldType.boolean) [.int kk] [.int kk] := by
    rintro ⟨rm, ⟨r1, r2, r3, r4⟩, CC⟩ RR
    refine ⟨0, (on, tot, VL, RG), CC.mono r1 r2 r3 r4 ?_, fun w1 hr1 => (RR w1 hr1).mono (by decide) (by decide) (by decide) (by decide) (fun v w2 h => h)⟩
    rintro v w1 ⟨rfl, rfl⟩
    exact ⟨rfl, fun he => hI'.same Fr.rf he, KeepR.same Fr.rf⟩
  have rm0 : (rmU 0).frames ≤ 9 ∧ (rmU 0).cells ≤ 210 ∧ (rmU 0).slots ≤ 4200 ∧ (rmU 0).locals ≤ 260 := by decide
  obtain ⟨t', ht'⟩ := tot_ex tot
  have gd2 := gd
  rw [ht'] at gd2
  cases on with
  | zero =>
    have r0 : ∀ w1, RI G w1 o A (0, tot, VL, RG) → Ct l G n0 e0 y_R_unbox b_R_unbox 5 (Option.some FieldType.boolean) ({ frames := 2, cells := 0, slots := 0, locals := 55 }) [.ref o, .int kk] w1 (fun v w2 => v = some (.int 0) ∧ RI G w2 o A (0, tot, VL, RG) ∧ Fr (allR o A) w1 w2) := by
      intro w1 hr1
      obtain ⟨S, L, F, M, B, V, Z, T, sz, en, hr, hrel, hS1, hS2, hZ⟩ := hr1
      refine (r_unbox_0 l G n0 e0 w1 o A S L F M B V Z T hr hA (by rw [hS1]; exact nI_0) kk).mono (by decide) (by decide) (by decide) (by decide) ?_
      rintro v w2 ⟨rfl, q0, hF⟩
      exact ⟨rfl, RI.set0 q0 hrel hS1 hS2 hZ, hF⟩
    rcases regB_ex kk with hk | ⟨k, hk, rfl⟩
    · exact no ⟨_, rm0, c_unbox_0out l G n0 e0 w d la ra t' fl fr gd2 gla gra kk hk⟩ r0
    · have hgr := gr k hk
      cases hx : RG k with
      | none =>
        rw [hx] at hgr
        exact no ⟨_, rm0, c_unbox_0void l G n0 e0 w d la ra t' fl fr gd2 gla gra k hk hgr⟩ r0
      | some y =>
        obtain ⟨f, V2, fw⟩ := y
        rw [hx] at hgr
        obtain ⟨q1, q2, q3, q4, q5⟩ := hgr
        exact no ⟨_, rm0, c_unbox_0some l G n0 e0 w d la ra t' fl fr gd2 gla gra k (bs k).1 (LAt (100 + k)).1 (bs k).2 (LAt (100 + k)).2.1 (LAt (100 + k)).2.2.1 (LAt (100 + k)).2.2.2 f V2 hk q1 q2 q3⟩ r0
  | succ t =>
    have ht := gl t (by omega)
    have hL : LL G e0 w ((LAt t).1, (LAt t).2.1, (LAt t).2.2.1, (LAt t).2.2.2) (VL t) := ht.2
    rcases regB_ex kk with hk | ⟨k, hk, rfl⟩
    · refine no ⟨_, rm0, c_unbox_1out l G n0 e0 w d la ra t' fl fr t (LAt t).1 (LAt t).2.1 (LAt t).2.2.1 (LAt t).2.2.2 (VL t) gd2 gla gra (by omega) ht.1 hL kk hk⟩ ?_
      intro w1 hr1
      obtain ⟨S, L, F, M, B, V, Z, T, sz, en, hr, hrel, hS1, hS2, hZ⟩ := hr1
      refine (r_unbox_out l G n0 e0 w1 o A S L F M B V Z T hr hA kk hk).mono (by decide) (by decide) (by decide) (by decide) ?_
      rintro v w2 ⟨rfl, q0, hF⟩
      exact ⟨rfl, RI.set0 q0 hrel hS1 hS2 hZ, hF⟩
    · have hgr := gr k hk
      cases hx : RG k with
      | none =>
        rw [hx] at hgr
        refine no ⟨_, rm0, c_unbox_1void l G n0 e0 w d la ra t' fl fr t (LAt t).1 (LAt t).2.1 (LAt t).2.2.1 (LAt t).2.2.2 (VL t) gd2 gla gra (by omega) ht.1 hL k hk hgr⟩ ?_
        intro w1 hr1
        obtain ⟨S, L, F, M, B, V, Z, T, sz, en, hr, hrel, hS1, hS2, hZ⟩ := hr1
        have hz := hrel.2.2.2.2 k hk
        dsimp only at hz
        rw [hx] at hz
        refine (r_unbox_void l G n0 e0 w1 o A S L F M B V Z T hr hA sz hZ (by have := hrel.sum; omega) k hk hz).mono (by decide) (by decide) (by decide) (by decide) ?_
        rintro v w2 ⟨rfl, q0, hF⟩
        exact ⟨rfl, RI.set0 q0 hrel hS1 hS2 hZ, hF⟩
      | some y =>
        obtain ⟨f, V2, fw⟩ := y
        rw [hx] at hgr
        obtain ⟨q1, q2, q3, q4, q5⟩ := hgr
        have hn := cnt_two (X := (t + 1, tot, VL, RG)) (t := t) (k := k) (by dsimp only; omega) hk
        dsimp only at hn
        rw [hx] at hn
        have hn : (VL t).2.1 + V2.2.1 ≤ cnt (t + 1, tot, VL, RG) := hn
        have htp : ∃ t0, tot = t0 + 1 := by
          obtain ⟨S, L, F, M, B, V, Z, T, sz, en, hr, hrel, hS1, hS2, hZ⟩ := hRI
          have hz := hrel.2.2.2.2 k hk
          dsimp only at hz
          rw [hx] at hz
          have z1 : 1 ≤ sz k := hz.1
          have := sumN_lt (f := sz) hk
          have h0 : tot = en + sumN sz 16 := hrel.2.1
          exact ⟨tot - 1, by omega⟩
        obtain ⟨t0, rfl⟩ := htp
        obtain ⟨n1, n2⟩ := gdi (100 + k) t (live_reg hk (by dsimp only; rw [hx]; simp)) (live_list (by dsimp only; omega)) (by omega)
        have CC := c_unbox_1some l G n0 e0 w d la ra t0 fl fr t (LAt t).1 (LAt t).2.1 (LAt t).2.2.1 (LAt t).2.2.2 (VL t) gd gla gra (by omega) ht.1 hL k (bs k).1 (LAt (100 + k)).1 (bs k).2 (LAt (100 + k)).2.1 (LAt (100 + k)).2.2.1 (LAt (100 + k)).2.2.2 f V2 hk q1 q2 q3 (by omega) n1 n2
        have rm1 : (rmU ((VL t).2.1 + V2.2.1)).frames ≤ 9 ∧ (rmU ((VL t).2.1 + V2.2.1)).cells ≤ 210 ∧ (rmU ((VL t).2.1 + V2.2.1)).slots ≤ 4200 ∧ (rmU ((VL t).2.1 + V2.2.1)).locals ≤ 260 := ⟨Nat.le_of_ble_eq_true rfl, by show (10 + 2 * ((VL t).2.1 + V2.2.1)) / 5 + 1 ≤ 210; omega, by show 4 * (10 + 2 * ((VL t).2.1 + V2.2.1)) ≤ 4200; omega, Nat.le_of_ble_eq_true rfl⟩
        have hkd : ∀ {F : Nat → Nat → Int32} {M : Nat → Int64} {B V : Nat → Int32} {sz : Nat → Nat} {en : Nat}, RelA (t + 1, t0 + 1, VL, RG) F M B V sz en → ¬ sz k = 0 ∧ F 0 (stN sz k) = if V2.1 = true then 3 else 2 := by
          intro F M B V sz en hrel
          have hz := hrel.2.2.2.2 k hk
          dsimp only at hz
          rw [hx] at hz
          exact ⟨by have := hz.1; omega, hz.2.2.2.1⟩
        by_cases hv : V2.1 = (VL t).1
        · refine ⟨1, (t + 1, t0, va_up VL t (appN (VL t) V2 V2.2.1), va_up RG k none), CC.mono rm1.1 rm1.2.1 rm1.2.2.1 rm1.2.2.2 ?_, fun w1 hr1 => ?_⟩
          · rintro v w1 ⟨r, rfl, ⟨-, rfl, ar2, cap2, p1, p2, p3, p4, p5⟩ | ⟨q, -⟩⟩
            · refine ⟨rfl, fun he => ⟨?_, fl, _, _, bs, ci_ext hW p1 p2 p3 p4 p5 he (fun j _ => ?_)⟩, KeepR.of p5 hW.ql⟩
              · have a1 := cnt_list (tot := t0) (tot' := t0) (VL := VL) (RG := va_up RG k none) (V := appN (VL t) V2 V2.2.1) (show t < t + 1 by omega)
                have a2 := cnt_reg (on := t + 1) (tot := t0 + 1) (tot' := t0) (VL := VL) (RG := RG) (x := none) hk
                rw [hx] at a2
                have e1 : (appN (VL t) V2 V2.2.1).2.1 = (VL t).2.1 + V2.2.1 := rfl
                have e2 : regN (some (f, V2, fw)) = V2.2.1 := rfl
                have e3 : regN none = 0 := rfl
                omega
              · by_cases e : j = k
                · rw [e]; exact Or.inr ⟨va_up_self _ _ _, va_up_self _ _ _⟩
                · exact Or.inl ⟨va_up_ne _ _ e, va_up_ne _ _ e⟩
            · exact absurd hv q
          · obtain ⟨S, L, F, M, B, V, Z, T, sz, en, hr, hrel, hS1, hS2, hZ⟩ := hr1
            obtain ⟨z0, z1⟩ := hkd hrel
            refine (r_unbox l G n0 e0 w1 o A S L F M B V Z T hr hA sz hZ (by have := hrel.sum; omega) k hk z0 V2.1 z1 (t + 1) hS1 h1 (by omega) (VL t).1 (Or.inr ⟨t, rfl, hrel.top⟩) en hS2 hrel.sum).mono (by decide) (by decide) (by decide) (by decide) ?_
            rintro v w2 ⟨r, rfl, ⟨-, rfl, q0⟩ | ⟨q, -⟩, hF⟩
            · refine ⟨rfl, ⟨_, L, _, _, B, V, _, T, szU sz k 0, en + (sz k - 1), q0, rel_unbox hrel hk hx hv, ?_, ?_, hsz_0 hZ⟩, hF⟩
              · rw [pk_un (by decide), pk_un (by decide)]; exact hS1
              · rw [pk_us]
            · exact absurd hv q
        · refine no ⟨_, rm1, CC.mono (Nat.le_refl _) (Nat.le_refl _) (Nat.le_refl _) (Nat.le_refl _) ?_⟩ ?_
          · rintro v w1 ⟨r, rfl, ⟨q, -⟩ | ⟨-, rfl, rfl⟩⟩
            · exact absurd q hv
            · exact ⟨rfl, rfl⟩
          · intro w1 hr1
            obtain ⟨S, L, F, M, B, V, Z, T, sz, en, hr, hrel, hS1, hS2, hZ⟩ := hr1
            obtain ⟨z0, z1⟩ := hkd hrel
            refine (r_unbox l G n0 e0 w1 o A S L F M B V Z T hr hA sz hZ (by have := hrel.sum; omega) k hk z0 V2.1 z1 (t + 1) hS1 h1 (by omega) (VL t).1 (Or.inr ⟨t, rfl, hrel.top⟩) en hS2 hrel.sum).mono (by decide) (by decide) (by decide) (by decide) ?_
            rintro v w2 ⟨r, rfl, ⟨q, -⟩ | ⟨-, rfl, q0⟩, hF⟩
            · exact absurd q hv
            · exact ⟨rfl, RI.set0 q0 hrel hS1 hS2 hZ, hF⟩
