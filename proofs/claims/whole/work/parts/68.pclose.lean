/-! close, both sides -/
theorem p_close (l : Launch) (hTr : l.stackTraces = false) (G : zG) (n0 e0 : Nat) {w : zw} {d la ra o : Nat} {A : Nat → Nat} {P : List Nat} {c : Nat} {X : XS} (hA : ∀ i j, i < 13 → j < 13 → i ≠ j → A i ≠ A j) (hI : CI G e0 w d la ra P c X) (hRI : RI G w o A X) (hP : ∀ q ∈ P, w q ≠ none) (hc : c ≤ 512) (spec amount lim kk : Int32) : PairT l G n0 e0 w d la ra o A P c X [(nISE, 1), (nIAE, 2), (nUOE, 3)] y_D_close b_D_close 10 y_R_close b_R_close 13 [.int spec, .int amount, .int lim, .int kk] [.int spec, .int amount, .int lim, .int kk] := by
  obtain ⟨on, tot, VL, RG⟩ := X
  have hI' := hI
  obtain ⟨hcn, fl, fr, LAt, bs, hW⟩ := hI
  have hW' := hW
  obtain ⟨⟨h1, h2, h3, h4⟩, gd, gla, gra, gl, gr, gdi, gbi⟩ := hW'
  dsimp only at h1 gd gl gr
  have htot : tot ≤ 4000 := by
    obtain ⟨S, L, F, M, B, V, Z, T, sz, en, hr, hrel, -⟩ := hRI
    exact hrel.2.2.1
  cases on with
  | zero =>
    refine Or.inl ⟨nISE, 1, by simp, (c_close_0 l hTr G n0 e0 w d la ra tot gd spec amount lim kk).mono (by decide) (by decide) (by decide) (by decide) (fun _ _ h => h) ?_, fun w1 hr1 => ?_⟩
    · rintro N w1 ⟨rfl, rfl⟩
      exact ⟨rfl, fun he => hI'.same Fr.rf he, KeepR.same Fr.rf⟩
    · obtain ⟨S, L, F, M, B, V, Z, T, sz, en, hr, hrel, hS1, hS2, hZ⟩ := hr1
      refine (r_close_0 l G n0 e0 w1 o A S L F M B V Z T hr hA (by rw [hS1]; exact nI_0) spec amount lim kk).mono (by decide) (by decide) (by decide) (by decide) ?_
      rintro v w2 ⟨rfl, q0, hF⟩
      exact ⟨⟨_, rfl⟩, RIt.set0 q0 hrel hS1 hS2 hZ, hF⟩
  | succ t =>
    have ht := gl t (by omega)
    have hL : LL G e0 w ((LAt t).1, (LAt t).2.1, (LAt t).2.2.1, (LAt t).2.2.2) (VL t) := ht.2
    have hn := cnt_le (X := (t + 1, tot, VL, RG)) (t := t) (by dsimp only; omega)
    dsimp only at hn
    have rS : 40 + (VL t).2.1 ≤ 4200 := by omega
    cases hok : closeB spec amount lim kk with
    | false =>
      refine Or.inl ⟨nIAE, 2, by simp, (c_close_bad l hTr G n0 e0 w d la ra t tot (LAt t).1 (LAt t).2.1 (LAt t).2.2.1 (LAt t).2.2.2 (VL t) fl fr gd gla gra (by omega) ht.1 hL (by omega) (by omega) spec amount lim kk hok).mono (Nat.le_of_ble_eq_true rfl) (Nat.le_of_ble_eq_true rfl) rS (Nat.le_of_ble_eq_true rfl) (fun _ _ h => h) ?_, fun w1 hr1 => ?_⟩
      · rintro N w1 ⟨rfl, rfl⟩
        exact ⟨rfl, fun he => hI'.same Fr.rf he, KeepR.same Fr.rf⟩
      · obtain ⟨S, L, F, M, B, V, Z, T, sz, en, hr, hrel, hS1, hS2, hZ⟩ := hr1
        refine (r_close_bad l G n0 e0 w1 o A S L F M B V Z T hr hA (by rw [hS1]; intro q; rw [← nI_0] at q; exact absurd ((nI_eq (by dsimp only; omega) (by omega)).mp q) (by dsimp only; omega)) spec amount lim kk hok).mono (by decide) (by decide) (by decide) (by decide) ?_
        rintro v w2 ⟨rfl, q0, hF⟩
        exact ⟨⟨_, rfl⟩, RIt.set0 q0 hrel hS1 hS2 hZ, hF⟩
    | true =>
      have hreg : regB kk = true := by
        have := hok
        simp only [closeB, Bool.and_eq_true] at this
        exact this.2
      obtain ⟨k, hk, rfl⟩ := regB_of hreg
      have hor : ∀ i, i < (VL t).2.1 → vp_in ((VL t).2.2 i 7) 4 := by
        obtain ⟨S, L, F, M, B, V, Z, T, sz, en, hr, hrel, -⟩ := hRI
        obtain ⟨ps, -, hS, -⟩ := rel_top hrel
        exact fun i hi => (hS i hi).1.2.1
      -- the class, whatever the register holds: the same end
      have CL : ∃ rz, (∀ {F : Nat → Nat → Int32} {M : Nat → Int64} {B V : Nat → Int32} {sz : Nat → Nat} {en : Nat}, RelA (t + 1, tot, VL, RG) F M B V sz en → sz k = rz) ∧ CtT l G n0 e0 y_D_close b_D_close 10 (Option.some FieldType.int) ({ frames := 8, cells := 4, slots := 40 + (VL t).2.1, locals := 190 }) [.ref d, .int spec, .int amount, .int lim, .int (nI k)] w (fun v w1 => ∃ b2 sw2 fw, v = some (.int ((wantedL spec amount (mTot (VL t) lim).1).toInt32)) ∧ cgood (mTot (VL t) lim) (wantedL spec amount (mTot (VL t) lim).1) tot = true ∧ w b2 = none ∧ w sw2 = none ∧ w1 sw2 = some (.inl (G.2 0, (VL t).2.1, .inl fw)) ∧ (∀ j, j < (VL t).2.1 → fw j = sgX (mTot (VL t) lim) (((wantedL spec amount (mTot (VL t) lim).1).toInt32).toInt64 - (mTot (VL t) lim).1) (VL t).2.2 j) ∧ w1 b2 = some (.inr (4, fB (LAt t).1 sw2 (bxF (VL t).1 (mTot (VL t) lim) ((wantedL spec amount (mTot (VL t) lim).1).toInt32)))) ∧ w1 la = some (.inl (G.2 4, 100, .inr (.inr (.inr (.inr (va_up fl t none)))))) ∧ w1 ra = some (.inl (G.2 5, 16, .inr (.inr (.inr (.inr (va_up fr k (some b2))))))) ∧ w1 d = some (.inr (5, [.ref la, .int (nI t), .ref ra, .int (nI (tot + 1 - rz))])) ∧ Fr [d, la, ra] w w1) (fun N w1 => N = nUOE ∧ cgood (mTot (VL t) lim) (wantedL spec amount (mTot (VL t) lim).1) tot = false ∧ Fr [] w w1) := by
        have hgr := gr k hk
        cases hx : RG k with
        | none =>
          rw [hx] at hgr
          refine ⟨0, fun hrel => ?_, c_close_void l hTr G n0 e0 w d la ra t tot (LAt t).1 (LAt t).2.1 (LAt t).2.2.1 (LAt t).2.2.2 (VL t) fl fr gd gla gra (by omega) ht.1 hL (by omega) (by omega) hor k hk hgr spec amount lim hok⟩
          have hz := hrel.2.2.2.2 k hk
          dsimp only at hz
          rw [hx] at hz
          exact hz
        | some y =>
          obtain ⟨f, V2, fw0⟩ := y
          rw [hx] at hgr
          obtain ⟨q1, q2, q3, q4, q5⟩ := hgr
          have hf : ∃ wi, f 0 = nI wi ∧ wi + 1 ≤ tot := by
            obtain ⟨S, L, F, M, B, V, Z, T, sz, en, hr, hrel, -⟩ := hRI
            have hz := hrel.2.2.2.2 k hk
            dsimp only at hz
            rw [hx] at hz
            have z1 : 1 ≤ sz k := hz.1
            have := sumN_lt (f := sz) hk
            have h0 : tot = en + sumN sz 16 := hrel.2.1
            exact ⟨_, hz.2.2.1, by omega⟩
          obtain ⟨wi, hwi, hw2⟩ := hf
          refine ⟨wi + 1, fun {F M B V sz en} hrel => ?_, ?_⟩
          · have hz := hrel.2.2.2.2 k hk
            dsimp only at hz
            rw [hx] at hz
            have z1 := hz.1
            have z2 := hz.2.1
            have z3 : f 0 = nI (sz k - 1) := hz.2.2.1
            rw [hwi] at z3
            have := (nI_eq (by omega) (by omega)).mp z3
            omega
          · have := c_close_some l hTr G n0 e0 w d la ra t tot (LAt t).1 (LAt t).2.1 (LAt t).2.2.1 (LAt t).2.2.2 (VL t) fl fr gd gla gra (by omega) ht.1 hL (by omega) (by omega) hor k hk (bs k).1 (LAt (100 + k)).1 (bs k).2 wi f q1 q2 hwi (by omega) spec amount lim hok
            rw [show tot + 1 - (wi + 1) = tot - wi by omega]
            exact this
      obtain ⟨rz, hrz, CC⟩ := CL
      -- the reference, both ways of a list
      have RR : ∀ w1, RI G w1 o A (t + 1, tot, VL, RG) → Ct l G n0 e0 y_R_close b_R_close 13 (Option.some FieldType.int) ({ frames := 3, cells := 0, slots := 0, locals := 150 }) [.ref o, .int spec, .int amount, .int lim, .int (nI k)] w1 (fun v w2 => ∃ r, v = some (.int r) ∧ ((cgood (mTot (VL t) lim) (wantedL spec amount (mTot (VL t) lim).1) tot = true ∧ r = (wantedL spec amount (mTot (VL t) lim).1).toInt32 ∧ ∀ fw, (∀ j, j < (VL t).2.1 → fw j = sgX (mTot (VL t) lim) (((wantedL spec amount (mTot (VL t) lim).1).toInt32).toInt64 - (mTot (VL t) lim).1) (VL t).2.2 j) → RIt G w2 o A (t, tot + 1 - rz, VL, va_up RG k (some (bxF (VL t).1 (mTot (VL t) lim) ((wantedL spec amount (mTot (VL t) lim).1).toInt32), VL t, fw))) 0) ∨ (cgood (mTot (VL t) lim) (wantedL spec amount (mTot (VL t) lim).1) tot = false ∧ RIt G w2 o A (t + 1, tot, VL, RG) 3)) ∧ Fr (allR o A) w1 w2) := by
        intro w1 hr1
        obtain ⟨S, L, F, M, B, V, Z, T, sz, en, hr, hrel, hS1, hS2, hZ⟩ := hr1
        dsimp only at hS1
        have hsk := hrz hrel
        have hsum := hrel.sum
        have hto : tot = en + sumN sz 16 := hrel.2.1
        obtain ⟨ps, hps, hS, hB, hV, hcont⟩ := rel_top hrel
        have hF5 : ∀ j, j < (VL t).2.1 → F 0 (ps j) = 5 → vp_in (F 5 (ps j)) 4 := by
          intro j hj e5
          obtain ⟨ok, -, -, hrow, -⟩ := hS j hj
          rw [hrow.1] at e5
          rw [(hrow.2.2.2.2.2 e5).2.1]
          exact ok.2.1
        have hsp : ∀ j, ps 0 ≤ j → j < ps (VL t).2.1 → F 8 j = nI (spF F j) ∧ spF F j ≤ 8200 := by
          intro j a b
          obtain ⟨s, w1, w2, w3⟩ := hS.cls (Nat.le_refl _) j a b
          have : spF F j = s := by unfold spF; rw [w1]; exact nI_clamp (by omega)
          rw [this]
          exact ⟨w1, by omega⟩
        have fin : ∀ (l5 : Nat → Int64) (kd wd hgt dp : Int32) (w2 : zw) (r : Int32), Mz (mTot (VL t) lim) l5 → kd = (if (VL t).1 = true then 3 else 2) → wd = bxF (VL t).1 (mTot (VL t) lim) ((closeIs spec amount (l5 0)).toInt32) 2 → hgt = bxF (VL t).1 (mTot (VL t) lim) ((closeIs spec amount (l5 0)).toInt32) 3 → dp = bxF (VL t).1 (mTot (VL t) lim) ((closeIs spec amount (l5 0)).toInt32) 4 → (((closeG l5 (glT F ps T (VL t).2.1) (closeIs spec amount (l5 0)) (mxN (F 0) (spF F) (ps 0) (ps (VL t).2.1 - ps 0)) (ps (VL t).2.1 + sumN sz 16)) = true ∧ r = (closeIs spec amount (l5 0)).toInt32 ∧ RA G w2 o A (upd (upd (upd S 0 0) 1 (nI t)) 2 (nI (ps 0))) l5 (clF F sz k (ps 0) (ps (VL t).2.1 - ps 0) kd wd hgt dp) (clM (shM F ps (shA (glT F ps T (VL t).2.1) (l5 4) (closeIs spec amount (l5 0) - l5 0)) (shE (l5 4) (closeIs spec amount (l5 0) - l5 0)) (decide (0 < (closeIs spec amount (l5 0) - l5 0))) (hiO (glT F ps T (VL t).2.1)) M (VL t).2.1) sz k (ps 0) (ps (VL t).2.1 - ps 0)) B V (upd (upd Z k 0) k (nI (ps (VL t).2.1 - ps 0 + 1))) (glT F ps T (VL t).2.1)) ∨ ((closeG l5 (glT F ps T (VL t).2.1) (closeIs spec amount (l5 0)) (mxN (F 0) (spF F) (ps 0) (ps (VL t).2.1 - ps 0)) (ps (VL t).2.1 + sumN sz 16)) = false ∧ RA G w2 o A (upd S 0 3) l5 F M B V Z (glT F ps T (VL t).2.1))) → ((cgood (mTot (VL t) lim) (wantedL spec amount (mTot (VL t) lim).1) tot = true ∧ r = (wantedL spec amount (mTot (VL t) lim).1).toInt32 ∧ ∀ fw, (∀ j, j < (VL t).2.1 → fw j = sgX (mTot (VL t) lim) (((wantedL spec amount (mTot (VL t) lim).1).toInt32).toInt64 - (mTot (VL t) lim).1) (VL t).2.2 j) → RIt G w2 o A (t, tot + 1 - rz, VL, va_up RG k (some (bxF (VL t).1 (mTot (VL t) lim) ((wantedL spec amount (mTot (VL t) lim).1).toInt32), VL t, fw))) 0) ∨ (cgood (mTot (VL t) lim) (wantedL spec amount (mTot (VL t) lim).1) tot = false ∧ RIt G w2 o A (t + 1, tot, VL, RG) 3)) := by
          intro l5 kd wd hgt dp w2 r hm hkd hwd hhg hdp hpost
          have hgood := good_eq (T := T) (is := closeIs spec amount (l5 0)) (tot := tot) hS (by omega) hm
          have hin : closeIs spec amount (l5 0) = wantedL spec amount (mTot (VL t) lim).1 := by rw [is_eq hok, hm.1]
          rw [hps, ← hto] at hpost
          rw [hps] at hgood
          rw [hgood, hin] at hpost
          rw [hin] at hwd hhg hdp
          rcases hpost with ⟨g1, g2, g3⟩ | ⟨g1, g2⟩
          · refine Or.inl ⟨g1, g2, fun fw hfw => ?_⟩
            have hrc := rel_close hrel hk hps hS hcont T hm hok g1 hfw hkd hwd hhg hdp
            rw [hin, hps, hsk] at hrc
            refine ⟨_, l5, _, _, B, V, _, _, _, ps 0, ?_, g3, hrc, ?_, ?_, hsz_UU hZ⟩
            · rw [pk_un (by decide), pk_un (by decide), pk_us]
            · rw [pk_un (by decide), pk_us]
            · rw [pk_us]
          · exact Or.inr ⟨g1, RIt.set0 g2 hrel hS1 hS2 hZ⟩
        cases hv : (VL t).1 with
        | false =>
          have hm := mz_h lim T hv hS
          refine (r_close_h l G n0 e0 w1 o A S L F M B V Z T hr hA sz hZ (by omega) k hk ps (VL t).2.1 hS.sp (by omega) (by rw [hps]; exact hS2) hF5 (spF F) hsp (by omega) t (by omega) hS1 hB (by rw [hV, hv]) spec amount lim hok).mono (by decide) (by decide) (by decide) (by decide) ?_
          rintro v w2 ⟨r, rfl, hP, hF⟩
          refine ⟨r, rfl, ?_, hF⟩
          have := fin (mzW F ps T (VL t).2.1) 2 _ _ _ w2 r hm (by rw [hv]; rfl) (by rw [hv]; rfl) (by rw [hv, ← hm.2.2.1]; rfl) (by rw [hv, ← hm.2.2.2.1]; rfl) hP
          rw [hv] at this
          exact this
        | true =>
          have hm := mz_v lim T hv hS
          refine (r_close_v l G n0 e0 w1 o A S L F M B V Z T hr hA sz hZ (by omega) k hk ps (VL t).2.1 hS.sp (by omega) (by rw [hps]; exact hS2) hF5 (spF F) hsp (by omega) t (by omega) hS1 hB (by rw [hV, hv]) spec amount lim hok).mono (by decide) (by decide) (by decide) (by decide) ?_
          rintro v w2 ⟨r, rfl, hP, hF⟩
          refine ⟨r, rfl, ?_, hF⟩
          have := fin (mzH F ps T (VL t).2.1 lim) 3 _ _ _ w2 r hm (by rw [hv]; rfl) (by rw [hv, ← hm.2.1]; rfl) (by rw [hv]; rfl) (by rw [hv, ← hm.2.2.2.1]; rfl) hP
          rw [hv] at this
          exact this
      cases hg : cgood (mTot (VL t) lim) (wantedL spec amount (mTot (VL t) lim).1) tot with
      | false =>
        refine Or.inl ⟨nUOE, 3, by simp, CC.mono (Nat.le_of_ble_eq_true rfl) (Nat.le_of_ble_eq_true rfl) rS (Nat.le_of_ble_eq_true rfl) ?_ ?_, fun w1 hr1 => ?_⟩
        · rintro v w1 ⟨b2, sw2, fw, -, q, -⟩
          rw [hg] at q; cases q
        · rintro N w1 ⟨rfl, -, hF⟩
          exact ⟨rfl, fun he => hI'.same hF he, KeepR.same hF⟩
        · refine (RR w1 hr1).mono (by decide) (by decide) (by decide) (by decide) ?_
          rintro v w2 ⟨r, rfl, ⟨q, -⟩ | ⟨-, q⟩, hF⟩
          · rw [hg] at q; cases q
          · exact ⟨⟨_, rfl⟩, q, hF⟩
      | true =>
        refine Or.inr ⟨(wantedL spec amount (mTot (VL t) lim).1).toInt32, (t, tot + 1 - rz, VL, va_up RG k (some (bxF (VL t).1 (mTot (VL t) lim) ((wantedL spec amount (mTot (VL t) lim).1).toInt32), VL t, fun j => sgX (mTot (VL t) lim) (((wantedL spec amount (mTot (VL t) lim).1).toInt32).toInt64 - (mTot (VL t) lim).1) (VL t).2.2 j))), CC.mono (Nat.le_of_ble_eq_true rfl) (Nat.le_of_ble_eq_true rfl) rS (Nat.le_of_ble_eq_true rfl) ?_ ?_, fun w1 hr1 => ?_⟩
        · rintro v w1 ⟨b2, sw2, fw, rfl, -, e1, e2, e3, e4, e5, e6, e7, e8, e9⟩
          refine ⟨rfl, fun he => ⟨?_, _, _, _, _, ci_close hW hk (fun j hj => e4 j hj) e1 e2 hP e3 e5 e6 e7 e8 e9 he⟩, KeepR.of e9 ?_⟩
          · have a1 := cnt_reg (on := t) (tot := tot + 1 - rz) (tot' := tot + 1 - rz) (VL := VL) (RG := RG) (x := some (bxF (VL t).1 (mTot (VL t) lim) ((wantedL spec amount (mTot (VL t) lim).1).toInt32), VL t, fun j => sgX (mTot (VL t) lim) (((wantedL spec amount (mTot (VL t) lim).1).toInt32).toInt64 - (mTot (VL t) lim).1) (VL t).2.2 j)) hk
            have a2 : cnt (t + 1, tot, VL, RG) = cnt (t, tot + 1 - rz, VL, RG) + (VL t).2.1 := by
              unfold cnt
              dsimp only
              show sumN (fun t => (VL t).2.1) t + (VL t).2.1 + _ = _
              omega
            have a3 : ∀ (f fw : Nat → Int32), regN (some (f, VL t, fw)) = (VL t).2.1 := fun _ _ => rfl
            rw [a3] at a1
            omega
          · intro q hq
            simp only [List.mem_cons, List.not_mem_nil, or_false] at hq
            rcases hq with rfl | rfl | rfl
            · exact Or.inr ⟨_, gd, nref_inr (by decide)⟩
            · exact Or.inr ⟨_, gla, nref_inl⟩
            · exact Or.inr ⟨_, gra, nref_inl⟩
        · rintro N w1 ⟨-, q, -⟩
          rw [hg] at q; cases q
        · refine (RR w1 hr1).mono (by decide) (by decide) (by decide) (by decide) ?_
          rintro v w2 ⟨r, rfl, ⟨-, rfl, q⟩ | ⟨q, -⟩, hF⟩
          · exact ⟨rfl, q _ (fun _ _ => rfl), hF⟩
          · rw [hg] at q; cases q
