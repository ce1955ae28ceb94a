theorem CI.same {G : zG} {e0 : Nat} {w w1 : zw} {d la ra : Nat} {P : List Nat} {c : Nat} {X : XS} (h : CI G e0 w d la ra P c X) (hF : Fr [] w w1) (he : w1 e0 = none) : CI G e0 w1 d la ra P (c + 1) X := by
  have hk : ∀ {b : Nat} {x : va_E}, w b = some x → w1 b = some x := fun hb => hF.keep hb (by simp)
  have hL : ∀ {A : LA} {V : LV}, LL G e0 w A V → LL G e0 w1 A V := fun hl => LL.keep hl hF (by simp) (by simp) (Or.inl (by simp)) (by simp)
  obtain ⟨hc, fl, fr, LAt, bs, ⟨h1, h2, h3, h4⟩, hd, hla, hra, hl, hr, hdi, hbi⟩ := h
  refine ⟨Nat.le_succ_of_le hc, fl, fr, LAt, bs, ⟨h1, he, h3, h4⟩, hk hd, hk hla, hk hra, fun t ht => ⟨(hl t ht).1, hL (hl t ht).2⟩, fun k hk' => ?_, hdi, hbi⟩
  have q := hr k hk'
  cases hx : X.2.2.2 k with
  | none => rw [hx] at q; exact q
  | some x =>
    rw [hx] at q
    obtain ⟨q1, q2, q3, ⟨fw4, q4, q4'⟩, q5⟩ := q
    exact ⟨q1, hk q2, hL q3, ⟨fw4, hk q4, q4'⟩, q5⟩
theorem KeepR.same {w w1 : zw} (hF : Fr [] w w1) : KeepR w w1 := fun b y hb _ => hF.keep hb (by simp)
theorem pair_add (l : Launch) (G : zG) (n0 e0 : Nat) {w : zw} {d la ra o : Nat} {A : Nat → Nat} {P : List Nat} {c : Nat} {X : XS} {yC : MethodName} {bC : ByteArray} {nC : Nat} {yR : MethodName} {bR : ByteArray} {nR : Nat} {aC aR : List Value} {gd : Bool → Bool} {f r9 : Nat → Int32} (hA : ∀ i j, i < 13 → j < 13 → i ≠ j → A i ≠ A j) (hI : CI G e0 w d la ra P c X) (hRI : RI G w o A X) (hc : c ≤ 512)
    (hC0 : ∀ tot, w d = some (.inr (5, [.ref la, .int (nI 0), .ref ra, .int (nI tot)])) → Ct l G n0 e0 yC bC nC (Option.some FieldType.boolean) (rmA 0) (.ref d :: aC) w (fun v w1 => v = some (.int 0) ∧ w1 = w))
    (hC1 : ∀ (k tot il al ar cap : Nat) (V : LV) (fl : Nat → Option Nat), w d = some (.inr (5, [.ref la, .int (nI (k + 1)), .ref ra, .int (nI tot)])) → w la = some (.inl (G.2 4, 100, .inr (.inr (.inr (.inr fl))))) → k < 100 → fl k = some il → LL G e0 w (il, al, ar, cap) V → V.2.1 ≤ 20000 → tot < 10000 → Ct l G n0 e0 yC bC nC (Option.some FieldType.boolean) (rmA cap) (.ref d :: aC) w (fun v w1 => ∃ r, v = some (.int r) ∧ AddP G e0 d la ra (k + 1) tot il al ar V (gd V.1) f r w w1))
    (hR : ∀ (w1 : zw) (S : Nat → Int32) (L : Nat → Int64) (F : Nat → Nat → Int32) (M : Nat → Int64), w1 o = some (.inr (6, fR A S L)) → RW G w1 A F M → w1 (A 10) = some (.inl (G.2 2, 101, .inl (F 10))) → w1 (A 11) = some (.inl (G.2 0, 16, .inl (F 11))) → ∀ en : Nat, S 2 = nI en → en < 8200 → ∀ lists : Nat, S 1 = nI lists → lists ≤ 100 → ∀ vb : Bool, ((lists = 0 ∧ vb = false) ∨ ∃ k, lists = k + 1 ∧ F 10 k = zi vb) → Ct l G n0 e0 yR bR nR (Option.some FieldType.boolean) ({ frames := 3, cells := 0, slots := 0, locals := 75 }) (.ref o :: aR) w1 (fun v w2 => ∃ r, v = some (.int r) ∧ AddR G o A S L F M (gd vb && decide (¬ lists = 0) && !decide (4000 < S 2 + sumI (F 11) 16 + 1)) en r9 r w1 w2))
    (hok : ∀ vb, gd vb = true → okI vb f ∧ nobox f ∧ rowI (fun c _ => r9 c) 0 f ∧ r9 8 = 1) : Pair l G n0 e0 w d la ra o A P c X yC bC nC yR bR nR (Option.some FieldType.boolean) aC aR := by
  obtain ⟨on, tot, VL, RG⟩ := X
  have hI' := hI
  obtain ⟨hcn, fl, fr, LAt, bs, hW⟩ := hI
  have hW' := hW
  obtain ⟨⟨h1, h2, h3, h4⟩, gd', gla, gra, gl, gr, gdi, gbi⟩ := hW'
  dsimp only at h1 gd' gl gr
  have htot : tot ≤ 4000 := by
    obtain ⟨S, L, F, M, B, V, Z, T, sz, en, hr, hrel, -⟩ := hRI
    exact hrel.2.2.1
  -- the reference, wherever its answer is no
  have refNo : ∀ vb, (on = 0 ∧ vb = false ∨ ∃ t, on = t + 1 ∧ vb = (VL t).1) → (on = 0 ∨ gd vb = false ∨ 4000 ≤ tot) → ∀ w1, RI G w1 o A (on, tot, VL, RG) → Ct l G n0 e0 yR bR nR (Option.some FieldType.boolean) rmR (.ref o :: aR) w1 (fun v w2 => v = some (.int 0) ∧ RI G w2 o A (on, tot, VL, RG) ∧ Fr (allR o A) w1 w2) := by
    intro vb hvb hno w1 hr1
    obtain ⟨S, L, F, M, B, V, Z, T, sz, en, hr, hrel, hS1, hS2, hZ⟩ := hr1
    dsimp only at hS1
    have hen : en ≤ 4000 := by have := hrel.2.1; have := hrel.2.2.1; dsimp only at *; omega
    have hvb2 : (on = 0 ∧ vb = false) ∨ ∃ k, on = k + 1 ∧ F12 F V Z 10 k = zi vb := by
      rcases hvb with q | ⟨t, q1, q2⟩
      · exact Or.inl q
      · subst q1
        exact Or.inr ⟨t, rfl, by rw [q2]; exact hrel.top⟩
    refine (hR w1 S L (F12 F V Z) M hr.1 hr.2.1 hr.2.2.2.1 hr.2.2.2.2.1 en hS2 (by omega) on hS1 h1 vb hvb2).mono (by decide) (by decide) (by decide) (by decide) ?_
    rintro v w2 ⟨r, rfl, hP⟩
    have hroom : (!decide (4000 < S 2 + sumI (F12 F V Z 11) 16 + 1)) = decide (tot < 4000) := sum_room (Z := Z) hZ hS2 hrel.2.1 hrel.2.2.1
    rcases hP with ⟨g, -⟩ | ⟨-, rfl, q3, q4, q5⟩
    · rw [hroom, Bool.and_eq_true, Bool.and_eq_true, decide_eq_true_eq, decide_eq_true_eq] at g
      rcases hno with q | q | q
      · exact absurd q g.1.2
      · rw [q] at g; exact absurd g.1.1 (by decide)
      · exact absurd g.2 (by omega)
    · refine ⟨rfl, ⟨_, L, F, M, B, V, Z, T, sz, en, hr.ofAdd hA q3 q4 q5, hrel, ?_, ?_, hZ⟩, q5.sub sub_all⟩
      · rw [pk_un (by decide)]; exact hS1
      · rw [pk_un (by decide)]; exact hS2
  cases on with
  | zero =>
    refine ⟨0, (0, tot, VL, RG), (hC0 tot gd').mono (by decide) (by decide) (by decide) (by decide) ?_, refNo false (Or.inl ⟨rfl, rfl⟩) (Or.inl rfl)⟩
    rintro v w1 ⟨rfl, rfl⟩
    exact ⟨rfl, fun he => hI'.same Fr.rf he, KeepR.same Fr.rf⟩
  | succ t =>
    have ht := gl t (by omega)
    have hn := cnt_le (X := (t + 1, tot, VL, RG)) (t := t) (by dsimp only; omega)
    dsimp only at hn
    have hcap := ht.2.cap
    have CC := hC1 t tot (LAt t).1 (LAt t).2.1 (LAt t).2.2.1 (LAt t).2.2.2 (VL t) fl gd' gla (by omega) ht.1 ht.2 (by omega) (by omega)
    by_cases hg : gd (VL t).1 = true ∧ tot < 4000
    · obtain ⟨ok, nb, hrow, hr8⟩ := hok _ hg.1
      refine ⟨1, (t + 1, tot + 1, va_up VL t ((VL t).push f), RG), CC.mono (Nat.le_of_ble_eq_true rfl) (Nat.le_of_ble_eq_true rfl) (by show 22 + (LAt t).2.2.2 + (LAt t).2.2.2 / 2 ≤ 4200; omega) (Nat.le_of_ble_eq_true rfl) ?_, ?_⟩
      · rintro v w1 ⟨r, rfl, hP⟩
        rcases hP with ⟨-, -, rfl, ar2, cap2, hL, har, hd, hF⟩ | ⟨q, -⟩
        · have hF4 : Fr [d, ra, (LAt t).2.1, (LAt t).2.2.1] w w1 := hF.sub (fun q hq => by simp at hq ⊢; rcases hq with q | q | q <;> simp [q])
          refine ⟨rfl, fun he => ⟨?_, fl, fr, _, bs, ci_ext hW hL ?_ hd ?_ hF4 he (fun k _ => Or.inl ⟨rfl, rfl⟩)⟩, KeepR.of hF4 hW.ql⟩
          · have := cnt_list (tot := tot) (tot' := tot + 1) (VL := VL) (RG := RG) (V := (VL t).push f) (show t < t + 1 by omega)
            have e : ((VL t).push f).2.1 = (VL t).2.1 + 1 := rfl
            omega
          · rcases har with q | q
            · exact Or.inl q
            · exact Or.inr q.1
          · refine hF.keep gra ?_
            have : ra ∉ [d, (LAt t).2.1, (LAt t).2.2.1] := by
              obtain ⟨md, hal⟩ := ht.2.al
              simp only [List.mem_cons, List.not_mem_nil, or_false, not_or]
              refine ⟨fun q => ?_, fun q => ?_, fun q => ?_⟩
              · rw [q, gd'] at gra; simp at gra
              · rw [q, hal] at gra; simp at gra
              · rcases ht.2.ar h2 with r | ⟨cap, fa, r⟩
                · rw [q, r] at gra; cases gra
                · rw [q, r] at gra; simp at gra; exact h4 gra.1.symm
            exact this
        · rcases q with q | q
          · rw [hg.1] at q; cases q
          · omega
      · intro w1 hr1
        obtain ⟨S, L, F, M, B, V, Z, T, sz, en, hr, hrel, hS1, hS2, hZ⟩ := hr1
        dsimp only at hS1
        have hen : en ≤ 4000 := by have := hrel.2.1; have := hrel.2.2.1; dsimp only at *; omega
        refine (hR w1 S L (F12 F V Z) M hr.1 hr.2.1 hr.2.2.2.1 hr.2.2.2.2.1 en hS2 (by omega) (t + 1) hS1 h1 (VL t).1 (Or.inr ⟨t, rfl, hrel.top⟩)).mono (by decide) (by decide) (by decide) (by decide) ?_
        rintro v w2 ⟨r, rfl, hP⟩
        have hroom : (!decide (4000 < S 2 + sumI (F12 F V Z 11) 16 + 1)) = decide (tot < 4000) := sum_room (Z := Z) hZ hS2 hrel.2.1 hrel.2.2.1
        rcases hP with ⟨-, rfl, q3, q4, q5⟩ | ⟨g, -⟩
        · refine ⟨rfl, ⟨_, L, setF F en r9, _, B, V, Z, T, sz, en + 1, hr.ofAdd (F' := setF F en r9) hA q3 q4 q5, rel_add hrel hg.2 ok nb hrow hr8, ?_, ?_, hZ⟩, q5.sub sub_all⟩
          · rw [pk_un (by decide), pk_un (by decide)]; exact hS1
          · rw [pk_us]
        · rw [hroom, hg.1, decide_eq_true hg.2, decide_eq_true (by omega : ¬ t + 1 = 0)] at g
          cases g
    · have hno : gd (VL t).1 = false ∨ 4000 ≤ tot := by
        cases hgb : gd (VL t).1 with
        | false => exact Or.inl rfl
        | true => exact Or.inr (Nat.le_of_not_lt (fun q => hg ⟨hgb, q⟩))
      refine ⟨0, (t + 1, tot, VL, RG), CC.mono (Nat.le_of_ble_eq_true rfl) (Nat.le_of_ble_eq_true rfl) (by show 22 + (LAt t).2.2.2 + (LAt t).2.2.2 / 2 ≤ 4200; omega) (Nat.le_of_ble_eq_true rfl) ?_, refNo (VL t).1 (Or.inr ⟨t, rfl, rfl⟩) (Or.inr hno)⟩
      rintro v w1 ⟨r, rfl, hP⟩
      rcases hP with ⟨g1, g2, -⟩ | ⟨-, rfl, hF⟩
      · exact absurd ⟨g1, g2⟩ hg
      · exact ⟨rfl, fun he => hI'.same hF he, KeepR.same hF⟩
theorem i_and_or (a b c : Int32) : a &&& (b ||| c) = (a &&& b) ||| (a &&& c) := by
  apply Int32.toBitVec_inj.mp
  simp only [Int32.toBitVec_and, Int32.toBitVec_or]
  apply BitVec.eq_of_getLsbD_eq
  intro i hi
  simp only [BitVec.getLsbD_and, BitVec.getLsbD_or]
  cases a.toBitVec.getLsbD i <;> cases b.toBitVec.getLsbD i <;> cases c.toBitVec.getLsbD i <;> rfl
theorem and_6 (x : Int32) : x &&& (6 ^^^ (-1)) = 0 ↔ x = 0 ∨ x = 2 ∨ x = 4 ∨ x = 6 := by
  constructor
  · intro h
    have h1 : x &&& 6 = x := by
      have e : x &&& (6 ||| (6 ^^^ (-1))) = x := by rw [show (6 : Int32) ||| (6 ^^^ (-1)) = -1 from by decide]; exact Int32.and_neg_one
      rw [i_and_or, h, Int32.or_zero] at e
      exact e
    have h2 : x.toBitVec.toNat &&& 6 = x.toBitVec.toNat := by
      have := congrArg (fun y : Int32 => y.toBitVec.toNat) h1
      simpa using this
    have h3 : x.toBitVec.toNat ≤ 6 := by rw [← h2]; exact Nat.and_le_right
    have h4 : ∀ n, n ≤ 6 → n &&& 6 = n → n = 0 ∨ n = 2 ∨ n = 4 ∨ n = 6 := by decide
    have back : ∀ y : Int32, x.toBitVec.toNat = y.toBitVec.toNat → x = y := fun y q => Int32.toBitVec_inj.mp (BitVec.eq_of_toNat_eq q)
    rcases h4 _ h3 h2 with q | q | q | q
    · exact Or.inl (back 0 q)
    · exact Or.inr (Or.inl (back 2 q))
    · exact Or.inr (Or.inr (Or.inl (back 4 q)))
    · exact Or.inr (Or.inr (Or.inr (back 6 q)))
  · rintro (q | q | q | q) <;> subst q <;> decide
theorem and_1 (x : Int32) : x &&& (1 ^^^ (-1)) = 0 ↔ x = 0 ∨ x = 1 := by
  constructor
  · intro h
    have h1 : x &&& 1 = x := by
      have e : x &&& (1 ||| (1 ^^^ (-1))) = x := by rw [show (1 : Int32) ||| (1 ^^^ (-1)) = -1 from by decide]; exact Int32.and_neg_one
      rw [i_and_or, h, Int32.or_zero] at e
      exact e
    have h2 : x.toBitVec.toNat &&& 1 = x.toBitVec.toNat := by
      have := congrArg (fun y : Int32 => y.toBitVec.toNat) h1
      simpa using this
    have h3 : x.toBitVec.toNat ≤ 1 := by rw [← h2]; exact Nat.and_le_right
    have back : ∀ y : Int32, x.toBitVec.toNat = y.toBitVec.toNat → x = y := fun y q => Int32.toBitVec_inj.mp (BitVec.eq_of_toNat_eq q)
    have : x.toBitVec.toNat = 0 ∨ x.toBitVec.toNat = 1 := by omega
    rcases this with q | q
    · exact Or.inl (back 0 q)
    · exact Or.inr (back 1 q)
  · rintro (q | q) <;> subst q <;> decide
theorem run_eq (vb : Bool) (rn : Int32) : decide (rn &&& ((if vb = true then 1 else 6) ^^^ (-1)) = 0) = runOk vb rn := by
  unfold runOk
  cases vb
  · rw [if_neg (by decide), if_neg (by decide)]
    rw [Bool.eq_iff_iff]
    simp only [Bool.or_eq_true, decide_eq_true_eq, and_6, or_assoc]
  · rw [if_pos rfl, if_pos rfl]
    rw [Bool.eq_iff_iff]
    simp only [Bool.or_eq_true, decide_eq_true_eq, and_1]
