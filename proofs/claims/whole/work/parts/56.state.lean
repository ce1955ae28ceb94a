/-! what a desk holds, and the rows that hold it -/
abbrev BX : Type := (Nat → Int32) × LV × (Nat → Int32)
abbrev XS : Type := Nat × Nat × (Nat → LV) × (Nat → Option BX)
def LsG (F : Nat → Nat → Int32) (p q : Nat) (V : LV) : Prop := ∃ ps, ps 0 = p ∧ ps V.2.1 = q ∧ Seg V.1 F ps V.2.1 V.2.2
def RS (F : Nat → Nat → Int32) (M : Nat → Int64) (sz : Nat → Nat) (k : Nat) : Option BX → Prop
  | none => sz k = 0
  | some x => Reg F M (stN sz k) (sz k) x.1 x.2.1 x.2.2
def RelA (X : XS) (F : Nat → Nat → Int32) (M : Nat → Int64) (B Vv : Nat → Int32) (sz : Nat → Nat) (en : Nat) : Prop :=
  X.1 ≤ 100 ∧ X.2.1 = en + sumN sz 16 ∧ X.2.1 ≤ 4000 ∧ (∃ bg : Nat → Nat, bg X.1 = en ∧ ∀ t, t < X.1 → B t = nI (bg t) ∧ Vv t = zi (X.2.2.1 t).1 ∧ LsG F (bg t) (bg (t + 1)) (X.2.2.1 t)) ∧ ∀ k, k < 16 → RS F M sz k (X.2.2.2 k)
theorem LsG.le {F : Nat → Nat → Int32} {p q : Nat} {V : LV} (h : LsG F p q V) : p + V.2.1 ≤ q := by
  obtain ⟨ps, h0, h1, h2⟩ := h
  have := h2.le (j := 0) (k := V.2.1) (by omega) (Nat.le_refl _)
  omega
theorem LsG.keep {F F' : Nat → Nat → Int32} {p q : Nat} {V : LV} (h : LsG F p q V) (hs : ∀ c j, p ≤ j → j < q → F' c j = F c j) : LsG F' p q V := by
  obtain ⟨ps, h0, h1, h2⟩ := h
  exact ⟨ps, h0, h1, h2.keep (fun c j a b => hs c j (by omega) (by omega))⟩
theorem bg_le {bg : Nat → Nat} {on : Nat} {F : Nat → Nat → Int32} {VL : Nat → LV} (h : ∀ t, t < on → LsG F (bg t) (bg (t + 1)) (VL t)) {j k : Nat} (hjk : j ≤ k) (hk : k ≤ on) : bg j ≤ bg k := by
  induction k with
  | zero => have : j = 0 := by omega
            subst this; exact Nat.le_refl _
  | succ k ih =>
    by_cases e : j = k + 1
    · subst e; exact Nat.le_refl _
    · have := ih (by omega) (by omega)
      have := (h k (by omega)).le
      omega
theorem rel_open {on tot : Nat} {VL : Nat → LV} {RG : Nat → Option BX} {F : Nat → Nat → Int32} {M : Nat → Int64} {B Vv : Nat → Int32} {sz : Nat → Nat} {en : Nat} (h : RelA (on, tot, VL, RG) F M B Vv sz en) (ho : on < 100) (vt : Bool) (its : Nat → Nat → Int32) : RelA (on + 1, tot, va_up VL on (vt, 0, its), RG) F M (upd B on (nI en)) (upd Vv on (zi vt)) sz en := by
  obtain ⟨h1, h2, h3, ⟨bg, b1, b2⟩, h5⟩ := h
  dsimp only at *
  refine ⟨by dsimp only; omega, h2, h3, ⟨fun i => if i ≤ on then bg i else en, by dsimp only; rw [if_neg (by omega)], ?_⟩, h5⟩
  intro t ht
  dsimp only at ht ⊢
  by_cases e : t = on
  · subst e
    rw [if_pos (Nat.le_refl _), if_neg (by omega), pk_us, pk_us, va_up_self, b1]
    exact ⟨rfl, rfl, fun _ => en, rfl, rfl, fun i hi => absurd hi (Nat.not_lt_zero _)⟩
  · rw [if_pos (by omega), if_pos (by omega), pk_un e, pk_un e, va_up_ne _ _ e]
    exact b2 t (by omega)
/-- the innermost list grows, registers change -/
theorem rel_ext {t tot tot' : Nat} {VL : Nat → LV} {RG RG' : Nat → Option BX} {F F' : Nat → Nat → Int32} {M M' : Nat → Int64} {B Vv : Nat → Int32} {sz sz' : Nat → Nat} {en en' : Nat} {V' : LV} (h : RelA (t + 1, tot, VL, RG) F M B Vv sz en) (hlo : ∀ c x, x < en → F' c x = F c x) (hL : ∀ p, LsG F' p en (VL t) → LsG F' p en' V') (hV : V'.1 = (VL t).1) (hreg : ∀ k, k < 16 → RS F' M' sz' k (RG' k)) (htot : tot' = en' + sumN sz' 16) (hle : tot' ≤ 4000) : RelA (t + 1, tot', va_up VL t V', RG') F' M' B Vv sz' en' := by
  obtain ⟨h1, h2, h3, ⟨bg, b1, b2⟩, h5⟩ := h
  dsimp only at *
  have hm : ∀ {j k : Nat}, j ≤ k → k ≤ t + 1 → bg j ≤ bg k := fun hjk hk => bg_le (fun t ht => (b2 t ht).2.2) hjk hk
  refine ⟨h1, htot, hle, ⟨fun i => if i ≤ t then bg i else en', by dsimp only; rw [if_neg (by omega)], ?_⟩, hreg⟩
  intro s hs
  dsimp only at hs ⊢
  obtain ⟨c1, c2, c3⟩ := b2 s hs
  have c3 : LsG F' (bg s) (bg (s + 1)) (VL s) := c3.keep (fun c j _ q => hlo c j (by have := hm (j := s + 1) (k := t + 1) (by omega) (Nat.le_refl _); omega))
  by_cases e : s = t
  · subst e
    rw [if_pos (Nat.le_refl _), if_neg (by omega), va_up_self, hV]
    refine ⟨c1, c2, hL _ ?_⟩
    rw [b1] at c3
    exact c3
  · rw [if_pos (by omega), if_pos (by omega), va_up_ne _ _ e]
    exact ⟨c1, c2, c3⟩
theorem RS.keep {F F' : Nat → Nat → Int32} {M M' : Nat → Int64} {sz : Nat → Nat} {k : Nat} {x : Option BX} (h : RS F M sz k x) (hs : ∀ c j, 4100 ≤ j → F' c j = F c j) (hm : ∀ j, 4100 ≤ j → M' j = M j) : RS F' M' sz k x := by
  cases x with
  | none => exact h
  | some x => exact Reg.keep h (fun c j a _ => hs c j (by unfold stN at a; omega)) (fun j a _ => hm j (by unfold stN at a; omega))
theorem RS.em {F F1 : Nat → Nat → Int32} {M M1 : Nat → Int64} {sz : Nat → Nat} {RG : Nat → Option BX} {k : Nat} (hk : k < 16) (hsum : sumN sz 16 ≤ 4000) (h : ∀ j, j < 16 → RS F M sz j (RG j)) (hs : ∀ c j, 4100 ≤ j → F1 c j = F c j) (hm : ∀ j, 4100 ≤ j → M1 j = M j) : ∀ j, j < 16 → RS (emF F1 sz k) (emM M1 sz k) (szU sz k 0) j (va_up RG k none j) := by
  intro j hj
  by_cases e : j = k
  · subst e
    rw [va_up_self]
    exact if_pos rfl
  · rw [va_up_ne _ _ e]
    have h := h j hj
    cases hr : RG j with
    | none =>
      rw [hr] at h
      show szU sz k 0 j = 0
      unfold szU
      rw [if_neg e]
      exact h
    | some x =>
      rw [hr] at h
      have hz : szU sz k 0 j = sz j := if_neg e
      show Reg _ _ _ _ _ _ _
      rw [hz]
      refine Reg.move h (fun c i hi => ?_) (fun i hi => ?_) ?_
      · rw [emF_reg hk hj e hi]; exact hs c _ (by unfold stN; omega)
      · rw [emM_reg hk hj e hi]; exact hm _ (by unfold stN; omega)
      · have := sumN_lt (f := szU sz k 0) (k := j) (n := 16) hj
        have := sumN_Us (sz := sz) (x := 0) hk
        unfold stN
        omega
def nobox (f : Nat → Int32) : Prop := ¬ (f 0 = 2 ∨ f 0 = 3) ∧ f 10 = 0 ∧ f 11 = 0
theorem rel_add {t tot : Nat} {VL : Nat → LV} {RG : Nat → Option BX} {F : Nat → Nat → Int32} {M : Nat → Int64} {B Vv : Nat → Int32} {sz : Nat → Nat} {en : Nat} (h : RelA (t + 1, tot, VL, RG) F M B Vv sz en) (ht : tot < 4000) {f r9 : Nat → Int32} (ok : okI (VL t).1 f) (nb : nobox f) (hr : rowI (fun c _ => r9 c) 0 f) (h8 : r9 8 = 1) : RelA (t + 1, tot + 1, va_up VL t ((VL t).push f), RG) (setF F en r9) (vp_updL M en 0) B Vv sz (en + 1) := by
  have h' := h
  obtain ⟨h1, h2, h3, -, h5⟩ := h'
  dsimp only at h1 h2 h3 h5
  refine rel_ext h (fun c x hx => setF_off (by omega)) ?_ rfl ?_ (by omega) (by omega)
  · intro p hp
    obtain ⟨ps, p0, p1, p2⟩ := hp
    have hB : Blk (VL t).1 (setF F en r9) (ps (VL t).2.1) (en + 1) f := by
      rw [p1]
      have hd : en + 1 - en = 1 := by omega
      refine ⟨ok, by omega, by omega, ?_, ?_, ?_, ?_, ?_⟩
      · obtain ⟨q0, q1, q2, q3, q4, q5⟩ := hr
        exact ⟨by rw [setF_at]; exact q0, by rw [setF_at]; exact q1, by rw [setF_at]; exact q2, by rw [setF_at]; exact q3, fun q => by rw [setF_at]; exact q4 q, fun q => by rw [setF_at, setF_at, setF_at]; exact q5 q⟩
      · rw [setF_at, h8, hd]; decide
      · rw [nb.2.1, hd]; decide
      · intro j a b
        have : j = en := by omega
        subst this
        exact ⟨1, by rw [setF_at, h8]; decide, by omega, by omega⟩
      · rw [nb.2.2, hd, mxN_one (by rw [setF_at]; rw [show r9 0 = f 0 from hr.1]; exact nb.1)]
        decide
    exact ⟨_, by show (if 0 ≤ (VL t).2.1 then ps 0 else en + 1) = p; rw [if_pos (Nat.zero_le _)]; exact p0, by show (if (VL t).2.1 + 1 ≤ (VL t).2.1 then _ else en + 1) = en + 1; rw [if_neg (by omega)], p2.push hB⟩
  · intro k hk
    exact (h5 k hk).keep (fun c j hj => setF_off (by omega)) (fun j hj => updL_off (by omega))
/-- a register as an item -/
theorem Reg.blk {F F' : Nat → Nat → Int32} {M : Nat → Int64} {p s en : Nat} {f : Nat → Int32} {V : LV} {fw : Nat → Int32} (h : Reg F M p s f V fw) (vt : Bool) {x : Int32} (hx : szI x = true) (hs : ∀ c j, j < s → (c ≠ 4 ∨ j ≠ 0) → F' c (en + j) = F c (p + j)) (h4 : F' 4 en = x) (hb : en + s ≤ 8200) : Blk vt F' en (en + s) (boxF V.1 f x) := by
  obtain ⟨h1, h2, h3, k0, k1, k2, k3, k8, ⟨z2, z3, z4⟩, h10, ps, q1, q2, q3, q4⟩ := h
  have e : ∀ c, c ≠ 4 → F' c en = F c p := fun c hc => hs c 0 (by omega) (Or.inl hc)
  have hd : en + s - en = s := by omega
  have hk : boxF V.1 f x 0 = 2 ∨ boxF V.1 f x 0 = 3 := by
    show (if V.1 = true then (3 : Int32) else 2) = 2 ∨ (if V.1 = true then (3 : Int32) else 2) = 3
    split
    · exact Or.inr rfl
    · exact Or.inl rfl
  have hk2 : (¬ boxF V.1 f x 0 = 1) ∧ (¬ boxF V.1 f x 0 = 5) ∧ (¬ boxF V.1 f x 0 = 7) ∧ (¬ 4 < boxF V.1 f x 0) := by
    rcases hk with q | q <;> rw [q] <;> decide
  refine ⟨⟨⟨z2, z3, z4, hx⟩, by show vp_in 0 4; exact vp_in_nI (n := 0) (by omega) (by omega), by show runOk vt 0 = true; cases vt <;> decide, by rcases hk with q | q; exact Or.inr (Or.inl q); exact Or.inr (Or.inr (Or.inl q)), fun q => absurd q hk2.1, fun _ => ⟨rfl, rfl, rfl⟩, fun q => absurd hk q, fun q => absurd q hk2.2.2.2, fun _ => rfl, fun q => absurd q hk2.2.2.1⟩, by omega, hb, ⟨?_, ?_, ?_, ?_, ?_, ?_⟩, ?_, ?_, ?_, ?_⟩
  · rw [e 0 (by decide), k0]; rfl
  · rw [e 1 (by decide), k1, tell_1, if_neg (by show ¬ (0 : Int32) &&& 1 ≠ 0; decide), if_neg hk2.2.2.1]; rfl
  · rw [e 2 (by decide), k2, tell_2, if_neg (by show ¬ (0 : Int32) &&& 2 ≠ 0; decide)]; rfl
  · rw [e 3 (by decide), k3, tell_3, if_neg (by show ¬ (0 : Int32) &&& 4 ≠ 0; decide)]; rfl
  · intro _; rw [h4]; rfl
  · intro q; exact absurd q hk2.2.1
  · rw [e 8 (by decide), k8, hd]
  · show f 0 = _; rw [h3, hd]
  · intro j a b
    by_cases ej : j = en
    · subst ej; exact ⟨s, by rw [e 8 (by decide), k8], h1, Nat.le_refl _⟩
    · have hc := q3.cls (Nat.le_refl _)
      obtain ⟨u, w1, w2, w3⟩ := hc (p + (j - en)) (by omega) (by omega)
      refine ⟨u, ?_, w2, by omega⟩
      rw [← w1, ← hs 8 (j - en) (by omega) (Or.inl (by decide))]
      congr 1
      omega
  · show f 1 = _
    rw [h10, hd]
    congr 1
    exact mxN_cong (fun j hj => (hs 0 j hj (Or.inl (by decide))).symm) (fun j hj => by unfold spF; rw [hs 8 j hj (Or.inl (by decide))])
theorem LsG.push {F : Nat → Nat → Int32} {p q r : Nat} {V : LV} {f : Nat → Int32} (h : LsG F p q V) (hB : Blk V.1 F q r f) : LsG F p r (V.push f) := by
  obtain ⟨ps, p0, p1, p2⟩ := h
  rw [← p1] at hB
  exact ⟨_, by show (if 0 ≤ V.2.1 then ps 0 else r) = p; rw [if_pos (Nat.zero_le _)]; exact p0, by show (if V.2.1 + 1 ≤ V.2.1 then _ else r) = r; rw [if_neg (by omega)], p2.push hB⟩
theorem LsG.app {F : Nat → Nat → Int32} {p q r : Nat} {V V2 : LV} (h : LsG F p q V) (h2 : LsG F q r V2) (hv : V2.1 = V.1) : LsG F p r (appN V V2 V2.2.1) := by
  obtain ⟨ps, p0, p1, p2⟩ := h
  obtain ⟨qs, r0, r1, r2⟩ := h2
  rw [hv] at r2
  refine ⟨_, ?_, ?_, p2.app r2 (by omega)⟩
  · show (if 0 ≤ V.2.1 then ps 0 else _) = p
    rw [if_pos (Nat.zero_le _)]; exact p0
  · show (if V.2.1 + V2.2.1 ≤ V.2.1 then ps (V.2.1 + V2.2.1) else qs (V.2.1 + V2.2.1 - V.2.1)) = r
    by_cases e : V2.2.1 = 0
    · rw [if_pos (by omega), e, Nat.add_zero]
      rw [e] at r1
      omega
    · rw [if_neg (by omega), Nat.add_sub_cancel_left]; exact r1
theorem rel_put_m {t tot : Nat} {VL : Nat → LV} {RG : Nat → Option BX} {F : Nat → Nat → Int32} {M : Nat → Int64} {B Vv : Nat → Int32} {sz : Nat → Nat} {en : Nat} (h : RelA (t + 1, tot, VL, RG) F M B Vv sz en) {k : Nat} (hk : k < 16) {f : Nat → Int32} {V : LV} {fw : Nat → Int32} (hR : RG k = some (f, V, fw)) {x : Int32} (hx : szI x = true) : RelA (t + 1, tot, va_up VL t ((VL t).push (boxF V.1 f x)), va_up RG k none) (emF (putF F (stN sz k) en (sz k) x) sz k) (emM (cpM M (stN sz k) en (sz k)) sz k) B Vv (szU sz k 0) (en + sz k) := by
  have h' := h
  obtain ⟨h1, h2, h3, -, h5⟩ := h'
  dsimp only at h1 h2 h3 h5
  have hr := h5 k hk
  rw [hR] at hr
  have hr : Reg F M (stN sz k) (sz k) f V fw := hr
  have sk := sumN_lt (f := sz) hk
  have su := sumN_Us (sz := sz) (x := 0) hk
  refine rel_ext h (fun c y hy => ?_) (fun p hp => hp.push ?_) rfl (RS.em hk (by omega) h5 (fun c j hj => ?_) (fun j hj => cpM_lo (by omega))) (by omega) (by omega)
  · rw [emF_lo (by omega)]
    unfold putF
    rw [colF_off (Or.inl (by omega)), cpF_lo (by omega)]
  · refine hr.blk _ hx (fun c j hj hc => ?_) ?_ (by omega)
    · rw [emF_lo (by omega)]
      unfold putF
      rw [colF_off (by omega), cpF_in hj]
    · rw [emF_lo (by omega)]
      exact colF_at
  · unfold putF
    rw [colF_off (Or.inl (by omega)), cpF_lo (by omega)]
theorem rel_put_c {t tot : Nat} {VL : Nat → LV} {RG : Nat → Option BX} {F : Nat → Nat → Int32} {M : Nat → Int64} {B Vv : Nat → Int32} {sz : Nat → Nat} {en : Nat} (h : RelA (t + 1, tot, VL, RG) F M B Vv sz en) {k : Nat} (hk : k < 16) {f : Nat → Int32} {V : LV} {fw : Nat → Int32} (hR : RG k = some (f, V, fw)) {x : Int32} (hx : szI x = true) (hroom : tot + sz k ≤ 4000) : RelA (t + 1, tot + sz k, va_up VL t ((VL t).push (boxF V.1 f x)), RG) (putF F (stN sz k) en (sz k) x) (cpM M (stN sz k) en (sz k)) B Vv sz (en + sz k) := by
  have h' := h
  obtain ⟨h1, h2, h3, -, h5⟩ := h'
  dsimp only at h1 h2 h3 h5
  have hr := h5 k hk
  rw [hR] at hr
  have hr : Reg F M (stN sz k) (sz k) f V fw := hr
  have sk := sumN_lt (f := sz) hk
  refine rel_ext h (fun c y hy => ?_) (fun p hp => hp.push ?_) rfl (fun j hj => (h5 j hj).keep (fun c i hi => ?_) (fun i hi => cpM_lo (by omega))) (by omega) (by omega)
  · unfold putF
    rw [colF_off (Or.inl (by omega)), cpF_lo (by omega)]
  · refine hr.blk _ hx (fun c j hj hc => ?_) ?_ (by omega)
    · unfold putF
      rw [colF_off (by omega), cpF_in hj]
    · exact colF_at
  · unfold putF
    rw [colF_off (Or.inl (by omega)), cpF_lo (by omega)]
theorem rel_unbox {t tot : Nat} {VL : Nat → LV} {RG : Nat → Option BX} {F : Nat → Nat → Int32} {M : Nat → Int64} {B Vv : Nat → Int32} {sz : Nat → Nat} {en : Nat} (h : RelA (t + 1, tot + 1, VL, RG) F M B Vv sz en) {k : Nat} (hk : k < 16) {f : Nat → Int32} {V : LV} {fw : Nat → Int32} (hR : RG k = some (f, V, fw)) (hv : V.1 = (VL t).1) : RelA (t + 1, tot, va_up VL t (appN (VL t) V V.2.1), va_up RG k none) (emF (cpF F (stN sz k + 1) en (sz k - 1)) sz k) (emM (cpM M (stN sz k + 1) en (sz k - 1)) sz k) B Vv (szU sz k 0) (en + (sz k - 1)) := by
  have h' := h
  obtain ⟨h1, h2, h3, -, h5⟩ := h'
  dsimp only at h1 h2 h3 h5
  have hr := h5 k hk
  rw [hR] at hr
  have hr : Reg F M (stN sz k) (sz k) f V fw := hr
  have sk := sumN_lt (f := sz) hk
  have su := sumN_Us (sz := sz) (x := 0) hk
  have hr1 := hr.1
  obtain ⟨-, -, -, -, -, -, -, -, -, -, ps, q1, q2, q3, -⟩ := hr
  refine rel_ext h (fun c y hy => ?_) (fun p hp => hp.app ?_ hv) rfl (RS.em hk (by omega) h5 (fun c j hj => cpF_lo (by omega)) (fun j hj => cpM_lo (by omega))) (by omega) (by omega)
  · rw [emF_lo (by omega), cpF_lo (by omega)]
  · refine ⟨fun i => en + (ps i - ps 0), by dsimp only; omega, by dsimp only; omega, q3.move (fun c j hj => ?_) (by omega)⟩
    rw [emF_lo (by omega), cpF_in (by omega), q1]
