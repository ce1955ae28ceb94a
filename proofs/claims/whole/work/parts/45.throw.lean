/-! a method that throws: the walk's start laid anew where the exception is made, so that all that was there is known to stay -/
theorem hears_alike {s U : State} (h : s.vm.Alike U.vm) (m : MethodId) (below : List Frame) : U.hears m below = s.hears m below := by
  unfold State.hears
  cases below with
  | nil => simp only [h.method?]
  | cons f r => cases f <;> simp only [h.method?, State.code?_eq]
theorem Stand.rebase {p : Program} {l : Launch} {e : Env} {R : Room} {s : State} {m : MethodId} {args : Array Value} {below : List Frame} {meth : Method} {c : Code} {T : State} {locs : List Loc} {cells slots : Nat}
    (X : Stand p l e R s m args below meth c T locs cells slots) (hc : cells ≤ R.cells) (hs : slots ≤ R.slots) :
    Stand p l e { frames := R.frames, cells := R.cells - cells, slots := R.slots - slots, locals := R.locals } (T.setFrames (.invoking m args :: below)) m args below meth c T [] 0 0 := by
  obtain ⟨g₀, hfr⟩ := X.frames_eq
  have hcur : T.cur < T.threads.size := State.cur_lt_of_frames hfr
  have hF : (T.setFrames (.invoking m args :: below)).frames = .invoking m args :: below := State.frames_setFrames _ hcur
  have hm' : (T.setFrames (.invoking m args :: below)).vm.method? m = some meth := X.method'
  obtain ⟨r1, r2, r3, r4⟩ := State.hasRoom_stack X.room
  have r5 := State.hasRoom_real X.room
  have r6 := State.hasRoom_plain X.room
  have r7 := State.hasRoom_heap X.room
  rw [State.localsInUse_invoking X.frames X.method X.code] at r3 r4 r5
  rw [X.frames] at r1 r2
  have hz := X.heapSize
  have hu := X.used
  obtain ⟨t, ht, -⟩ := State.frames_cons hF
  refine ⟨X.admits, X.cas, X.clock, hF, ?_, ?_, hm', X.code, X.here, X.tail, State.WarmedH.refl (T.setFrames (.invoking m args :: below)), by rw [State.stackLimits_setFrames], by rw [State.stackBytes_setFrames], ?_⟩
  · refine State.hasRoom_of (by rw [State.stackBytes_setFrames, X.bytes]; exact r6) (by rw [hF]; exact r1) (by rw [State.localsInUse_invoking hF hm' X.code]; exact r3) ?_ ?_ X.book (by rw [State.localsInUse_invoking hF hm' X.code]; exact r5)
    · show T.heap.size + (R.cells - cells) ≤ _
      omega
    · show T.slotsUsed + (R.slots - slots) ≤ _
      omega
  · rw [hears_alike (s := s) (U := T.setFrames (.invoking m args :: below)) X.warmed.alike]
    exact X.hears
  · have h := (State.sameButNew.refl (T.setFrames (.invoking m args :: below)) ht).setFrames T.frames (show (T.setFrames (.invoking m args :: below)).cur < (T.setFrames (.invoking m args :: below)).threads.size from State.cur_lt_of_frames hF)
    rw [State.setFrames_setFrames, show T.setFrames T.frames = T from by obtain ⟨t2, ht2, -⟩ := State.frames_cons hfr; exact State.setFrames_self ht2] at h
    exact h
