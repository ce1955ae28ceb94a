section
-- ===== PART A: goes FIRST, ahead of the names: the tables' words, and 'selects' of the private methods out of them =====
/-- a private method of a class that the tables say can be made, by its rows of tables_1 -/
def lw_okq (q : MethodName × Nat) : Prop := (q.1.cls ≠ "java/lang/invoke/MethodHandle" ∧ q.1.cls ≠ "java/lang/invoke/VarHandle") ∧ Cond.instantiable q.1.cls q.2 ∈ tables_1 ∧ Cond.privateMethod q.1 ∈ tables_1 ∧ Cond.instanceMethod q.1 ∈ tables_1
theorem lw_p0 : lw_okq (⟨"BoxDesk", "innermost", "()LBoxDesk$ItemList;"⟩, 4) := ⟨⟨by decide +kernel, by decide +kernel⟩, List.mem_of_getElem? (i := 24) (by decide +kernel), List.mem_of_getElem? (i := 100) (by decide +kernel), List.mem_of_getElem? (i := 101) (by decide +kernel)⟩
theorem lw_p1 : lw_okq (⟨"BoxDesk", "join", "(LBoxDesk$ItemList;LBoxDesk$Item;)Z"⟩, 4) := ⟨⟨by decide +kernel, by decide +kernel⟩, List.mem_of_getElem? (i := 24) (by decide +kernel), List.mem_of_getElem? (i := 167) (by decide +kernel), List.mem_of_getElem? (i := 168) (by decide +kernel)⟩
theorem lw_p2 : lw_okq (⟨"java/util/ArrayList", "add", "(Ljava/lang/Object;[Ljava/lang/Object;I)V"⟩, 3) := ⟨⟨by decide +kernel, by decide +kernel⟩, List.mem_of_getElem? (i := 58) (by decide +kernel), List.mem_of_getElem? (i := 175) (by decide +kernel), List.mem_of_getElem? (i := 176) (by decide +kernel)⟩
theorem lw_p3 : lw_okq (⟨"java/util/ArrayList", "grow", "()[Ljava/lang/Object;"⟩, 3) := ⟨⟨by decide +kernel, by decide +kernel⟩, List.mem_of_getElem? (i := 58) (by decide +kernel), List.mem_of_getElem? (i := 179) (by decide +kernel), List.mem_of_getElem? (i := 180) (by decide +kernel)⟩
theorem lw_p4 : lw_okq (⟨"java/util/ArrayList", "grow", "(I)[Ljava/lang/Object;"⟩, 3) := ⟨⟨by decide +kernel, by decide +kernel⟩, List.mem_of_getElem? (i := 58) (by decide +kernel), List.mem_of_getElem? (i := 183) (by decide +kernel), List.mem_of_getElem? (i := 184) (by decide +kernel)⟩
theorem lw_p5 : lw_okq (⟨"BoxDesk", "boxIn", "(I)LBoxDesk$Box;"⟩, 4) := ⟨⟨by decide +kernel, by decide +kernel⟩, List.mem_of_getElem? (i := 24) (by decide +kernel), List.mem_of_getElem? (i := 260) (by decide +kernel), List.mem_of_getElem? (i := 261) (by decide +kernel)⟩
theorem lw_p6 : lw_okq (⟨"java/lang/Throwable", "fillInStackTrace", "(I)Ljava/lang/Throwable;"⟩, 6) := ⟨⟨by decide +kernel, by decide +kernel⟩, List.mem_of_getElem? (i := 352) (by decide +kernel), List.mem_of_getElem? (i := 350) (by decide +kernel), List.mem_of_getElem? (i := 351) (by decide +kernel)⟩
theorem lw_p7 : lw_okq (⟨"BoxDeskModel", "isVertical", "()Z"⟩, 21) := ⟨⟨by decide +kernel, by decide +kernel⟩, List.mem_of_getElem? (i := 608) (by decide +kernel), List.mem_of_getElem? (i := 691) (by decide +kernel), List.mem_of_getElem? (i := 692) (by decide +kernel)⟩
theorem lw_p8 : lw_okq (⟨"BoxDeskModel", "add", "(ZIIIIIII)Z"⟩, 21) := ⟨⟨by decide +kernel, by decide +kernel⟩, List.mem_of_getElem? (i := 608) (by decide +kernel), List.mem_of_getElem? (i := 700) (by decide +kernel), List.mem_of_getElem? (i := 701) (by decide +kernel)⟩
theorem lw_p9 : lw_okq (⟨"BoxDeskModel", "hasRoom", "(I)Z"⟩, 21) := ⟨⟨by decide +kernel, by decide +kernel⟩, List.mem_of_getElem? (i := 608) (by decide +kernel), List.mem_of_getElem? (i := 704) (by decide +kernel), List.mem_of_getElem? (i := 705) (by decide +kernel)⟩
theorem lw_p10 : lw_okq (⟨"BoxDeskModel", "shelved", "()I"⟩, 21) := ⟨⟨by decide +kernel, by decide +kernel⟩, List.mem_of_getElem? (i := 608) (by decide +kernel), List.mem_of_getElem? (i := 708) (by decide +kernel), List.mem_of_getElem? (i := 709) (by decide +kernel)⟩
theorem lw_p11 : lw_okq (⟨"BoxDeskModel", "fails", "(I)I"⟩, 21) := ⟨⟨by decide +kernel, by decide +kernel⟩, List.mem_of_getElem? (i := 608) (by decide +kernel), List.mem_of_getElem? (i := 733) (by decide +kernel), List.mem_of_getElem? (i := 734) (by decide +kernel)⟩
theorem lw_p12 : lw_okq (⟨"BoxDeskModel", "measureHigh", "(II)V"⟩, 21) := ⟨⟨by decide +kernel, by decide +kernel⟩, List.mem_of_getElem? (i := 608) (by decide +kernel), List.mem_of_getElem? (i := 737) (by decide +kernel), List.mem_of_getElem? (i := 738) (by decide +kernel)⟩
theorem lw_p13 : lw_okq (⟨"BoxDeskModel", "measure", "(I)V"⟩, 21) := ⟨⟨by decide +kernel, by decide +kernel⟩, List.mem_of_getElem? (i := 608) (by decide +kernel), List.mem_of_getElem? (i := 741) (by decide +kernel), List.mem_of_getElem? (i := 742) (by decide +kernel)⟩
theorem lw_p14 : lw_okq (⟨"BoxDeskModel", "isBox", "(I)Z"⟩, 21) := ⟨⟨by decide +kernel, by decide +kernel⟩, List.mem_of_getElem? (i := 608) (by decide +kernel), List.mem_of_getElem? (i := 745) (by decide +kernel), List.mem_of_getElem? (i := 746) (by decide +kernel)⟩
theorem lw_p15 : lw_okq (⟨"BoxDeskModel", "isSolid", "(I)Z"⟩, 21) := ⟨⟨by decide +kernel, by decide +kernel⟩, List.mem_of_getElem? (i := 608) (by decide +kernel), List.mem_of_getElem? (i := 749) (by decide +kernel), List.mem_of_getElem? (i := 750) (by decide +kernel)⟩
def lw_privs_1 : List (MethodName × Nat) := [(⟨"BoxDesk", "innermost", "()LBoxDesk$ItemList;"⟩, 4), (⟨"BoxDesk", "join", "(LBoxDesk$ItemList;LBoxDesk$Item;)Z"⟩, 4), (⟨"java/util/ArrayList", "add", "(Ljava/lang/Object;[Ljava/lang/Object;I)V"⟩, 3), (⟨"java/util/ArrayList", "grow", "()[Ljava/lang/Object;"⟩, 3), (⟨"java/util/ArrayList", "grow", "(I)[Ljava/lang/Object;"⟩, 3), (⟨"BoxDesk", "boxIn", "(I)LBoxDesk$Box;"⟩, 4), (⟨"java/lang/Throwable", "fillInStackTrace", "(I)Ljava/lang/Throwable;"⟩, 6), (⟨"BoxDeskModel", "isVertical", "()Z"⟩, 21), (⟨"BoxDeskModel", "add", "(ZIIIIIII)Z"⟩, 21), (⟨"BoxDeskModel", "hasRoom", "(I)Z"⟩, 21), (⟨"BoxDeskModel", "shelved", "()I"⟩, 21), (⟨"BoxDeskModel", "fails", "(I)I"⟩, 21), (⟨"BoxDeskModel", "measureHigh", "(II)V"⟩, 21), (⟨"BoxDeskModel", "measure", "(I)V"⟩, 21), (⟨"BoxDeskModel", "isBox", "(I)Z"⟩, 21), (⟨"BoxDeskModel", "isSolid", "(I)Z"⟩, 21)]
theorem lw_r1 : ∀ q ∈ lw_privs_1, lw_okq q := List.forall_mem_cons.mpr ⟨lw_p0, List.forall_mem_cons.mpr ⟨lw_p1, List.forall_mem_cons.mpr ⟨lw_p2, List.forall_mem_cons.mpr ⟨lw_p3, List.forall_mem_cons.mpr ⟨lw_p4, List.forall_mem_cons.mpr ⟨lw_p5, List.forall_mem_cons.mpr ⟨lw_p6, List.forall_mem_cons.mpr ⟨lw_p7, List.forall_mem_cons.mpr ⟨lw_p8, List.forall_mem_cons.mpr ⟨lw_p9, List.forall_mem_cons.mpr ⟨lw_p10, List.forall_mem_cons.mpr ⟨lw_p11, List.forall_mem_cons.mpr ⟨lw_p12, List.forall_mem_cons.mpr ⟨lw_p13, List.forall_mem_cons.mpr ⟨lw_p14, List.forall_mem_cons.mpr ⟨lw_p15, fun _ h => absurd h List.not_mem_nil⟩⟩⟩⟩⟩⟩⟩⟩⟩⟩⟩⟩⟩⟩⟩⟩
theorem lw_p16 : lw_okq (⟨"BoxDeskModel", "measureWide", "(I)V"⟩, 21) := ⟨⟨by decide +kernel, by decide +kernel⟩, List.mem_of_getElem? (i := 608) (by decide +kernel), List.mem_of_getElem? (i := 753) (by decide +kernel), List.mem_of_getElem? (i := 754) (by decide +kernel)⟩
theorem lw_p17 : lw_okq (⟨"BoxDeskModel", "nested", "(II)I"⟩, 21) := ⟨⟨by decide +kernel, by decide +kernel⟩, List.mem_of_getElem? (i := 608) (by decide +kernel), List.mem_of_getElem? (i := 762) (by decide +kernel), List.mem_of_getElem? (i := 763) (by decide +kernel)⟩
theorem lw_p18 : lw_okq (⟨"BoxDeskModel", "share", "(IJ)V"⟩, 21) := ⟨⟨by decide +kernel, by decide +kernel⟩, List.mem_of_getElem? (i := 608) (by decide +kernel), List.mem_of_getElem? (i := 766) (by decide +kernel), List.mem_of_getElem? (i := 767) (by decide +kernel)⟩
theorem lw_p19 : lw_okq (⟨"BoxDeskModel", "empty", "(I)V"⟩, 21) := ⟨⟨by decide +kernel, by decide +kernel⟩, List.mem_of_getElem? (i := 608) (by decide +kernel), List.mem_of_getElem? (i := 777) (by decide +kernel), List.mem_of_getElem? (i := 778) (by decide +kernel)⟩
theorem lw_p20 : lw_okq (⟨"BoxDeskModel", "start", "(I)I"⟩, 21) := ⟨⟨by decide +kernel, by decide +kernel⟩, List.mem_of_getElem? (i := 608) (by decide +kernel), List.mem_of_getElem? (i := 781) (by decide +kernel), List.mem_of_getElem? (i := 782) (by decide +kernel)⟩
theorem lw_p21 : lw_okq (⟨"BoxDeskModel", "move", "(II)V"⟩, 21) := ⟨⟨by decide +kernel, by decide +kernel⟩, List.mem_of_getElem? (i := 608) (by decide +kernel), List.mem_of_getElem? (i := 785) (by decide +kernel), List.mem_of_getElem? (i := 786) (by decide +kernel)⟩
theorem lw_p22 : lw_okq (⟨"BoxDeskModel", "make", "(II)V"⟩, 21) := ⟨⟨by decide +kernel, by decide +kernel⟩, List.mem_of_getElem? (i := 608) (by decide +kernel), List.mem_of_getElem? (i := 789) (by decide +kernel), List.mem_of_getElem? (i := 790) (by decide +kernel)⟩
theorem lw_p23 : lw_okq (⟨"BoxDeskModel", "isFull", "(I)Z"⟩, 21) := ⟨⟨by decide +kernel, by decide +kernel⟩, List.mem_of_getElem? (i := 608) (by decide +kernel), List.mem_of_getElem? (i := 797) (by decide +kernel), List.mem_of_getElem? (i := 798) (by decide +kernel)⟩
theorem lw_p24 : lw_okq (⟨"BoxDeskModel", "items", "(I)I"⟩, 21) := ⟨⟨by decide +kernel, by decide +kernel⟩, List.mem_of_getElem? (i := 608) (by decide +kernel), List.mem_of_getElem? (i := 813) (by decide +kernel), List.mem_of_getElem? (i := 814) (by decide +kernel)⟩
def lw_privs_2 : List (MethodName × Nat) := [(⟨"BoxDeskModel", "measureWide", "(I)V"⟩, 21), (⟨"BoxDeskModel", "nested", "(II)I"⟩, 21), (⟨"BoxDeskModel", "share", "(IJ)V"⟩, 21), (⟨"BoxDeskModel", "empty", "(I)V"⟩, 21), (⟨"BoxDeskModel", "start", "(I)I"⟩, 21), (⟨"BoxDeskModel", "move", "(II)V"⟩, 21), (⟨"BoxDeskModel", "make", "(II)V"⟩, 21), (⟨"BoxDeskModel", "isFull", "(I)Z"⟩, 21), (⟨"BoxDeskModel", "items", "(I)I"⟩, 21)]
theorem lw_r2 : ∀ q ∈ lw_privs_2, lw_okq q := List.forall_mem_cons.mpr ⟨lw_p16, List.forall_mem_cons.mpr ⟨lw_p17, List.forall_mem_cons.mpr ⟨lw_p18, List.forall_mem_cons.mpr ⟨lw_p19, List.forall_mem_cons.mpr ⟨lw_p20, List.forall_mem_cons.mpr ⟨lw_p21, List.forall_mem_cons.mpr ⟨lw_p22, List.forall_mem_cons.mpr ⟨lw_p23, List.forall_mem_cons.mpr ⟨lw_p24, fun _ h => absurd h List.not_mem_nil⟩⟩⟩⟩⟩⟩⟩⟩⟩
def lw_privs : List (MethodName × Nat) := lw_privs_1 ++ (lw_privs_2)
def lw_tbl : List Cond := k2_sels lw_privs ++ tables_1
theorem lw_privs_ok : ∀ q ∈ lw_privs, lw_okq q := by
  show ∀ q ∈ lw_privs_1 ++ (lw_privs_2), lw_okq q
  exact List.forall_mem_append.mpr ⟨lw_r1, lw_r2⟩

/-! the words that stay true under warmer tables; the words of a method: its code and these -/
def TB : List Cond := lw_tbl.filter goodWord
theorem TB_in {w : Cond} (h : w ∈ tables_1) (g : goodWord w = true) : w ∈ TB := List.mem_filter.mpr ⟨List.mem_append_right _ h, g⟩
theorem TB_inS {w : Cond} (h : w ∈ k2_sels lw_privs) (g : goodWord w = true) : w ∈ TB := List.mem_filter.mpr ⟨List.mem_append_left _ h, g⟩
theorem TB_good : ∀ w ∈ TB, (w.onTables && w.keeps) = true ∨ ∃ ty, w = .arrayClass ty := fun _ h => good_of_word (List.mem_filter.mp h).2
theorem TB_lw : ∀ w ∈ TB, w ∈ lw_tbl := fun _ h => (List.mem_filter.mp h).1
def zws (y : MethodName) (cc : ByteArray) (n : Nat) (r : Option FieldType) : List Cond := Cond.code y cc n r :: TB
theorem zws_good {y : MethodName} {cy : ByteArray} {ny : Nat} {ry : Option FieldType} (hy : Cond.code y cy ny ry ∈ TB) : GoodIn TB (zws y cy ny ry) := by
  intro w h
  rcases List.mem_cons.mp h with rfl | h
  · exact ⟨hy, TB_good _ hy⟩
  · exact ⟨h, TB_good _ h⟩
/-- words of the tables that need laws of their own to stay true -/
def nbWord : Cond → Bool
  | .castable .. => true
  | .methodLinkNest .. => true
  | .arrayOver (.object _) => true
  | _ => false
def NB : List Cond := tables_1.filter nbWord
theorem NB_in {w : Cond} (h : w ∈ tables_1) (g : nbWord w = true) : w ∈ NB := List.mem_filter.mpr ⟨h, g⟩
theorem NB_lw : ∀ w ∈ NB, w ∈ lw_tbl ∧ nbWord w = true := fun _ h => ⟨List.mem_append_right _ (List.mem_filter.mp h).1, (List.mem_filter.mp h).2⟩
theorem nb_of {w : Cond} (h : nbWord w = true) {A : Array Value} {U : State} (hb : w.before A U = true) : va_Nw w U := by
  cases w <;> first | (simp [nbWord] at h; done) | exact va_Nw.of rfl hb | exact hb
theorem nb_use {w : Cond} (h : nbWord w = true) {A : Array Value} {U : State} (hb : va_Nw w U) : w.before A U = true := by
  cases w <;> first | (simp [nbWord] at h; done) | exact va_Nw.use rfl hb | exact hb
theorem nb_warm {w : Cond} (h : nbWord w = true) {s U : State} (hW : s.WarmedH U.vm) (hZ : va_Nw w s) : va_Nw w U := by
  cases w <;> first | (simp [nbWord] at h; done) | exact va_Nw.warmC hW hZ | exact va_Nw.warmM hW hZ | skip
  rename_i ty
  cases ty <;> first | (simp [nbWord] at h; done) | exact va_AO.moved hW.alike hZ
end
section
/-! printed: classes, fields; methods -/
def R_A : String := "java/util/ArrayList"
def T_A : u_T := fun k => match k with
  | 0 => ("java/util/AbstractList", "modCount", "I", false)
  | 1 => ("java/util/ArrayList", "elementData", "[Ljava/lang/Object;", false)
  | _ => ("java/util/ArrayList", "size", "I", false)
def ty_A : Nat → FieldType := fun k => match k with
  | 0 => .int
  | 1 => .array (.object "java/lang/Object")
  | _ => .int
theorem nm_A : ∀ a, a < 3 → ∀ b, b < 3 → a ≠ b → (T_A a).2.1 ≠ (T_A b).2.1 := by decide +kernel
theorem ty_A_ok : ∀ k, k < 3 → parseFieldDescriptor (T_A k).2.2.1 = some (ty_A k) := by decide +kernel
theorem in_A : ∀ w ∈ u_ws R_A T_A 3, w ∈ TB := by
  intro w h
  obtain ⟨k, hk, rfl⟩ := List.mem_map.mp h
  have hk := List.mem_range.mp hk
  match k, hk with
  | 0, _ => exact TB_in (List.mem_of_getElem? (i := 80) (by decide +kernel)) (by decide +kernel)
  | 1, _ => exact TB_in (List.mem_of_getElem? (i := 76) (by decide +kernel)) (by decide +kernel)
  | 2, _ => exact TB_in (List.mem_of_getElem? (i := 78) (by decide +kernel)) (by decide +kernel)
  | k + 3, hk => exact absurd hk (by omega)
def R_I : String := "BoxDesk$Item"
def T_I : u_T := fun k => match k with
  | 0 => ("BoxDesk$Item", "kind", "I", true)
  | 1 => ("BoxDesk$Item", "width", "I", true)
  | 2 => ("BoxDesk$Item", "height", "I", true)
  | 3 => ("BoxDesk$Item", "depth", "I", true)
  | 4 => ("BoxDesk$Item", "running", "I", false)
  | 5 => ("BoxDesk$Item", "number", "I", false)
  | 6 => ("BoxDesk$Item", "stretch", "I", false)
  | 7 => ("BoxDesk$Item", "order", "I", false)
  | 8 => ("BoxDesk$Item", "shrink", "I", false)
  | 9 => ("BoxDesk$Item", "shift", "I", false)
  | 10 => ("BoxDesk$Item", "within", "I", false)
  | _ => ("BoxDesk$Item", "nesting", "I", false)
def ty_I : Nat → FieldType := fun k => match k with
  | 0 => .int
  | 1 => .int
  | 2 => .int
  | 3 => .int
  | 4 => .int
  | 5 => .int
  | 6 => .int
  | 7 => .int
  | 8 => .int
  | 9 => .int
  | 10 => .int
  | _ => .int
theorem nm_I : ∀ a, a < 12 → ∀ b, b < 12 → a ≠ b → (T_I a).2.1 ≠ (T_I b).2.1 := by decide +kernel
theorem ty_I_ok : ∀ k, k < 12 → parseFieldDescriptor (T_I k).2.2.1 = some (ty_I k) := by decide +kernel
theorem in_I : ∀ w ∈ u_ws R_I T_I 12, w ∈ TB := by
  intro w h
  obtain ⟨k, hk, rfl⟩ := List.mem_map.mp h
  have hk := List.mem_range.mp hk
  match k, hk with
  | 0, _ => exact TB_in (List.mem_of_getElem? (i := 141) (by decide +kernel)) (by decide +kernel)
  | 1, _ => exact TB_in (List.mem_of_getElem? (i := 143) (by decide +kernel)) (by decide +kernel)
  | 2, _ => exact TB_in (List.mem_of_getElem? (i := 145) (by decide +kernel)) (by decide +kernel)
  | 3, _ => exact TB_in (List.mem_of_getElem? (i := 147) (by decide +kernel)) (by decide +kernel)
  | 4, _ => exact TB_in (List.mem_of_getElem? (i := 149) (by decide +kernel)) (by decide +kernel)
  | 5, _ => exact TB_in (List.mem_of_getElem? (i := 151) (by decide +kernel)) (by decide +kernel)
  | 6, _ => exact TB_in (List.mem_of_getElem? (i := 153) (by decide +kernel)) (by decide +kernel)
  | 7, _ => exact TB_in (List.mem_of_getElem? (i := 155) (by decide +kernel)) (by decide +kernel)
  | 8, _ => exact TB_in (List.mem_of_getElem? (i := 157) (by decide +kernel)) (by decide +kernel)
  | 9, _ => exact TB_in (List.mem_of_getElem? (i := 159) (by decide +kernel)) (by decide +kernel)
  | 10, _ => exact TB_in (List.mem_of_getElem? (i := 161) (by decide +kernel)) (by decide +kernel)
  | 11, _ => exact TB_in (List.mem_of_getElem? (i := 163) (by decide +kernel)) (by decide +kernel)
  | k + 12, hk => exact absurd hk (by omega)
def R_L : String := "BoxDesk$ItemList"
def T_L : u_T := fun k => match k with
  | 0 => ("BoxDesk$ItemList", "vertical", "Z", true)
  | _ => ("BoxDesk$ItemList", "items", "Ljava/util/ArrayList;", true)
def ty_L : Nat → FieldType := fun k => match k with
  | 0 => .boolean
  | _ => .object "java/util/ArrayList"
theorem nm_L : ∀ a, a < 2 → ∀ b, b < 2 → a ≠ b → (T_L a).2.1 ≠ (T_L b).2.1 := by decide +kernel
theorem ty_L_ok : ∀ k, k < 2 → parseFieldDescriptor (T_L k).2.2.1 = some (ty_L k) := by decide +kernel
theorem in_L : ∀ w ∈ u_ws R_L T_L 2, w ∈ TB := by
  intro w h
  obtain ⟨k, hk, rfl⟩ := List.mem_map.mp h
  have hk := List.mem_range.mp hk
  match k, hk with
  | 0, _ => exact TB_in (List.mem_of_getElem? (i := 90) (by decide +kernel)) (by decide +kernel)
  | 1, _ => exact TB_in (List.mem_of_getElem? (i := 92) (by decide +kernel)) (by decide +kernel)
  | k + 2, hk => exact absurd hk (by omega)
def R_M : String := "BoxDesk$Measure"
def T_M : u_T := fun k => match k with
  | 0 => ("BoxDesk$Measure", "natural", "J", false)
  | 1 => ("BoxDesk$Measure", "greatest", "J", false)
  | 2 => ("BoxDesk$Measure", "height", "J", false)
  | 3 => ("BoxDesk$Measure", "depth", "J", false)
  | 4 => ("BoxDesk$Measure", "stretches", "[J", true)
  | 5 => ("BoxDesk$Measure", "shrinks", "J", false)
  | 6 => ("BoxDesk$Measure", "within", "I", false)
  | _ => ("BoxDesk$Measure", "nestedInside", "I", false)
def ty_M : Nat → FieldType := fun k => match k with
  | 0 => .long
  | 1 => .long
  | 2 => .long
  | 3 => .long
  | 4 => .array .long
  | 5 => .long
  | 6 => .int
  | _ => .int
theorem nm_M : ∀ a, a < 8 → ∀ b, b < 8 → a ≠ b → (T_M a).2.1 ≠ (T_M b).2.1 := by decide +kernel
theorem ty_M_ok : ∀ k, k < 8 → parseFieldDescriptor (T_M k).2.2.1 = some (ty_M k) := by decide +kernel
theorem in_M : ∀ w ∈ u_ws R_M T_M 8, w ∈ TB := by
  intro w h
  obtain ⟨k, hk, rfl⟩ := List.mem_map.mp h
  have hk := List.mem_range.mp hk
  match k, hk with
  | 0, _ => exact TB_in (List.mem_of_getElem? (i := 423) (by decide +kernel)) (by decide +kernel)
  | 1, _ => exact TB_in (List.mem_of_getElem? (i := 425) (by decide +kernel)) (by decide +kernel)
  | 2, _ => exact TB_in (List.mem_of_getElem? (i := 427) (by decide +kernel)) (by decide +kernel)
  | 3, _ => exact TB_in (List.mem_of_getElem? (i := 429) (by decide +kernel)) (by decide +kernel)
  | 4, _ => exact TB_in (List.mem_of_getElem? (i := 431) (by decide +kernel)) (by decide +kernel)
  | 5, _ => exact TB_in (List.mem_of_getElem? (i := 433) (by decide +kernel)) (by decide +kernel)
  | 6, _ => exact TB_in (List.mem_of_getElem? (i := 435) (by decide +kernel)) (by decide +kernel)
  | 7, _ => exact TB_in (List.mem_of_getElem? (i := 437) (by decide +kernel)) (by decide +kernel)
  | k + 8, hk => exact absurd hk (by omega)
def R_B : String := "BoxDesk$Box"
def T_B : u_T := fun k => match k with
  | 0 => ("BoxDesk$Box", "list", "LBoxDesk$ItemList;", true)
  | 1 => ("BoxDesk$Box", "setWidths", "[I", true)
  | 2 => ("BoxDesk$Box", "within", "I", true)
  | 3 => ("BoxDesk$Box", "nesting", "I", true)
  | 4 => ("BoxDesk$Box", "width", "I", false)
  | 5 => ("BoxDesk$Box", "height", "I", false)
  | _ => ("BoxDesk$Box", "depth", "I", false)
def ty_B : Nat → FieldType := fun k => match k with
  | 0 => .object "BoxDesk$ItemList"
  | 1 => .array .int
  | 2 => .int
  | 3 => .int
  | 4 => .int
  | 5 => .int
  | _ => .int
theorem nm_B : ∀ a, a < 7 → ∀ b, b < 7 → a ≠ b → (T_B a).2.1 ≠ (T_B b).2.1 := by decide +kernel
theorem ty_B_ok : ∀ k, k < 7 → parseFieldDescriptor (T_B k).2.2.1 = some (ty_B k) := by decide +kernel
theorem in_B : ∀ w ∈ u_ws R_B T_B 7, w ∈ TB := by
  intro w h
  obtain ⟨k, hk, rfl⟩ := List.mem_map.mp h
  have hk := List.mem_range.mp hk
  match k, hk with
  | 0, _ => exact TB_in (List.mem_of_getElem? (i := 544) (by decide +kernel)) (by decide +kernel)
  | 1, _ => exact TB_in (List.mem_of_getElem? (i := 546) (by decide +kernel)) (by decide +kernel)
  | 2, _ => exact TB_in (List.mem_of_getElem? (i := 548) (by decide +kernel)) (by decide +kernel)
  | 3, _ => exact TB_in (List.mem_of_getElem? (i := 550) (by decide +kernel)) (by decide +kernel)
  | 4, _ => exact TB_in (List.mem_of_getElem? (i := 552) (by decide +kernel)) (by decide +kernel)
  | 5, _ => exact TB_in (List.mem_of_getElem? (i := 554) (by decide +kernel)) (by decide +kernel)
  | 6, _ => exact TB_in (List.mem_of_getElem? (i := 556) (by decide +kernel)) (by decide +kernel)
  | k + 7, hk => exact absurd hk (by omega)
def R_D : String := "BoxDesk"
def T_D : u_T := fun k => match k with
  | 0 => ("BoxDesk", "lists", "[LBoxDesk$ItemList;", true)
  | 1 => ("BoxDesk", "openLists", "I", false)
  | 2 => ("BoxDesk", "registers", "[LBoxDesk$Box;", true)
  | _ => ("BoxDesk", "itemsInAll", "I", false)
def ty_D : Nat → FieldType := fun k => match k with
  | 0 => .array (.object "BoxDesk$ItemList")
  | 1 => .int
  | 2 => .array (.object "BoxDesk$Box")
  | _ => .int
theorem nm_D : ∀ a, a < 4 → ∀ b, b < 4 → a ≠ b → (T_D a).2.1 ≠ (T_D b).2.1 := by decide +kernel
theorem ty_D_ok : ∀ k, k < 4 → parseFieldDescriptor (T_D k).2.2.1 = some (ty_D k) := by decide +kernel
theorem in_D : ∀ w ∈ u_ws R_D T_D 4, w ∈ TB := by
  intro w h
  obtain ⟨k, hk, rfl⟩ := List.mem_map.mp h
  have hk := List.mem_range.mp hk
  match k, hk with
  | 0, _ => exact TB_in (List.mem_of_getElem? (i := 39) (by decide +kernel)) (by decide +kernel)
  | 1, _ => exact TB_in (List.mem_of_getElem? (i := 41) (by decide +kernel)) (by decide +kernel)
  | 2, _ => exact TB_in (List.mem_of_getElem? (i := 43) (by decide +kernel)) (by decide +kernel)
  | 3, _ => exact TB_in (List.mem_of_getElem? (i := 45) (by decide +kernel)) (by decide +kernel)
  | k + 4, hk => exact absurd hk (by omega)
def R_R : String := "BoxDeskModel"
def T_R : u_T := fun k => match k with
  | 0 => ("BoxDeskModel", "thrown", "I", false)
  | 1 => ("BoxDeskModel", "kind", "[I", true)
  | 2 => ("BoxDeskModel", "wide", "[I", true)
  | 3 => ("BoxDeskModel", "high", "[I", true)
  | 4 => ("BoxDeskModel", "deep", "[I", true)
  | 5 => ("BoxDeskModel", "shift", "[I", true)
  | 6 => ("BoxDeskModel", "order", "[I", true)
  | 7 => ("BoxDeskModel", "shrink", "[I", true)
  | 8 => ("BoxDeskModel", "more", "[J", true)
  | 9 => ("BoxDeskModel", "span", "[I", true)
  | 10 => ("BoxDeskModel", "lists", "I", false)
  | 11 => ("BoxDeskModel", "begin", "[I", true)
  | 12 => ("BoxDeskModel", "vertical", "[Z", true)
  | 13 => ("BoxDeskModel", "end", "I", false)
  | 14 => ("BoxDeskModel", "size", "[I", true)
  | 15 => ("BoxDeskModel", "natural", "J", false)
  | 16 => ("BoxDeskModel", "height", "J", false)
  | 17 => ("BoxDeskModel", "depth", "J", false)
  | 18 => ("BoxDeskModel", "width", "J", false)
  | 19 => ("BoxDeskModel", "stretches", "[J", true)
  | _ => ("BoxDeskModel", "shrinks", "J", false)
def ty_R : Nat → FieldType := fun k => match k with
  | 0 => .int
  | 1 => .array .int
  | 2 => .array .int
  | 3 => .array .int
  | 4 => .array .int
  | 5 => .array .int
  | 6 => .array .int
  | 7 => .array .int
  | 8 => .array .long
  | 9 => .array .int
  | 10 => .int
  | 11 => .array .int
  | 12 => .array .boolean
  | 13 => .int
  | 14 => .array .int
  | 15 => .long
  | 16 => .long
  | 17 => .long
  | 18 => .long
  | 19 => .array .long
  | _ => .long
theorem nm_R : ∀ a, a < 21 → ∀ b, b < 21 → a ≠ b → (T_R a).2.1 ≠ (T_R b).2.1 := by decide +kernel
theorem ty_R_ok : ∀ k, k < 21 → parseFieldDescriptor (T_R k).2.2.1 = some (ty_R k) := by decide +kernel
theorem in_R : ∀ w ∈ u_ws R_R T_R 21, w ∈ TB := by
  intro w h
  obtain ⟨k, hk, rfl⟩ := List.mem_map.mp h
  have hk := List.mem_range.mp hk
  match k, hk with
  | 0, _ => exact TB_in (List.mem_of_getElem? (i := 634) (by decide +kernel)) (by decide +kernel)
  | 1, _ => exact TB_in (List.mem_of_getElem? (i := 636) (by decide +kernel)) (by decide +kernel)
  | 2, _ => exact TB_in (List.mem_of_getElem? (i := 638) (by decide +kernel)) (by decide +kernel)
  | 3, _ => exact TB_in (List.mem_of_getElem? (i := 640) (by decide +kernel)) (by decide +kernel)
  | 4, _ => exact TB_in (List.mem_of_getElem? (i := 642) (by decide +kernel)) (by decide +kernel)
  | 5, _ => exact TB_in (List.mem_of_getElem? (i := 644) (by decide +kernel)) (by decide +kernel)
  | 6, _ => exact TB_in (List.mem_of_getElem? (i := 646) (by decide +kernel)) (by decide +kernel)
  | 7, _ => exact TB_in (List.mem_of_getElem? (i := 648) (by decide +kernel)) (by decide +kernel)
  | 8, _ => exact TB_in (List.mem_of_getElem? (i := 650) (by decide +kernel)) (by decide +kernel)
  | 9, _ => exact TB_in (List.mem_of_getElem? (i := 652) (by decide +kernel)) (by decide +kernel)
  | 10, _ => exact TB_in (List.mem_of_getElem? (i := 654) (by decide +kernel)) (by decide +kernel)
  | 11, _ => exact TB_in (List.mem_of_getElem? (i := 656) (by decide +kernel)) (by decide +kernel)
  | 12, _ => exact TB_in (List.mem_of_getElem? (i := 658) (by decide +kernel)) (by decide +kernel)
  | 13, _ => exact TB_in (List.mem_of_getElem? (i := 660) (by decide +kernel)) (by decide +kernel)
  | 14, _ => exact TB_in (List.mem_of_getElem? (i := 662) (by decide +kernel)) (by decide +kernel)
  | 15, _ => exact TB_in (List.mem_of_getElem? (i := 664) (by decide +kernel)) (by decide +kernel)
  | 16, _ => exact TB_in (List.mem_of_getElem? (i := 666) (by decide +kernel)) (by decide +kernel)
  | 17, _ => exact TB_in (List.mem_of_getElem? (i := 668) (by decide +kernel)) (by decide +kernel)
  | 18, _ => exact TB_in (List.mem_of_getElem? (i := 670) (by decide +kernel)) (by decide +kernel)
  | 19, _ => exact TB_in (List.mem_of_getElem? (i := 672) (by decide +kernel)) (by decide +kernel)
  | 20, _ => exact TB_in (List.mem_of_getElem? (i := 674) (by decide +kernel)) (by decide +kernel)
  | k + 21, hk => exact absurd hk (by omega)
def vwC : List vw_C := [(R_A, T_A, 3), (R_I, T_I, 12), (R_L, T_L, 2), (R_M, T_M, 8), (R_B, T_B, 7), (R_D, T_D, 4), (R_R, T_R, 21)]
end
section
/-! printed: the words by their places in the tables -/
theorem tg_1 {w : Cond} (h : w ∈ tables_1_1) : w ∈ tables_1 := List.mem_append_left _ h
theorem tg_2 {w : Cond} (h : w ∈ tables_1_2) : w ∈ tables_1 := List.mem_append_right _ (List.mem_append_left _ h)
theorem tg_3 {w : Cond} (h : w ∈ tables_1_3) : w ∈ tables_1 := List.mem_append_right _ (List.mem_append_right _ (List.mem_append_left _ h))
theorem tg_4 {w : Cond} (h : w ∈ tables_1_4) : w ∈ tables_1 := List.mem_append_right _ (List.mem_append_right _ (List.mem_append_right _ h))
theorem tw_0 : (Jvm.Cond.initialized "BoxDeskLaw") ∈ TB := TB_in (tg_1 (List.mem_of_getElem? (i := 0) rfl)) rfl
theorem tw_1 : (Jvm.Cond.initialized "BoxDesk") ∈ TB := TB_in (tg_1 (List.mem_of_getElem? (i := 1) rfl)) rfl
theorem tw_2 : (Jvm.Cond.initialized "BoxDeskModel") ∈ TB := TB_in (tg_1 (List.mem_of_getElem? (i := 2) rfl)) rfl
theorem tw_3 : (Jvm.Cond.initialized "BoxDesk$ItemList") ∈ TB := TB_in (tg_1 (List.mem_of_getElem? (i := 3) rfl)) rfl
theorem tw_4 : (Jvm.Cond.initialized "java/util/AbstractCollection") ∈ TB := TB_in (tg_1 (List.mem_of_getElem? (i := 4) rfl)) rfl
theorem tw_5 : (Jvm.Cond.initialized "java/util/AbstractList") ∈ TB := TB_in (tg_1 (List.mem_of_getElem? (i := 5) rfl)) rfl
theorem tw_6 : (Jvm.Cond.initialized "java/util/ArrayList") ∈ TB := TB_in (tg_1 (List.mem_of_getElem? (i := 6) rfl)) rfl
theorem tw_7 : (Jvm.Cond.initialized "BoxDesk$Item") ∈ TB := TB_in (tg_1 (List.mem_of_getElem? (i := 7) rfl)) rfl
theorem tw_8 : (Jvm.Cond.initialized "jdk/internal/util/ArraysSupport") ∈ TB := TB_in (tg_1 (List.mem_of_getElem? (i := 8) rfl)) rfl
theorem tw_9 : (Jvm.Cond.initialized "java/lang/Math") ∈ TB := TB_in (tg_1 (List.mem_of_getElem? (i := 9) rfl)) rfl
theorem tw_10 : (Jvm.Cond.initialized "java/util/Arrays") ∈ TB := TB_in (tg_1 (List.mem_of_getElem? (i := 10) rfl)) rfl
theorem tw_11 : (Jvm.Cond.initialized "java/lang/System") ∈ TB := TB_in (tg_1 (List.mem_of_getElem? (i := 11) rfl)) rfl
theorem tw_12 : (Jvm.Cond.initialized "java/lang/Throwable") ∈ TB := TB_in (tg_1 (List.mem_of_getElem? (i := 12) rfl)) rfl
theorem tw_13 : (Jvm.Cond.initialized "java/lang/Exception") ∈ TB := TB_in (tg_1 (List.mem_of_getElem? (i := 13) rfl)) rfl
theorem tw_14 : (Jvm.Cond.initialized "java/lang/RuntimeException") ∈ TB := TB_in (tg_1 (List.mem_of_getElem? (i := 14) rfl)) rfl
theorem tw_15 : (Jvm.Cond.initialized "java/lang/IllegalStateException") ∈ TB := TB_in (tg_1 (List.mem_of_getElem? (i := 15) rfl)) rfl
theorem tw_16 : (Jvm.Cond.initialized "java/lang/IllegalArgumentException") ∈ TB := TB_in (tg_1 (List.mem_of_getElem? (i := 16) rfl)) rfl
theorem tw_17 : (Jvm.Cond.initialized "BoxDesk$Measure") ∈ TB := TB_in (tg_1 (List.mem_of_getElem? (i := 17) rfl)) rfl
theorem tw_18 : (Jvm.Cond.initialized "java/util/Objects") ∈ TB := TB_in (tg_1 (List.mem_of_getElem? (i := 18) rfl)) rfl
theorem tw_19 : (Jvm.Cond.initialized "jdk/internal/util/Preconditions") ∈ TB := TB_in (tg_1 (List.mem_of_getElem? (i := 19) rfl)) rfl
theorem tw_20 : (Jvm.Cond.initialized "java/lang/UnsupportedOperationException") ∈ TB := TB_in (tg_1 (List.mem_of_getElem? (i := 20) rfl)) rfl
theorem tw_21 : (Jvm.Cond.initialized "BoxDesk$Box") ∈ TB := TB_in (tg_1 (List.mem_of_getElem? (i := 21) rfl)) rfl
theorem tw_22 : (Jvm.Cond.initialized "java/lang/IndexOutOfBoundsException") ∈ TB := TB_in (tg_1 (List.mem_of_getElem? (i := 22) rfl)) rfl
theorem tw_23 : (Jvm.Cond.classLink "BoxDeskLaw" (8 : Nat) "BoxDesk") ∈ TB := TB_in (tg_1 (List.mem_of_getElem? (i := 23) rfl)) rfl
theorem tw_24 : (Jvm.Cond.instantiable "BoxDesk" (4 : Nat)) ∈ TB := TB_in (tg_1 (List.mem_of_getElem? (i := 24) rfl)) rfl
theorem tw_25 : (Jvm.Cond.methodLink "BoxDeskLaw" (29 : Nat) ({ cls := "BoxDesk", name := "<init>", desc := "()V" } : Jvm.MethodName)) ∈ TB := TB_in (tg_1 (List.mem_of_getElem? (i := 25) rfl)) rfl
theorem tw_26 : (Jvm.Cond.instanceMethod ({ cls := "BoxDesk", name := "<init>", desc := "()V" } : Jvm.MethodName)) ∈ TB := TB_in (tg_1 (List.mem_of_getElem? (i := 26) rfl)) rfl
theorem tw_27 : (Jvm.Cond.code ({ cls := "BoxDesk", name := "<init>", desc := "()V" } : Jvm.MethodName) prog_1_method_1_code (1 : Nat) (Option.none : Option Jvm.ClassFile.FieldType)) ∈ TB := TB_in (tg_1 (List.mem_of_getElem? (i := 27) rfl)) rfl
theorem tw_28 : (Jvm.Cond.methodLink "BoxDesk" (1 : Nat) ({ cls := "java/lang/Object", name := "<init>", desc := "()V" } : Jvm.MethodName)) ∈ TB := TB_in (tg_1 (List.mem_of_getElem? (i := 28) rfl)) rfl
theorem tw_29 : (Jvm.Cond.instanceMethod ({ cls := "java/lang/Object", name := "<init>", desc := "()V" } : Jvm.MethodName)) ∈ TB := TB_in (tg_1 (List.mem_of_getElem? (i := 29) rfl)) rfl
theorem tw_30 : (Jvm.Cond.code ({ cls := "java/lang/Object", name := "<init>", desc := "()V" } : Jvm.MethodName) object_method_1_code (1 : Nat) (Option.none : Option Jvm.ClassFile.FieldType)) ∈ TB := TB_in (tg_1 (List.mem_of_getElem? (i := 30) rfl)) rfl
theorem tw_31 : (Jvm.Cond.classLink "BoxDesk" (9 : Nat) "BoxDesk$ItemList") ∈ TB := TB_in (tg_1 (List.mem_of_getElem? (i := 31) rfl)) rfl
theorem nw_32 : (Jvm.Cond.arrayOver (Jvm.ClassFile.FieldType.object "BoxDesk$ItemList")) ∈ NB := NB_in (tg_1 (List.mem_of_getElem? (i := 32) rfl)) rfl
theorem tw_33 : (Jvm.Cond.classLink "BoxDesk" (15 : Nat) "BoxDesk$Box") ∈ TB := TB_in (tg_1 (List.mem_of_getElem? (i := 33) rfl)) rfl
theorem nw_34 : (Jvm.Cond.arrayOver (Jvm.ClassFile.FieldType.object "BoxDesk$Box")) ∈ NB := NB_in (tg_1 (List.mem_of_getElem? (i := 34) rfl)) rfl
theorem tw_35 : (Jvm.Cond.fieldLink "BoxDesk" (11 : Nat) "BoxDesk" "lists" "[LBoxDesk$ItemList;") ∈ TB := TB_in (tg_1 (List.mem_of_getElem? (i := 35) rfl)) rfl
theorem tw_36 : (Jvm.Cond.fieldLink "BoxDesk" (21 : Nat) "BoxDesk" "openLists" "I") ∈ TB := TB_in (tg_1 (List.mem_of_getElem? (i := 36) rfl)) rfl
theorem tw_37 : (Jvm.Cond.fieldLink "BoxDesk" (17 : Nat) "BoxDesk" "registers" "[LBoxDesk$Box;") ∈ TB := TB_in (tg_1 (List.mem_of_getElem? (i := 37) rfl)) rfl
theorem tw_38 : (Jvm.Cond.fieldLink "BoxDesk" (94 : Nat) "BoxDesk" "itemsInAll" "I") ∈ TB := TB_in (tg_1 (List.mem_of_getElem? (i := 38) rfl)) rfl
theorem tw_47 : (Jvm.Cond.superclass "BoxDesk" "java/lang/Object") ∈ TB := TB_in (tg_1 (List.mem_of_getElem? (i := 47) rfl)) rfl
theorem tw_48 : (Jvm.Cond.methodLink "BoxDeskLaw" (33 : Nat) ({ cls := "BoxDesk", name := "open", desc := "(Z)Z" } : Jvm.MethodName)) ∈ TB := TB_in (tg_1 (List.mem_of_getElem? (i := 48) rfl)) rfl
theorem tw_49 : (Jvm.Cond.instanceMethod ({ cls := "BoxDesk", name := "open", desc := "(Z)Z" } : Jvm.MethodName)) ∈ TB := TB_in (tg_1 (List.mem_of_getElem? (i := 49) rfl)) rfl
theorem tw_50 : (Jvm.Cond.selects "BoxDesk" ({ cls := "BoxDesk", name := "open", desc := "(Z)Z" } : Jvm.MethodName) ({ cls := "BoxDesk", name := "open", desc := "(Z)Z" } : Jvm.MethodName)) ∈ TB := TB_in (tg_1 (List.mem_of_getElem? (i := 50) rfl)) rfl
theorem tw_51 : (Jvm.Cond.code ({ cls := "BoxDesk", name := "open", desc := "(Z)Z" } : Jvm.MethodName) prog_1_method_2_code (2 : Nat) (Option.some Jvm.ClassFile.FieldType.boolean)) ∈ TB := TB_in (tg_1 (List.mem_of_getElem? (i := 51) rfl)) rfl
theorem tw_52 : (Jvm.Cond.instantiable "BoxDesk$ItemList" (2 : Nat)) ∈ TB := TB_in (tg_1 (List.mem_of_getElem? (i := 52) rfl)) rfl
theorem tw_53 : (Jvm.Cond.methodLink "BoxDesk" (25 : Nat) ({ cls := "BoxDesk$ItemList", name := "<init>", desc := "(Z)V" } : Jvm.MethodName)) ∈ TB := TB_in (tg_1 (List.mem_of_getElem? (i := 53) rfl)) rfl
theorem tw_54 : (Jvm.Cond.instanceMethod ({ cls := "BoxDesk$ItemList", name := "<init>", desc := "(Z)V" } : Jvm.MethodName)) ∈ TB := TB_in (tg_1 (List.mem_of_getElem? (i := 54) rfl)) rfl
theorem tw_55 : (Jvm.Cond.code ({ cls := "BoxDesk$ItemList", name := "<init>", desc := "(Z)V" } : Jvm.MethodName) prog_4_method_1_code (2 : Nat) (Option.none : Option Jvm.ClassFile.FieldType)) ∈ TB := TB_in (tg_1 (List.mem_of_getElem? (i := 55) rfl)) rfl
theorem tw_56 : (Jvm.Cond.methodLink "BoxDesk$ItemList" (1 : Nat) ({ cls := "java/lang/Object", name := "<init>", desc := "()V" } : Jvm.MethodName)) ∈ TB := TB_in (tg_1 (List.mem_of_getElem? (i := 56) rfl)) rfl
theorem tw_57 : (Jvm.Cond.classLink "BoxDesk$ItemList" (13 : Nat) "java/util/ArrayList") ∈ TB := TB_in (tg_1 (List.mem_of_getElem? (i := 57) rfl)) rfl
theorem tw_58 : (Jvm.Cond.instantiable "java/util/ArrayList" (3 : Nat)) ∈ TB := TB_in (tg_1 (List.mem_of_getElem? (i := 58) rfl)) rfl
theorem tw_59 : (Jvm.Cond.methodLink "BoxDesk$ItemList" (15 : Nat) ({ cls := "java/util/ArrayList", name := "<init>", desc := "()V" } : Jvm.MethodName)) ∈ TB := TB_in (tg_1 (List.mem_of_getElem? (i := 59) rfl)) rfl
theorem tw_60 : (Jvm.Cond.instanceMethod ({ cls := "java/util/ArrayList", name := "<init>", desc := "()V" } : Jvm.MethodName)) ∈ TB := TB_in (tg_1 (List.mem_of_getElem? (i := 60) rfl)) rfl
theorem tw_61 : (Jvm.Cond.code ({ cls := "java/util/ArrayList", name := "<init>", desc := "()V" } : Jvm.MethodName) prog_23_method_2_code (1 : Nat) (Option.none : Option Jvm.ClassFile.FieldType)) ∈ TB := TB_in (tg_1 (List.mem_of_getElem? (i := 61) rfl)) rfl
theorem tw_62 : (Jvm.Cond.methodLink "java/util/ArrayList" (1 : Nat) ({ cls := "java/util/AbstractList", name := "<init>", desc := "()V" } : Jvm.MethodName)) ∈ TB := TB_in (tg_1 (List.mem_of_getElem? (i := 62) rfl)) rfl
theorem tw_63 : (Jvm.Cond.instanceMethod ({ cls := "java/util/AbstractList", name := "<init>", desc := "()V" } : Jvm.MethodName)) ∈ TB := TB_in (tg_1 (List.mem_of_getElem? (i := 63) rfl)) rfl
theorem tw_64 : (Jvm.Cond.code ({ cls := "java/util/AbstractList", name := "<init>", desc := "()V" } : Jvm.MethodName) prog_22_method_1_code (1 : Nat) (Option.none : Option Jvm.ClassFile.FieldType)) ∈ TB := TB_in (tg_1 (List.mem_of_getElem? (i := 64) rfl)) rfl
theorem tw_65 : (Jvm.Cond.methodLink "java/util/AbstractList" (1 : Nat) ({ cls := "java/util/AbstractCollection", name := "<init>", desc := "()V" } : Jvm.MethodName)) ∈ TB := TB_in (tg_1 (List.mem_of_getElem? (i := 65) rfl)) rfl
theorem tw_66 : (Jvm.Cond.instanceMethod ({ cls := "java/util/AbstractCollection", name := "<init>", desc := "()V" } : Jvm.MethodName)) ∈ TB := TB_in (tg_1 (List.mem_of_getElem? (i := 66) rfl)) rfl
theorem tw_67 : (Jvm.Cond.code ({ cls := "java/util/AbstractCollection", name := "<init>", desc := "()V" } : Jvm.MethodName) prog_21_method_1_code (1 : Nat) (Option.none : Option Jvm.ClassFile.FieldType)) ∈ TB := TB_in (tg_1 (List.mem_of_getElem? (i := 67) rfl)) rfl
theorem tw_68 : (Jvm.Cond.methodLink "java/util/AbstractCollection" (1 : Nat) ({ cls := "java/lang/Object", name := "<init>", desc := "()V" } : Jvm.MethodName)) ∈ TB := TB_in (tg_1 (List.mem_of_getElem? (i := 68) rfl)) rfl
theorem tw_69 : (Jvm.Cond.fieldLink "java/util/ArrayList" (39 : Nat) "java/util/ArrayList" "DEFAULTCAPACITY_EMPTY_ELEMENTDATA" "[Ljava/lang/Object;") ∈ TB := TB_in (tg_1 (List.mem_of_getElem? (i := 69) rfl)) rfl
theorem tw_71 : (Jvm.Cond.fieldLink "java/util/ArrayList" (9 : Nat) "java/util/ArrayList" "elementData" "[Ljava/lang/Object;") ∈ TB := TB_in (tg_1 (List.mem_of_getElem? (i := 71) rfl)) rfl
theorem tw_72 : (Jvm.Cond.fieldLink "java/util/ArrayList" (48 : Nat) "java/util/ArrayList" "size" "I") ∈ TB := TB_in (tg_1 (List.mem_of_getElem? (i := 72) rfl)) rfl
theorem tw_73 : (Jvm.Cond.fieldLink "java/util/AbstractList" (7 : Nat) "java/util/AbstractList" "modCount" "I") ∈ TB := TB_in (tg_1 (List.mem_of_getElem? (i := 73) rfl)) rfl
theorem tw_74 : (Jvm.Cond.fieldLink "java/util/ArrayList" (63 : Nat) "java/util/ArrayList" "modCount" "I") ∈ TB := TB_in (tg_1 (List.mem_of_getElem? (i := 74) rfl)) rfl
theorem tw_75 : (Jvm.Cond.sameField "java/util/ArrayList" "java/util/AbstractList" "modCount" "I") ∈ TB := TB_in (tg_1 (List.mem_of_getElem? (i := 75) rfl)) rfl
theorem tw_82 : (Jvm.Cond.superclass "java/util/ArrayList" "java/util/AbstractList") ∈ TB := TB_in (tg_1 (List.mem_of_getElem? (i := 82) rfl)) rfl
theorem tw_83 : (Jvm.Cond.fieldLink "BoxDesk$ItemList" (7 : Nat) "BoxDesk$ItemList" "vertical" "Z") ∈ TB := TB_in (tg_1 (List.mem_of_getElem? (i := 83) rfl)) rfl
theorem tw_84 : (Jvm.Cond.fieldLink "BoxDesk$Box" (40 : Nat) "BoxDesk$ItemList" "vertical" "Z") ∈ TB := TB_in (tg_1 (List.mem_of_getElem? (i := 84) rfl)) rfl
theorem tw_85 : (Jvm.Cond.fieldLink "BoxDesk" (32 : Nat) "BoxDesk$ItemList" "vertical" "Z") ∈ TB := TB_in (tg_1 (List.mem_of_getElem? (i := 85) rfl)) rfl
theorem tw_86 : (Jvm.Cond.fieldLink "BoxDesk$Item" (48 : Nat) "BoxDesk$ItemList" "vertical" "Z") ∈ TB := TB_in (tg_1 (List.mem_of_getElem? (i := 86) rfl)) rfl
theorem tw_87 : (Jvm.Cond.fieldLink "BoxDesk$ItemList" (16 : Nat) "BoxDesk$ItemList" "items" "Ljava/util/ArrayList;") ∈ TB := TB_in (tg_1 (List.mem_of_getElem? (i := 87) rfl)) rfl
theorem tw_88 : (Jvm.Cond.fieldLink "BoxDesk$Box" (62 : Nat) "BoxDesk$ItemList" "items" "Ljava/util/ArrayList;") ∈ TB := TB_in (tg_1 (List.mem_of_getElem? (i := 88) rfl)) rfl
theorem tw_89 : (Jvm.Cond.fieldLink "BoxDesk" (117 : Nat) "BoxDesk$ItemList" "items" "Ljava/util/ArrayList;") ∈ TB := TB_in (tg_1 (List.mem_of_getElem? (i := 89) rfl)) rfl
theorem tw_94 : (Jvm.Cond.superclass "BoxDesk$ItemList" "java/lang/Object") ∈ TB := TB_in (tg_1 (List.mem_of_getElem? (i := 94) rfl)) rfl
theorem tw_95 : (Jvm.Cond.methodLink "BoxDeskLaw" (38 : Nat) ({ cls := "BoxDesk", name := "character", desc := "(III)Z" } : Jvm.MethodName)) ∈ TB := TB_in (tg_1 (List.mem_of_getElem? (i := 95) rfl)) rfl
theorem tw_96 : (Jvm.Cond.instanceMethod ({ cls := "BoxDesk", name := "character", desc := "(III)Z" } : Jvm.MethodName)) ∈ TB := TB_in (tg_1 (List.mem_of_getElem? (i := 96) rfl)) rfl
theorem tw_97 : (Jvm.Cond.selects "BoxDesk" ({ cls := "BoxDesk", name := "character", desc := "(III)Z" } : Jvm.MethodName) ({ cls := "BoxDesk", name := "character", desc := "(III)Z" } : Jvm.MethodName)) ∈ TB := TB_in (tg_1 (List.mem_of_getElem? (i := 97) rfl)) rfl
theorem tw_98 : (Jvm.Cond.code ({ cls := "BoxDesk", name := "character", desc := "(III)Z" } : Jvm.MethodName) prog_1_method_3_code (5 : Nat) (Option.some Jvm.ClassFile.FieldType.boolean)) ∈ TB := TB_in (tg_1 (List.mem_of_getElem? (i := 98) rfl)) rfl
theorem tw_99 : (Jvm.Cond.methodLink "BoxDesk" (28 : Nat) ({ cls := "BoxDesk", name := "innermost", desc := "()LBoxDesk$ItemList;" } : Jvm.MethodName)) ∈ TB := TB_in (tg_1 (List.mem_of_getElem? (i := 99) rfl)) rfl
theorem tw_101 : (Jvm.Cond.instanceMethod ({ cls := "BoxDesk", name := "innermost", desc := "()LBoxDesk$ItemList;" } : Jvm.MethodName)) ∈ TB := TB_in (tg_1 (List.mem_of_getElem? (i := 101) rfl)) rfl
theorem tw_102 : (Jvm.Cond.code ({ cls := "BoxDesk", name := "innermost", desc := "()LBoxDesk$ItemList;" } : Jvm.MethodName) prog_1_method_15_code (1 : Nat) (Option.some (Jvm.ClassFile.FieldType.object "BoxDesk$ItemList"))) ∈ TB := TB_in (tg_1 (List.mem_of_getElem? (i := 102) rfl)) rfl
theorem tw_103 : (Jvm.Cond.methodLink "BoxDesk" (36 : Nat) ({ cls := "BoxDesk", name := "areSizes", desc := "(III)Z" } : Jvm.MethodName)) ∈ TB := TB_in (tg_1 (List.mem_of_getElem? (i := 103) rfl)) rfl
theorem tw_104 : (Jvm.Cond.static ({ cls := "BoxDesk", name := "areSizes", desc := "(III)Z" } : Jvm.MethodName)) ∈ TB := TB_in (tg_1 (List.mem_of_getElem? (i := 104) rfl)) rfl
theorem tw_105 : (Jvm.Cond.code ({ cls := "BoxDesk", name := "areSizes", desc := "(III)Z" } : Jvm.MethodName) prog_1_method_21_code (3 : Nat) (Option.some Jvm.ClassFile.FieldType.boolean)) ∈ TB := TB_in (tg_1 (List.mem_of_getElem? (i := 105) rfl)) rfl
theorem tw_106 : (Jvm.Cond.methodLink "BoxDesk" (56 : Nat) ({ cls := "BoxDesk", name := "isSize", desc := "(J)Z" } : Jvm.MethodName)) ∈ TB := TB_in (tg_1 (List.mem_of_getElem? (i := 106) rfl)) rfl
theorem tw_107 : (Jvm.Cond.static ({ cls := "BoxDesk", name := "isSize", desc := "(J)Z" } : Jvm.MethodName)) ∈ TB := TB_in (tg_1 (List.mem_of_getElem? (i := 107) rfl)) rfl
theorem tw_108 : (Jvm.Cond.code ({ cls := "BoxDesk", name := "isSize", desc := "(J)Z" } : Jvm.MethodName) prog_1_method_20_code (2 : Nat) (Option.some Jvm.ClassFile.FieldType.boolean)) ∈ TB := TB_in (tg_1 (List.mem_of_getElem? (i := 108) rfl)) rfl
theorem tw_109 : (Jvm.Cond.constantLong "BoxDesk" (174 : Nat) (-1073741823 : Int64)) ∈ TB := TB_in (tg_1 (List.mem_of_getElem? (i := 109) rfl)) rfl
theorem tw_110 : (Jvm.Cond.constantLong "BoxDesk" (176 : Nat) (1073741823 : Int64)) ∈ TB := TB_in (tg_1 (List.mem_of_getElem? (i := 110) rfl)) rfl
theorem tw_111 : (Jvm.Cond.classLink "BoxDesk" (40 : Nat) "BoxDesk$Item") ∈ TB := TB_in (tg_1 (List.mem_of_getElem? (i := 111) rfl)) rfl
theorem tw_112 : (Jvm.Cond.instantiable "BoxDesk$Item" (12 : Nat)) ∈ TB := TB_in (tg_1 (List.mem_of_getElem? (i := 112) rfl)) rfl
theorem tw_113 : (Jvm.Cond.methodLink "BoxDesk" (42 : Nat) ({ cls := "BoxDesk$Item", name := "<init>", desc := "(IIII)V" } : Jvm.MethodName)) ∈ TB := TB_in (tg_1 (List.mem_of_getElem? (i := 113) rfl)) rfl
theorem tw_114 : (Jvm.Cond.instanceMethod ({ cls := "BoxDesk$Item", name := "<init>", desc := "(IIII)V" } : Jvm.MethodName)) ∈ TB := TB_in (tg_1 (List.mem_of_getElem? (i := 114) rfl)) rfl
theorem tw_115 : (Jvm.Cond.code ({ cls := "BoxDesk$Item", name := "<init>", desc := "(IIII)V" } : Jvm.MethodName) prog_3_method_1_code (5 : Nat) (Option.none : Option Jvm.ClassFile.FieldType)) ∈ TB := TB_in (tg_1 (List.mem_of_getElem? (i := 115) rfl)) rfl
theorem tw_116 : (Jvm.Cond.methodLink "BoxDesk$Item" (3 : Nat) ({ cls := "java/lang/Object", name := "<init>", desc := "()V" } : Jvm.MethodName)) ∈ TB := TB_in (tg_1 (List.mem_of_getElem? (i := 116) rfl)) rfl
theorem tw_117 : (Jvm.Cond.fieldLink "BoxDesk$Item" (9 : Nat) "BoxDesk$Item" "kind" "I") ∈ TB := TB_in (tg_1 (List.mem_of_getElem? (i := 117) rfl)) rfl
theorem tw_118 : (Jvm.Cond.fieldLink "BoxDesk" (163 : Nat) "BoxDesk$Item" "kind" "I") ∈ TB := TB_in (tg_1 (List.mem_of_getElem? (i := 118) rfl)) rfl
theorem tw_119 : (Jvm.Cond.fieldLink "BoxDesk$Item" (15 : Nat) "BoxDesk$Item" "width" "I") ∈ TB := TB_in (tg_1 (List.mem_of_getElem? (i := 119) rfl)) rfl
theorem tw_120 : (Jvm.Cond.fieldLink "BoxDesk$Measure" (50 : Nat) "BoxDesk$Item" "width" "I") ∈ TB := TB_in (tg_1 (List.mem_of_getElem? (i := 120) rfl)) rfl
theorem tw_121 : (Jvm.Cond.fieldLink "BoxDesk" (218 : Nat) "BoxDesk$Item" "width" "I") ∈ TB := TB_in (tg_1 (List.mem_of_getElem? (i := 121) rfl)) rfl
theorem tw_122 : (Jvm.Cond.fieldLink "BoxDesk$Item" (18 : Nat) "BoxDesk$Item" "height" "I") ∈ TB := TB_in (tg_1 (List.mem_of_getElem? (i := 122) rfl)) rfl
theorem tw_123 : (Jvm.Cond.fieldLink "BoxDesk$Measure" (60 : Nat) "BoxDesk$Item" "height" "I") ∈ TB := TB_in (tg_1 (List.mem_of_getElem? (i := 123) rfl)) rfl
theorem tw_124 : (Jvm.Cond.fieldLink "BoxDesk$Item" (21 : Nat) "BoxDesk$Item" "depth" "I") ∈ TB := TB_in (tg_1 (List.mem_of_getElem? (i := 124) rfl)) rfl
theorem tw_125 : (Jvm.Cond.fieldLink "BoxDesk$Measure" (71 : Nat) "BoxDesk$Item" "depth" "I") ∈ TB := TB_in (tg_1 (List.mem_of_getElem? (i := 125) rfl)) rfl
theorem tw_126 : (Jvm.Cond.fieldLink "BoxDesk$Item" (27 : Nat) "BoxDesk$Item" "running" "I") ∈ TB := TB_in (tg_1 (List.mem_of_getElem? (i := 126) rfl)) rfl
theorem tw_127 : (Jvm.Cond.fieldLink "BoxDesk$Item" (39 : Nat) "BoxDesk$Item" "number" "I") ∈ TB := TB_in (tg_1 (List.mem_of_getElem? (i := 127) rfl)) rfl
theorem tw_128 : (Jvm.Cond.fieldLink "BoxDesk$Measure" (21 : Nat) "BoxDesk$Item" "stretch" "I") ∈ TB := TB_in (tg_1 (List.mem_of_getElem? (i := 128) rfl)) rfl
theorem tw_129 : (Jvm.Cond.fieldLink "BoxDesk$Item" (30 : Nat) "BoxDesk$Item" "stretch" "I") ∈ TB := TB_in (tg_1 (List.mem_of_getElem? (i := 129) rfl)) rfl
theorem tw_130 : (Jvm.Cond.fieldLink "BoxDesk$Measure" (15 : Nat) "BoxDesk$Item" "order" "I") ∈ TB := TB_in (tg_1 (List.mem_of_getElem? (i := 130) rfl)) rfl
theorem tw_131 : (Jvm.Cond.fieldLink "BoxDesk$Item" (33 : Nat) "BoxDesk$Item" "order" "I") ∈ TB := TB_in (tg_1 (List.mem_of_getElem? (i := 131) rfl)) rfl
theorem tw_132 : (Jvm.Cond.fieldLink "BoxDesk$Measure" (28 : Nat) "BoxDesk$Item" "shrink" "I") ∈ TB := TB_in (tg_1 (List.mem_of_getElem? (i := 132) rfl)) rfl
theorem tw_133 : (Jvm.Cond.fieldLink "BoxDesk$Item" (36 : Nat) "BoxDesk$Item" "shrink" "I") ∈ TB := TB_in (tg_1 (List.mem_of_getElem? (i := 133) rfl)) rfl
theorem tw_134 : (Jvm.Cond.fieldLink "BoxDesk" (209 : Nat) "BoxDesk$Item" "shrink" "I") ∈ TB := TB_in (tg_1 (List.mem_of_getElem? (i := 134) rfl)) rfl
theorem tw_135 : (Jvm.Cond.fieldLink "BoxDesk$Measure" (62 : Nat) "BoxDesk$Item" "shift" "I") ∈ TB := TB_in (tg_1 (List.mem_of_getElem? (i := 135) rfl)) rfl
theorem tw_136 : (Jvm.Cond.fieldLink "BoxDesk$Item" (57 : Nat) "BoxDesk$Item" "shift" "I") ∈ TB := TB_in (tg_1 (List.mem_of_getElem? (i := 136) rfl)) rfl
theorem tw_137 : (Jvm.Cond.fieldLink "BoxDesk$Measure" (34 : Nat) "BoxDesk$Item" "within" "I") ∈ TB := TB_in (tg_1 (List.mem_of_getElem? (i := 137) rfl)) rfl
theorem tw_138 : (Jvm.Cond.fieldLink "BoxDesk$Item" (63 : Nat) "BoxDesk$Item" "within" "I") ∈ TB := TB_in (tg_1 (List.mem_of_getElem? (i := 138) rfl)) rfl
theorem tw_139 : (Jvm.Cond.fieldLink "BoxDesk$Measure" (38 : Nat) "BoxDesk$Item" "nesting" "I") ∈ TB := TB_in (tg_1 (List.mem_of_getElem? (i := 139) rfl)) rfl
theorem tw_140 : (Jvm.Cond.fieldLink "BoxDesk$Item" (67 : Nat) "BoxDesk$Item" "nesting" "I") ∈ TB := TB_in (tg_1 (List.mem_of_getElem? (i := 140) rfl)) rfl
theorem tw_165 : (Jvm.Cond.superclass "BoxDesk$Item" "java/lang/Object") ∈ TB := TB_in (tg_1 (List.mem_of_getElem? (i := 165) rfl)) rfl
theorem tw_166 : (Jvm.Cond.methodLink "BoxDesk" (45 : Nat) ({ cls := "BoxDesk", name := "join", desc := "(LBoxDesk$ItemList;LBoxDesk$Item;)Z" } : Jvm.MethodName)) ∈ TB := TB_in (tg_1 (List.mem_of_getElem? (i := 166) rfl)) rfl
theorem tw_168 : (Jvm.Cond.instanceMethod ({ cls := "BoxDesk", name := "join", desc := "(LBoxDesk$ItemList;LBoxDesk$Item;)Z" } : Jvm.MethodName)) ∈ TB := TB_in (tg_1 (List.mem_of_getElem? (i := 168) rfl)) rfl
theorem tw_169 : (Jvm.Cond.code ({ cls := "BoxDesk", name := "join", desc := "(LBoxDesk$ItemList;LBoxDesk$Item;)Z" } : Jvm.MethodName) prog_1_method_17_code (3 : Nat) (Option.some Jvm.ClassFile.FieldType.boolean)) ∈ TB := TB_in (tg_1 (List.mem_of_getElem? (i := 169) rfl)) rfl
theorem tw_170 : (Jvm.Cond.methodLink "BoxDesk" (125 : Nat) ({ cls := "java/util/ArrayList", name := "add", desc := "(Ljava/lang/Object;)Z" } : Jvm.MethodName)) ∈ TB := TB_in (tg_1 (List.mem_of_getElem? (i := 170) rfl)) rfl
theorem tw_171 : (Jvm.Cond.instanceMethod ({ cls := "java/util/ArrayList", name := "add", desc := "(Ljava/lang/Object;)Z" } : Jvm.MethodName)) ∈ TB := TB_in (tg_1 (List.mem_of_getElem? (i := 171) rfl)) rfl
theorem tw_172 : (Jvm.Cond.selects "java/util/ArrayList" ({ cls := "java/util/ArrayList", name := "add", desc := "(Ljava/lang/Object;)Z" } : Jvm.MethodName) ({ cls := "java/util/ArrayList", name := "add", desc := "(Ljava/lang/Object;)Z" } : Jvm.MethodName)) ∈ TB := TB_in (tg_1 (List.mem_of_getElem? (i := 172) rfl)) rfl
theorem tw_173 : (Jvm.Cond.code ({ cls := "java/util/ArrayList", name := "add", desc := "(Ljava/lang/Object;)Z" } : Jvm.MethodName) prog_23_method_25_code (2 : Nat) (Option.some Jvm.ClassFile.FieldType.boolean)) ∈ TB := TB_in (tg_1 (List.mem_of_getElem? (i := 173) rfl)) rfl
theorem tw_174 : (Jvm.Cond.methodLink "java/util/ArrayList" (131 : Nat) ({ cls := "java/util/ArrayList", name := "add", desc := "(Ljava/lang/Object;[Ljava/lang/Object;I)V" } : Jvm.MethodName)) ∈ TB := TB_in (tg_1 (List.mem_of_getElem? (i := 174) rfl)) rfl
theorem tw_176 : (Jvm.Cond.instanceMethod ({ cls := "java/util/ArrayList", name := "add", desc := "(Ljava/lang/Object;[Ljava/lang/Object;I)V" } : Jvm.MethodName)) ∈ TB := TB_in (tg_1 (List.mem_of_getElem? (i := 176) rfl)) rfl
theorem tw_177 : (Jvm.Cond.code ({ cls := "java/util/ArrayList", name := "add", desc := "(Ljava/lang/Object;[Ljava/lang/Object;I)V" } : Jvm.MethodName) prog_23_method_24_code (4 : Nat) (Option.none : Option Jvm.ClassFile.FieldType)) ∈ TB := TB_in (tg_1 (List.mem_of_getElem? (i := 177) rfl)) rfl
theorem tw_178 : (Jvm.Cond.methodLink "java/util/ArrayList" (129 : Nat) ({ cls := "java/util/ArrayList", name := "grow", desc := "()[Ljava/lang/Object;" } : Jvm.MethodName)) ∈ TB := TB_in (tg_1 (List.mem_of_getElem? (i := 178) rfl)) rfl
theorem tw_180 : (Jvm.Cond.instanceMethod ({ cls := "java/util/ArrayList", name := "grow", desc := "()[Ljava/lang/Object;" } : Jvm.MethodName)) ∈ TB := TB_in (tg_1 (List.mem_of_getElem? (i := 180) rfl)) rfl
theorem tw_181 : (Jvm.Cond.code ({ cls := "java/util/ArrayList", name := "grow", desc := "()[Ljava/lang/Object;" } : Jvm.MethodName) prog_23_method_7_code (1 : Nat) (Option.some (Jvm.ClassFile.FieldType.array (Jvm.ClassFile.FieldType.object "java/lang/Object")))) ∈ TB := TB_in (tg_1 (List.mem_of_getElem? (i := 181) rfl)) rfl
theorem tw_182 : (Jvm.Cond.methodLink "java/util/ArrayList" (69 : Nat) ({ cls := "java/util/ArrayList", name := "grow", desc := "(I)[Ljava/lang/Object;" } : Jvm.MethodName)) ∈ TB := TB_in (tg_1 (List.mem_of_getElem? (i := 182) rfl)) rfl
theorem tw_184 : (Jvm.Cond.instanceMethod ({ cls := "java/util/ArrayList", name := "grow", desc := "(I)[Ljava/lang/Object;" } : Jvm.MethodName)) ∈ TB := TB_in (tg_1 (List.mem_of_getElem? (i := 184) rfl)) rfl
theorem tw_185 : (Jvm.Cond.code ({ cls := "java/util/ArrayList", name := "grow", desc := "(I)[Ljava/lang/Object;" } : Jvm.MethodName) prog_23_method_6_code (4 : Nat) (Option.some (Jvm.ClassFile.FieldType.array (Jvm.ClassFile.FieldType.object "java/lang/Object")))) ∈ TB := TB_in (tg_1 (List.mem_of_getElem? (i := 185) rfl)) rfl
theorem tw_186 : (Jvm.Cond.methodLink "java/util/ArrayList" (73 : Nat) ({ cls := "jdk/internal/util/ArraysSupport", name := "newLength", desc := "(III)I" } : Jvm.MethodName)) ∈ TB := TB_in (tg_1 (List.mem_of_getElem? (i := 186) rfl)) rfl
theorem tw_187 : (Jvm.Cond.static ({ cls := "jdk/internal/util/ArraysSupport", name := "newLength", desc := "(III)I" } : Jvm.MethodName)) ∈ TB := TB_in (tg_1 (List.mem_of_getElem? (i := 187) rfl)) rfl
theorem tw_188 : (Jvm.Cond.code ({ cls := "jdk/internal/util/ArraysSupport", name := "newLength", desc := "(III)I" } : Jvm.MethodName) prog_30_method_27_code (4 : Nat) (Option.some Jvm.ClassFile.FieldType.int)) ∈ TB := TB_in (tg_1 (List.mem_of_getElem? (i := 188) rfl)) rfl
theorem tw_189 : (Jvm.Cond.methodLink "jdk/internal/util/ArraysSupport" (194 : Nat) ({ cls := "java/lang/Math", name := "max", desc := "(II)I" } : Jvm.MethodName)) ∈ TB := TB_in (tg_1 (List.mem_of_getElem? (i := 189) rfl)) rfl
theorem tw_190 : (Jvm.Cond.static ({ cls := "java/lang/Math", name := "max", desc := "(II)I" } : Jvm.MethodName)) ∈ TB := TB_in (tg_1 (List.mem_of_getElem? (i := 190) rfl)) rfl
theorem tw_191 : (Jvm.Cond.code ({ cls := "java/lang/Math", name := "max", desc := "(II)I" } : Jvm.MethodName) prog_15_method_65_code (2 : Nat) (Option.some Jvm.ClassFile.FieldType.int)) ∈ TB := TB_in (tg_1 (List.mem_of_getElem? (i := 191) rfl)) rfl
theorem tw_192 : (Jvm.Cond.constant "jdk/internal/util/ArraysSupport" (200 : Nat) (2147483639 : Int32)) ∈ TB := TB_in (tg_1 (List.mem_of_getElem? (i := 192) rfl)) rfl
theorem tw_193 : (Jvm.Cond.methodLink "jdk/internal/util/ArraysSupport" (201 : Nat) ({ cls := "jdk/internal/util/ArraysSupport", name := "hugeLength", desc := "(II)I" } : Jvm.MethodName)) ∈ TB := TB_in (tg_1 (List.mem_of_getElem? (i := 193) rfl)) rfl
theorem tw_194 : (Jvm.Cond.static ({ cls := "jdk/internal/util/ArraysSupport", name := "hugeLength", desc := "(II)I" } : Jvm.MethodName)) ∈ TB := TB_in (tg_1 (List.mem_of_getElem? (i := 194) rfl)) rfl
theorem tw_195 : (Jvm.Cond.code ({ cls := "jdk/internal/util/ArraysSupport", name := "hugeLength", desc := "(II)I" } : Jvm.MethodName) prog_30_method_28_code (3 : Nat) (Option.some Jvm.ClassFile.FieldType.int)) ∈ TB := TB_in (tg_1 (List.mem_of_getElem? (i := 195) rfl)) rfl
theorem tw_196 : (Jvm.Cond.methodLink "java/util/ArrayList" (66 : Nat) ({ cls := "java/util/Arrays", name := "copyOf", desc := "([Ljava/lang/Object;I)[Ljava/lang/Object;" } : Jvm.MethodName)) ∈ TB := TB_in (tg_1 (List.mem_of_getElem? (i := 196) rfl)) rfl
theorem tw_197 : (Jvm.Cond.static ({ cls := "java/util/Arrays", name := "copyOf", desc := "([Ljava/lang/Object;I)[Ljava/lang/Object;" } : Jvm.MethodName)) ∈ TB := TB_in (tg_1 (List.mem_of_getElem? (i := 197) rfl)) rfl
theorem tw_198 : (Jvm.Cond.code ({ cls := "java/util/Arrays", name := "copyOf", desc := "([Ljava/lang/Object;I)[Ljava/lang/Object;" } : Jvm.MethodName) prog_24_method_119_code (2 : Nat) (Option.some (Jvm.ClassFile.FieldType.array (Jvm.ClassFile.FieldType.object "java/lang/Object")))) ∈ TB := TB_in (tg_1 (List.mem_of_getElem? (i := 198) rfl)) rfl
theorem tw_199 : (Jvm.Cond.methodLink "java/util/Arrays" (86 : Nat) ({ cls := "java/lang/Object", name := "getClass", desc := "()Ljava/lang/Class;" } : Jvm.MethodName)) ∈ TB := TB_in (tg_1 (List.mem_of_getElem? (i := 199) rfl)) rfl
theorem tw_200 : (Jvm.Cond.instanceMethod ({ cls := "java/lang/Object", name := "getClass", desc := "()Ljava/lang/Class;" } : Jvm.MethodName)) ∈ TB := TB_in (tg_1 (List.mem_of_getElem? (i := 200) rfl)) rfl
theorem tw_201 : (Jvm.Cond.sameMethod "java/lang/Object" "java/lang/Object" "getClass" "()Ljava/lang/Class;") ∈ TB := TB_in (tg_1 (List.mem_of_getElem? (i := 201) rfl)) rfl
theorem tw_202 : (Jvm.Cond.selects "BoxDesk" ({ cls := "java/lang/Object", name := "getClass", desc := "()Ljava/lang/Class;" } : Jvm.MethodName) ({ cls := "java/lang/Object", name := "getClass", desc := "()Ljava/lang/Class;" } : Jvm.MethodName)) ∈ TB := TB_in (tg_1 (List.mem_of_getElem? (i := 202) rfl)) rfl
theorem tw_203 : (Jvm.Cond.selects "BoxDesk$Box" ({ cls := "java/lang/Object", name := "getClass", desc := "()Ljava/lang/Class;" } : Jvm.MethodName) ({ cls := "java/lang/Object", name := "getClass", desc := "()Ljava/lang/Class;" } : Jvm.MethodName)) ∈ TB := TB_in (tg_1 (List.mem_of_getElem? (i := 203) rfl)) rfl
theorem tw_204 : (Jvm.Cond.selects "BoxDesk$Item" ({ cls := "java/lang/Object", name := "getClass", desc := "()Ljava/lang/Class;" } : Jvm.MethodName) ({ cls := "java/lang/Object", name := "getClass", desc := "()Ljava/lang/Class;" } : Jvm.MethodName)) ∈ TB := TB_in (tg_1 (List.mem_of_getElem? (i := 204) rfl)) rfl
theorem tw_205 : (Jvm.Cond.selects "BoxDesk$ItemList" ({ cls := "java/lang/Object", name := "getClass", desc := "()Ljava/lang/Class;" } : Jvm.MethodName) ({ cls := "java/lang/Object", name := "getClass", desc := "()Ljava/lang/Class;" } : Jvm.MethodName)) ∈ TB := TB_in (tg_1 (List.mem_of_getElem? (i := 205) rfl)) rfl
theorem tw_206 : (Jvm.Cond.selects "BoxDesk$Measure" ({ cls := "java/lang/Object", name := "getClass", desc := "()Ljava/lang/Class;" } : Jvm.MethodName) ({ cls := "java/lang/Object", name := "getClass", desc := "()Ljava/lang/Class;" } : Jvm.MethodName)) ∈ TB := TB_in (tg_1 (List.mem_of_getElem? (i := 206) rfl)) rfl
theorem tw_207 : (Jvm.Cond.selects "BoxDeskModel" ({ cls := "java/lang/Object", name := "getClass", desc := "()Ljava/lang/Class;" } : Jvm.MethodName) ({ cls := "java/lang/Object", name := "getClass", desc := "()Ljava/lang/Class;" } : Jvm.MethodName)) ∈ TB := TB_in (tg_1 (List.mem_of_getElem? (i := 207) rfl)) rfl
theorem tw_208 : (Jvm.Cond.selects "java/lang/IllegalArgumentException" ({ cls := "java/lang/Object", name := "getClass", desc := "()Ljava/lang/Class;" } : Jvm.MethodName) ({ cls := "java/lang/Object", name := "getClass", desc := "()Ljava/lang/Class;" } : Jvm.MethodName)) ∈ TB := TB_in (tg_1 (List.mem_of_getElem? (i := 208) rfl)) rfl
theorem tw_209 : (Jvm.Cond.selects "java/lang/IllegalStateException" ({ cls := "java/lang/Object", name := "getClass", desc := "()Ljava/lang/Class;" } : Jvm.MethodName) ({ cls := "java/lang/Object", name := "getClass", desc := "()Ljava/lang/Class;" } : Jvm.MethodName)) ∈ TB := TB_in (tg_1 (List.mem_of_getElem? (i := 209) rfl)) rfl
theorem tw_210 : (Jvm.Cond.selects "java/lang/IndexOutOfBoundsException" ({ cls := "java/lang/Object", name := "getClass", desc := "()Ljava/lang/Class;" } : Jvm.MethodName) ({ cls := "java/lang/Object", name := "getClass", desc := "()Ljava/lang/Class;" } : Jvm.MethodName)) ∈ TB := TB_in (tg_1 (List.mem_of_getElem? (i := 210) rfl)) rfl
theorem tw_211 : (Jvm.Cond.selects "java/lang/UnsupportedOperationException" ({ cls := "java/lang/Object", name := "getClass", desc := "()Ljava/lang/Class;" } : Jvm.MethodName) ({ cls := "java/lang/Object", name := "getClass", desc := "()Ljava/lang/Class;" } : Jvm.MethodName)) ∈ TB := TB_in (tg_1 (List.mem_of_getElem? (i := 211) rfl)) rfl
theorem tw_212 : (Jvm.Cond.selects "java/util/ArrayList" ({ cls := "java/lang/Object", name := "getClass", desc := "()Ljava/lang/Class;" } : Jvm.MethodName) ({ cls := "java/lang/Object", name := "getClass", desc := "()Ljava/lang/Class;" } : Jvm.MethodName)) ∈ TB := TB_in (tg_1 (List.mem_of_getElem? (i := 212) rfl)) rfl
theorem tw_213 : (Jvm.Cond.native ({ cls := "java/lang/Object", name := "getClass", desc := "()Ljava/lang/Class;" } : Jvm.MethodName)) ∈ TB := TB_in (tg_1 (List.mem_of_getElem? (i := 213) rfl)) rfl
theorem tw_214 : (Jvm.Cond.methodLink "java/util/Arrays" (300 : Nat) ({ cls := "java/util/Arrays", name := "copyOf", desc := "([Ljava/lang/Object;ILjava/lang/Class;)[Ljava/lang/Object;" } : Jvm.MethodName)) ∈ TB := TB_in (tg_1 (List.mem_of_getElem? (i := 214) rfl)) rfl
theorem tw_215 : (Jvm.Cond.static ({ cls := "java/util/Arrays", name := "copyOf", desc := "([Ljava/lang/Object;ILjava/lang/Class;)[Ljava/lang/Object;" } : Jvm.MethodName)) ∈ TB := TB_in (tg_1 (List.mem_of_getElem? (i := 215) rfl)) rfl
theorem tw_216 : (Jvm.Cond.code ({ cls := "java/util/Arrays", name := "copyOf", desc := "([Ljava/lang/Object;ILjava/lang/Class;)[Ljava/lang/Object;" } : Jvm.MethodName) prog_24_method_120_code (4 : Nat) (Option.some (Jvm.ClassFile.FieldType.array (Jvm.ClassFile.FieldType.object "java/lang/Object")))) ∈ TB := TB_in (tg_1 (List.mem_of_getElem? (i := 216) rfl)) rfl
theorem tw_217 : (Jvm.Cond.classLink "java/util/Arrays" (110 : Nat) "[Ljava/lang/Object;") ∈ TB := TB_in (tg_1 (List.mem_of_getElem? (i := 217) rfl)) rfl
theorem nw_218 : (Jvm.Cond.arrayOver (Jvm.ClassFile.FieldType.object "java/lang/Object")) ∈ NB := NB_in (tg_1 (List.mem_of_getElem? (i := 218) rfl)) rfl
theorem tw_219 : (Jvm.Cond.classLink "java/util/Arrays" (2 : Nat) "java/lang/Object") ∈ TB := TB_in (tg_1 (List.mem_of_getElem? (i := 219) rfl)) rfl
theorem tw_220 : (Jvm.Cond.methodLink "java/util/Arrays" (304 : Nat) ({ cls := "java/lang/Math", name := "min", desc := "(II)I" } : Jvm.MethodName)) ∈ TB := TB_in (tg_1 (List.mem_of_getElem? (i := 220) rfl)) rfl
theorem tw_221 : (Jvm.Cond.static ({ cls := "java/lang/Math", name := "min", desc := "(II)I" } : Jvm.MethodName)) ∈ TB := TB_in (tg_1 (List.mem_of_getElem? (i := 221) rfl)) rfl
theorem tw_222 : (Jvm.Cond.code ({ cls := "java/lang/Math", name := "min", desc := "(II)I" } : Jvm.MethodName) prog_15_method_69_code (2 : Nat) (Option.some Jvm.ClassFile.FieldType.int)) ∈ TB := TB_in (tg_1 (List.mem_of_getElem? (i := 222) rfl)) rfl
theorem tw_223 : (Jvm.Cond.methodLink "java/util/Arrays" (150 : Nat) ({ cls := "java/lang/System", name := "arraycopy", desc := "(Ljava/lang/Object;ILjava/lang/Object;II)V" } : Jvm.MethodName)) ∈ TB := TB_in (tg_1 (List.mem_of_getElem? (i := 223) rfl)) rfl
theorem tw_224 : (Jvm.Cond.static ({ cls := "java/lang/System", name := "arraycopy", desc := "(Ljava/lang/Object;ILjava/lang/Object;II)V" } : Jvm.MethodName)) ∈ TB := TB_in (tg_1 (List.mem_of_getElem? (i := 224) rfl)) rfl
theorem tw_225 : (Jvm.Cond.native ({ cls := "java/lang/System", name := "arraycopy", desc := "(Ljava/lang/Object;ILjava/lang/Object;II)V" } : Jvm.MethodName)) ∈ TB := TB_in (tg_1 (List.mem_of_getElem? (i := 225) rfl)) rfl
theorem tw_226 : (Jvm.Cond.methodLink "java/util/ArrayList" (79 : Nat) ({ cls := "java/lang/Math", name := "max", desc := "(II)I" } : Jvm.MethodName)) ∈ TB := TB_in (tg_1 (List.mem_of_getElem? (i := 226) rfl)) rfl
theorem tw_227 : (Jvm.Cond.classLink "java/util/ArrayList" (7 : Nat) "java/lang/Object") ∈ TB := TB_in (tg_1 (List.mem_of_getElem? (i := 227) rfl)) rfl
theorem tw_228 : (Jvm.Cond.methodLink "BoxDeskLaw" (43 : Nat) ({ cls := "BoxDesk", name := "rule", desc := "(IIII)Z" } : Jvm.MethodName)) ∈ TB := TB_in (tg_1 (List.mem_of_getElem? (i := 228) rfl)) rfl
theorem tw_229 : (Jvm.Cond.instanceMethod ({ cls := "BoxDesk", name := "rule", desc := "(IIII)Z" } : Jvm.MethodName)) ∈ TB := TB_in (tg_1 (List.mem_of_getElem? (i := 229) rfl)) rfl
theorem tw_230 : (Jvm.Cond.selects "BoxDesk" ({ cls := "BoxDesk", name := "rule", desc := "(IIII)Z" } : Jvm.MethodName) ({ cls := "BoxDesk", name := "rule", desc := "(IIII)Z" } : Jvm.MethodName)) ∈ TB := TB_in (tg_1 (List.mem_of_getElem? (i := 230) rfl)) rfl
theorem tw_231 : (Jvm.Cond.code ({ cls := "BoxDesk", name := "rule", desc := "(IIII)Z" } : Jvm.MethodName) prog_1_method_4_code (7 : Nat) (Option.some Jvm.ClassFile.FieldType.boolean)) ∈ TB := TB_in (tg_1 (List.mem_of_getElem? (i := 231) rfl)) rfl
theorem tw_232 : (Jvm.Cond.methodLink "BoxDesk" (49 : Nat) ({ cls := "BoxDesk$Item", name := "ofRule", desc := "(IIII)LBoxDesk$Item;" } : Jvm.MethodName)) ∈ TB := TB_in (tg_1 (List.mem_of_getElem? (i := 232) rfl)) rfl
theorem tw_233 : (Jvm.Cond.static ({ cls := "BoxDesk$Item", name := "ofRule", desc := "(IIII)LBoxDesk$Item;" } : Jvm.MethodName)) ∈ TB := TB_in (tg_1 (List.mem_of_getElem? (i := 233) rfl)) rfl
theorem tw_234 : (Jvm.Cond.code ({ cls := "BoxDesk$Item", name := "ofRule", desc := "(IIII)LBoxDesk$Item;" } : Jvm.MethodName) prog_3_method_2_code (5 : Nat) (Option.some (Jvm.ClassFile.FieldType.object "BoxDesk$Item"))) ∈ TB := TB_in (tg_1 (List.mem_of_getElem? (i := 234) rfl)) rfl
theorem tw_235 : (Jvm.Cond.classLink "BoxDesk$Item" (10 : Nat) "BoxDesk$Item") ∈ TB := TB_in (tg_1 (List.mem_of_getElem? (i := 235) rfl)) rfl
theorem tw_236 : (Jvm.Cond.methodLink "BoxDesk$Item" (24 : Nat) ({ cls := "BoxDesk$Item", name := "<init>", desc := "(IIII)V" } : Jvm.MethodName)) ∈ TB := TB_in (tg_1 (List.mem_of_getElem? (i := 236) rfl)) rfl
theorem tw_237 : (Jvm.Cond.methodLink "BoxDeskLaw" (48 : Nat) ({ cls := "BoxDesk", name := "glue", desc := "(IIII)Z" } : Jvm.MethodName)) ∈ TB := TB_in (tg_1 (List.mem_of_getElem? (i := 237) rfl)) rfl
theorem tw_238 : (Jvm.Cond.instanceMethod ({ cls := "BoxDesk", name := "glue", desc := "(IIII)Z" } : Jvm.MethodName)) ∈ TB := TB_in (tg_1 (List.mem_of_getElem? (i := 238) rfl)) rfl
theorem tw_239 : (Jvm.Cond.selects "BoxDesk" ({ cls := "BoxDesk", name := "glue", desc := "(IIII)Z" } : Jvm.MethodName) ({ cls := "BoxDesk", name := "glue", desc := "(IIII)Z" } : Jvm.MethodName)) ∈ TB := TB_in (tg_1 (List.mem_of_getElem? (i := 239) rfl)) rfl
theorem tw_240 : (Jvm.Cond.code ({ cls := "BoxDesk", name := "glue", desc := "(IIII)Z" } : Jvm.MethodName) prog_1_method_5_code (6 : Nat) (Option.some Jvm.ClassFile.FieldType.boolean)) ∈ TB := TB_in (tg_2 (List.mem_of_getElem? (i := 0) rfl)) rfl
theorem tw_241 : (Jvm.Cond.methodLink "BoxDesk" (53 : Nat) ({ cls := "BoxDesk$Item", name := "ofGlue", desc := "(IIII)LBoxDesk$Item;" } : Jvm.MethodName)) ∈ TB := TB_in (tg_2 (List.mem_of_getElem? (i := 1) rfl)) rfl
theorem tw_242 : (Jvm.Cond.static ({ cls := "BoxDesk$Item", name := "ofGlue", desc := "(IIII)LBoxDesk$Item;" } : Jvm.MethodName)) ∈ TB := TB_in (tg_2 (List.mem_of_getElem? (i := 2) rfl)) rfl
theorem tw_243 : (Jvm.Cond.code ({ cls := "BoxDesk$Item", name := "ofGlue", desc := "(IIII)LBoxDesk$Item;" } : Jvm.MethodName) prog_3_method_3_code (5 : Nat) (Option.some (Jvm.ClassFile.FieldType.object "BoxDesk$Item"))) ∈ TB := TB_in (tg_2 (List.mem_of_getElem? (i := 3) rfl)) rfl
theorem tw_244 : (Jvm.Cond.methodLink "BoxDeskLaw" (52 : Nat) ({ cls := "BoxDesk", name := "kern", desc := "(I)Z" } : Jvm.MethodName)) ∈ TB := TB_in (tg_2 (List.mem_of_getElem? (i := 4) rfl)) rfl
theorem tw_245 : (Jvm.Cond.instanceMethod ({ cls := "BoxDesk", name := "kern", desc := "(I)Z" } : Jvm.MethodName)) ∈ TB := TB_in (tg_2 (List.mem_of_getElem? (i := 5) rfl)) rfl
theorem tw_246 : (Jvm.Cond.selects "BoxDesk" ({ cls := "BoxDesk", name := "kern", desc := "(I)Z" } : Jvm.MethodName) ({ cls := "BoxDesk", name := "kern", desc := "(I)Z" } : Jvm.MethodName)) ∈ TB := TB_in (tg_2 (List.mem_of_getElem? (i := 6) rfl)) rfl
theorem tw_247 : (Jvm.Cond.code ({ cls := "BoxDesk", name := "kern", desc := "(I)Z" } : Jvm.MethodName) prog_1_method_6_code (3 : Nat) (Option.some Jvm.ClassFile.FieldType.boolean)) ∈ TB := TB_in (tg_2 (List.mem_of_getElem? (i := 7) rfl)) rfl
theorem tw_248 : (Jvm.Cond.methodLink "BoxDeskLaw" (57 : Nat) ({ cls := "BoxDesk", name := "penalty", desc := "(I)Z" } : Jvm.MethodName)) ∈ TB := TB_in (tg_2 (List.mem_of_getElem? (i := 8) rfl)) rfl
theorem tw_249 : (Jvm.Cond.instanceMethod ({ cls := "BoxDesk", name := "penalty", desc := "(I)Z" } : Jvm.MethodName)) ∈ TB := TB_in (tg_2 (List.mem_of_getElem? (i := 9) rfl)) rfl
theorem tw_250 : (Jvm.Cond.selects "BoxDesk" ({ cls := "BoxDesk", name := "penalty", desc := "(I)Z" } : Jvm.MethodName) ({ cls := "BoxDesk", name := "penalty", desc := "(I)Z" } : Jvm.MethodName)) ∈ TB := TB_in (tg_2 (List.mem_of_getElem? (i := 10) rfl)) rfl
theorem tw_251 : (Jvm.Cond.code ({ cls := "BoxDesk", name := "penalty", desc := "(I)Z" } : Jvm.MethodName) prog_1_method_7_code (3 : Nat) (Option.some Jvm.ClassFile.FieldType.boolean)) ∈ TB := TB_in (tg_2 (List.mem_of_getElem? (i := 11) rfl)) rfl
theorem tw_252 : (Jvm.Cond.methodLink "BoxDesk" (60 : Nat) ({ cls := "BoxDesk$Item", name := "ofPenalty", desc := "(I)LBoxDesk$Item;" } : Jvm.MethodName)) ∈ TB := TB_in (tg_2 (List.mem_of_getElem? (i := 12) rfl)) rfl
theorem tw_253 : (Jvm.Cond.static ({ cls := "BoxDesk$Item", name := "ofPenalty", desc := "(I)LBoxDesk$Item;" } : Jvm.MethodName)) ∈ TB := TB_in (tg_2 (List.mem_of_getElem? (i := 13) rfl)) rfl
theorem tw_254 : (Jvm.Cond.code ({ cls := "BoxDesk$Item", name := "ofPenalty", desc := "(I)LBoxDesk$Item;" } : Jvm.MethodName) prog_3_method_4_code (2 : Nat) (Option.some (Jvm.ClassFile.FieldType.object "BoxDesk$Item"))) ∈ TB := TB_in (tg_2 (List.mem_of_getElem? (i := 14) rfl)) rfl
theorem tw_255 : (Jvm.Cond.methodLink "BoxDeskLaw" (71 : Nat) ({ cls := "BoxDesk", name := "put", desc := "(IIZ)Z" } : Jvm.MethodName)) ∈ TB := TB_in (tg_2 (List.mem_of_getElem? (i := 15) rfl)) rfl
theorem tw_256 : (Jvm.Cond.instanceMethod ({ cls := "BoxDesk", name := "put", desc := "(IIZ)Z" } : Jvm.MethodName)) ∈ TB := TB_in (tg_2 (List.mem_of_getElem? (i := 16) rfl)) rfl
theorem tw_257 : (Jvm.Cond.selects "BoxDesk" ({ cls := "BoxDesk", name := "put", desc := "(IIZ)Z" } : Jvm.MethodName) ({ cls := "BoxDesk", name := "put", desc := "(IIZ)Z" } : Jvm.MethodName)) ∈ TB := TB_in (tg_2 (List.mem_of_getElem? (i := 17) rfl)) rfl
theorem tw_258 : (Jvm.Cond.code ({ cls := "BoxDesk", name := "put", desc := "(IIZ)Z" } : Jvm.MethodName) prog_1_method_9_code (7 : Nat) (Option.some Jvm.ClassFile.FieldType.boolean)) ∈ TB := TB_in (tg_2 (List.mem_of_getElem? (i := 18) rfl)) rfl
theorem tw_259 : (Jvm.Cond.methodLink "BoxDesk" (113 : Nat) ({ cls := "BoxDesk", name := "boxIn", desc := "(I)LBoxDesk$Box;" } : Jvm.MethodName)) ∈ TB := TB_in (tg_2 (List.mem_of_getElem? (i := 19) rfl)) rfl
theorem tw_261 : (Jvm.Cond.instanceMethod ({ cls := "BoxDesk", name := "boxIn", desc := "(I)LBoxDesk$Box;" } : Jvm.MethodName)) ∈ TB := TB_in (tg_2 (List.mem_of_getElem? (i := 21) rfl)) rfl
theorem tw_262 : (Jvm.Cond.code ({ cls := "BoxDesk", name := "boxIn", desc := "(I)LBoxDesk$Box;" } : Jvm.MethodName) prog_1_method_16_code (2 : Nat) (Option.some (Jvm.ClassFile.FieldType.object "BoxDesk$Box"))) ∈ TB := TB_in (tg_2 (List.mem_of_getElem? (i := 22) rfl)) rfl
theorem tw_263 : (Jvm.Cond.methodLink "BoxDesk" (71 : Nat) ({ cls := "BoxDesk", name := "isRegister", desc := "(I)Z" } : Jvm.MethodName)) ∈ TB := TB_in (tg_2 (List.mem_of_getElem? (i := 23) rfl)) rfl
theorem tw_264 : (Jvm.Cond.static ({ cls := "BoxDesk", name := "isRegister", desc := "(I)Z" } : Jvm.MethodName)) ∈ TB := TB_in (tg_2 (List.mem_of_getElem? (i := 24) rfl)) rfl
theorem tw_265 : (Jvm.Cond.code ({ cls := "BoxDesk", name := "isRegister", desc := "(I)Z" } : Jvm.MethodName) prog_1_method_19_code (1 : Nat) (Option.some Jvm.ClassFile.FieldType.boolean)) ∈ TB := TB_in (tg_2 (List.mem_of_getElem? (i := 25) rfl)) rfl
theorem tw_266 : (Jvm.Cond.methodLink "BoxDesk" (109 : Nat) ({ cls := "BoxDesk", name := "itemsOf", desc := "(LBoxDesk$Box;)I" } : Jvm.MethodName)) ∈ TB := TB_in (tg_2 (List.mem_of_getElem? (i := 26) rfl)) rfl
theorem tw_267 : (Jvm.Cond.static ({ cls := "BoxDesk", name := "itemsOf", desc := "(LBoxDesk$Box;)I" } : Jvm.MethodName)) ∈ TB := TB_in (tg_2 (List.mem_of_getElem? (i := 27) rfl)) rfl
theorem tw_268 : (Jvm.Cond.code ({ cls := "BoxDesk", name := "itemsOf", desc := "(LBoxDesk$Box;)I" } : Jvm.MethodName) prog_1_method_18_code (1 : Nat) (Option.some Jvm.ClassFile.FieldType.int)) ∈ TB := TB_in (tg_2 (List.mem_of_getElem? (i := 28) rfl)) rfl
theorem tw_269 : (Jvm.Cond.methodLink "BoxDesk" (121 : Nat) ({ cls := "BoxDesk$Item", name := "ofBox", desc := "(LBoxDesk$Box;I)LBoxDesk$Item;" } : Jvm.MethodName)) ∈ TB := TB_in (tg_2 (List.mem_of_getElem? (i := 29) rfl)) rfl
theorem tw_270 : (Jvm.Cond.static ({ cls := "BoxDesk$Item", name := "ofBox", desc := "(LBoxDesk$Box;I)LBoxDesk$Item;" } : Jvm.MethodName)) ∈ TB := TB_in (tg_2 (List.mem_of_getElem? (i := 30) rfl)) rfl
theorem tw_271 : (Jvm.Cond.code ({ cls := "BoxDesk$Item", name := "ofBox", desc := "(LBoxDesk$Box;I)LBoxDesk$Item;" } : Jvm.MethodName) prog_3_method_5_code (3 : Nat) (Option.some (Jvm.ClassFile.FieldType.object "BoxDesk$Item"))) ∈ TB := TB_in (tg_2 (List.mem_of_getElem? (i := 31) rfl)) rfl
theorem tw_272 : (Jvm.Cond.methodLink "BoxDeskLaw" (76 : Nat) ({ cls := "BoxDesk", name := "unbox", desc := "(I)Z" } : Jvm.MethodName)) ∈ TB := TB_in (tg_2 (List.mem_of_getElem? (i := 32) rfl)) rfl
theorem tw_273 : (Jvm.Cond.instanceMethod ({ cls := "BoxDesk", name := "unbox", desc := "(I)Z" } : Jvm.MethodName)) ∈ TB := TB_in (tg_2 (List.mem_of_getElem? (i := 33) rfl)) rfl
theorem tw_274 : (Jvm.Cond.selects "BoxDesk" ({ cls := "BoxDesk", name := "unbox", desc := "(I)Z" } : Jvm.MethodName) ({ cls := "BoxDesk", name := "unbox", desc := "(I)Z" } : Jvm.MethodName)) ∈ TB := TB_in (tg_2 (List.mem_of_getElem? (i := 34) rfl)) rfl
theorem tw_275 : (Jvm.Cond.code ({ cls := "BoxDesk", name := "unbox", desc := "(I)Z" } : Jvm.MethodName) prog_1_method_10_code (6 : Nat) (Option.some Jvm.ClassFile.FieldType.boolean)) ∈ TB := TB_in (tg_2 (List.mem_of_getElem? (i := 35) rfl)) rfl
theorem tw_276 : (Jvm.Cond.methodLink "BoxDesk" (135 : Nat) ({ cls := "java/util/ArrayList", name := "size", desc := "()I" } : Jvm.MethodName)) ∈ TB := TB_in (tg_2 (List.mem_of_getElem? (i := 36) rfl)) rfl
theorem tw_277 : (Jvm.Cond.instanceMethod ({ cls := "java/util/ArrayList", name := "size", desc := "()I" } : Jvm.MethodName)) ∈ TB := TB_in (tg_2 (List.mem_of_getElem? (i := 37) rfl)) rfl
theorem tw_278 : (Jvm.Cond.selects "java/util/ArrayList" ({ cls := "java/util/ArrayList", name := "size", desc := "()I" } : Jvm.MethodName) ({ cls := "java/util/ArrayList", name := "size", desc := "()I" } : Jvm.MethodName)) ∈ TB := TB_in (tg_2 (List.mem_of_getElem? (i := 38) rfl)) rfl
theorem tw_279 : (Jvm.Cond.code ({ cls := "java/util/ArrayList", name := "size", desc := "()I" } : Jvm.MethodName) prog_23_method_8_code (1 : Nat) (Option.some Jvm.ClassFile.FieldType.int)) ∈ TB := TB_in (tg_2 (List.mem_of_getElem? (i := 39) rfl)) rfl
theorem tw_280 : (Jvm.Cond.methodLink "BoxDesk" (139 : Nat) ({ cls := "java/util/ArrayList", name := "get", desc := "(I)Ljava/lang/Object;" } : Jvm.MethodName)) ∈ TB := TB_in (tg_2 (List.mem_of_getElem? (i := 40) rfl)) rfl
theorem tw_281 : (Jvm.Cond.instanceMethod ({ cls := "java/util/ArrayList", name := "get", desc := "(I)Ljava/lang/Object;" } : Jvm.MethodName)) ∈ TB := TB_in (tg_2 (List.mem_of_getElem? (i := 41) rfl)) rfl
theorem tw_282 : (Jvm.Cond.selects "java/util/ArrayList" ({ cls := "java/util/ArrayList", name := "get", desc := "(I)Ljava/lang/Object;" } : Jvm.MethodName) ({ cls := "java/util/ArrayList", name := "get", desc := "(I)Ljava/lang/Object;" } : Jvm.MethodName)) ∈ TB := TB_in (tg_2 (List.mem_of_getElem? (i := 42) rfl)) rfl
theorem tw_283 : (Jvm.Cond.code ({ cls := "java/util/ArrayList", name := "get", desc := "(I)Ljava/lang/Object;" } : Jvm.MethodName) prog_23_method_20_code (2 : Nat) (Option.some (Jvm.ClassFile.FieldType.object "java/lang/Object"))) ∈ TB := TB_in (tg_2 (List.mem_of_getElem? (i := 43) rfl)) rfl
theorem tw_284 : (Jvm.Cond.methodLink "java/util/ArrayList" (118 : Nat) ({ cls := "java/util/Objects", name := "checkIndex", desc := "(II)I" } : Jvm.MethodName)) ∈ TB := TB_in (tg_2 (List.mem_of_getElem? (i := 44) rfl)) rfl
theorem tw_285 : (Jvm.Cond.static ({ cls := "java/util/Objects", name := "checkIndex", desc := "(II)I" } : Jvm.MethodName)) ∈ TB := TB_in (tg_2 (List.mem_of_getElem? (i := 45) rfl)) rfl
theorem tw_286 : (Jvm.Cond.code ({ cls := "java/util/Objects", name := "checkIndex", desc := "(II)I" } : Jvm.MethodName) prog_27_method_17_code (2 : Nat) (Option.some Jvm.ClassFile.FieldType.int)) ∈ TB := TB_in (tg_2 (List.mem_of_getElem? (i := 46) rfl)) rfl
theorem tw_287 : (Jvm.Cond.methodLink "java/util/Objects" (105 : Nat) ({ cls := "jdk/internal/util/Preconditions", name := "checkIndex", desc := "(IILjava/util/function/BiFunction;)I" } : Jvm.MethodName)) ∈ TB := TB_in (tg_2 (List.mem_of_getElem? (i := 47) rfl)) rfl
theorem tw_288 : (Jvm.Cond.static ({ cls := "jdk/internal/util/Preconditions", name := "checkIndex", desc := "(IILjava/util/function/BiFunction;)I" } : Jvm.MethodName)) ∈ TB := TB_in (tg_2 (List.mem_of_getElem? (i := 48) rfl)) rfl
theorem tw_289 : (Jvm.Cond.code ({ cls := "jdk/internal/util/Preconditions", name := "checkIndex", desc := "(IILjava/util/function/BiFunction;)I" } : Jvm.MethodName) prog_31_method_11_code (3 : Nat) (Option.some Jvm.ClassFile.FieldType.int)) ∈ TB := TB_in (tg_2 (List.mem_of_getElem? (i := 49) rfl)) rfl
theorem tw_290 : (Jvm.Cond.methodLink "java/util/ArrayList" (123 : Nat) ({ cls := "java/util/ArrayList", name := "elementData", desc := "(I)Ljava/lang/Object;" } : Jvm.MethodName)) ∈ TB := TB_in (tg_2 (List.mem_of_getElem? (i := 50) rfl)) rfl
theorem tw_291 : (Jvm.Cond.instanceMethod ({ cls := "java/util/ArrayList", name := "elementData", desc := "(I)Ljava/lang/Object;" } : Jvm.MethodName)) ∈ TB := TB_in (tg_2 (List.mem_of_getElem? (i := 51) rfl)) rfl
theorem tw_292 : (Jvm.Cond.selects "java/util/ArrayList" ({ cls := "java/util/ArrayList", name := "elementData", desc := "(I)Ljava/lang/Object;" } : Jvm.MethodName) ({ cls := "java/util/ArrayList", name := "elementData", desc := "(I)Ljava/lang/Object;" } : Jvm.MethodName)) ∈ TB := TB_in (tg_2 (List.mem_of_getElem? (i := 52) rfl)) rfl
theorem tw_293 : (Jvm.Cond.code ({ cls := "java/util/ArrayList", name := "elementData", desc := "(I)Ljava/lang/Object;" } : Jvm.MethodName) prog_23_method_18_code (2 : Nat) (Option.some (Jvm.ClassFile.FieldType.object "java/lang/Object"))) ∈ TB := TB_in (tg_2 (List.mem_of_getElem? (i := 53) rfl)) rfl
theorem tw_294 : (Jvm.Cond.methodLink "BoxDeskLaw" (80 : Nat) ({ cls := "BoxDesk", name := "size", desc := "(III)Z" } : Jvm.MethodName)) ∈ TB := TB_in (tg_2 (List.mem_of_getElem? (i := 54) rfl)) rfl
theorem tw_295 : (Jvm.Cond.instanceMethod ({ cls := "BoxDesk", name := "size", desc := "(III)Z" } : Jvm.MethodName)) ∈ TB := TB_in (tg_2 (List.mem_of_getElem? (i := 55) rfl)) rfl
theorem tw_296 : (Jvm.Cond.selects "BoxDesk" ({ cls := "BoxDesk", name := "size", desc := "(III)Z" } : Jvm.MethodName) ({ cls := "BoxDesk", name := "size", desc := "(III)Z" } : Jvm.MethodName)) ∈ TB := TB_in (tg_2 (List.mem_of_getElem? (i := 56) rfl)) rfl
theorem tw_297 : (Jvm.Cond.code ({ cls := "BoxDesk", name := "size", desc := "(III)Z" } : Jvm.MethodName) prog_1_method_11_code (5 : Nat) (Option.some Jvm.ClassFile.FieldType.boolean)) ∈ TB := TB_in (tg_2 (List.mem_of_getElem? (i := 57) rfl)) rfl
theorem tw_298 : (Jvm.Cond.methodLink "BoxDeskLaw" (92 : Nat) ({ cls := "BoxDesk", name := "count", desc := "(I)I" } : Jvm.MethodName)) ∈ TB := TB_in (tg_2 (List.mem_of_getElem? (i := 58) rfl)) rfl
theorem tw_299 : (Jvm.Cond.instanceMethod ({ cls := "BoxDesk", name := "count", desc := "(I)I" } : Jvm.MethodName)) ∈ TB := TB_in (tg_2 (List.mem_of_getElem? (i := 59) rfl)) rfl
theorem tw_300 : (Jvm.Cond.selects "BoxDesk" ({ cls := "BoxDesk", name := "count", desc := "(I)I" } : Jvm.MethodName) ({ cls := "BoxDesk", name := "count", desc := "(I)I" } : Jvm.MethodName)) ∈ TB := TB_in (tg_2 (List.mem_of_getElem? (i := 60) rfl)) rfl
theorem tw_301 : (Jvm.Cond.code ({ cls := "BoxDesk", name := "count", desc := "(I)I" } : Jvm.MethodName) prog_1_method_14_code (2 : Nat) (Option.some Jvm.ClassFile.FieldType.int)) ∈ TB := TB_in (tg_2 (List.mem_of_getElem? (i := 61) rfl)) rfl
theorem tw_302 : (Jvm.Cond.methodLink "BoxDeskLaw" (61 : Nat) ({ cls := "BoxDeskLaw", name := "close", desc := "(LBoxDesk;IIII[J)I" } : Jvm.MethodName)) ∈ TB := TB_in (tg_2 (List.mem_of_getElem? (i := 62) rfl)) rfl
theorem tw_303 : (Jvm.Cond.static ({ cls := "BoxDeskLaw", name := "close", desc := "(LBoxDesk;IIII[J)I" } : Jvm.MethodName)) ∈ TB := TB_in (tg_2 (List.mem_of_getElem? (i := 63) rfl)) rfl
theorem tw_305 : (Jvm.Cond.classLink "BoxDeskLaw" (13 : Nat) "java/lang/IllegalStateException") ∈ TB := TB_in (tg_2 (List.mem_of_getElem? (i := 65) rfl)) rfl
theorem tw_306 : (Jvm.Cond.classLink "BoxDeskLaw" (15 : Nat) "java/lang/IllegalArgumentException") ∈ TB := TB_in (tg_2 (List.mem_of_getElem? (i := 66) rfl)) rfl
theorem tw_307 : (Jvm.Cond.classLink "BoxDeskLaw" (17 : Nat) "java/lang/UnsupportedOperationException") ∈ TB := TB_in (tg_2 (List.mem_of_getElem? (i := 67) rfl)) rfl
theorem tw_308 : (Jvm.Cond.methodLink "BoxDeskLaw" (7 : Nat) ({ cls := "BoxDesk", name := "close", desc := "(IIII)I" } : Jvm.MethodName)) ∈ TB := TB_in (tg_2 (List.mem_of_getElem? (i := 68) rfl)) rfl
theorem tw_309 : (Jvm.Cond.instanceMethod ({ cls := "BoxDesk", name := "close", desc := "(IIII)I" } : Jvm.MethodName)) ∈ TB := TB_in (tg_2 (List.mem_of_getElem? (i := 69) rfl)) rfl
theorem tw_310 : (Jvm.Cond.selects "BoxDesk" ({ cls := "BoxDesk", name := "close", desc := "(IIII)I" } : Jvm.MethodName) ({ cls := "BoxDesk", name := "close", desc := "(IIII)I" } : Jvm.MethodName)) ∈ TB := TB_in (tg_2 (List.mem_of_getElem? (i := 70) rfl)) rfl
theorem tw_311 : (Jvm.Cond.code ({ cls := "BoxDesk", name := "close", desc := "(IIII)I" } : Jvm.MethodName) prog_1_method_8_code (10 : Nat) (Option.some Jvm.ClassFile.FieldType.int)) ∈ TB := TB_in (tg_2 (List.mem_of_getElem? (i := 71) rfl)) rfl
theorem tw_312 : (Jvm.Cond.classLink "BoxDesk" (64 : Nat) "java/lang/IllegalStateException") ∈ TB := TB_in (tg_2 (List.mem_of_getElem? (i := 72) rfl)) rfl
theorem tw_313 : (Jvm.Cond.instantiable "java/lang/IllegalStateException" (6 : Nat)) ∈ TB := TB_in (tg_2 (List.mem_of_getElem? (i := 73) rfl)) rfl
theorem nw_314 : (Jvm.Cond.castable "java/lang/IllegalStateException" "java/lang/IllegalStateException") ∈ NB := NB_in (tg_2 (List.mem_of_getElem? (i := 74) rfl)) rfl
theorem tw_321 : (Jvm.Cond.selects "java/lang/IllegalStateException" ({ cls := "java/lang/Throwable", name := "fillInStackTrace", desc := "(I)Ljava/lang/Throwable;" } : Jvm.MethodName) ({ cls := "java/lang/Throwable", name := "fillInStackTrace", desc := "(I)Ljava/lang/Throwable;" } : Jvm.MethodName)) ∈ TB := TB_in (tg_2 (List.mem_of_getElem? (i := 81) rfl)) rfl
theorem tw_322 : (Jvm.Cond.selects "java/lang/IllegalStateException" ({ cls := "java/lang/Throwable", name := "fillInStackTrace", desc := "()Ljava/lang/Throwable;" } : Jvm.MethodName) ({ cls := "java/lang/Throwable", name := "fillInStackTrace", desc := "()Ljava/lang/Throwable;" } : Jvm.MethodName)) ∈ TB := TB_in (tg_2 (List.mem_of_getElem? (i := 82) rfl)) rfl
theorem tw_333 : (Jvm.Cond.fieldLink "java/lang/Throwable" (198 : Nat) "java/lang/Throwable" "backtrace" "Ljava/lang/Object;") ∈ TB := TB_in (tg_2 (List.mem_of_getElem? (i := 93) rfl)) rfl
theorem tw_334 : (Jvm.Cond.superclass "java/lang/Throwable" "java/lang/Object") ∈ TB := TB_in (tg_2 (List.mem_of_getElem? (i := 94) rfl)) rfl
theorem tw_335 : (Jvm.Cond.instanceMethod ({ cls := "java/lang/Throwable", name := "<init>", desc := "()V" } : Jvm.MethodName)) ∈ TB := TB_in (tg_2 (List.mem_of_getElem? (i := 95) rfl)) rfl
theorem tw_336 : (Jvm.Cond.code ({ cls := "java/lang/Throwable", name := "<init>", desc := "()V" } : Jvm.MethodName) prog_19_method_1_code (1 : Nat) (Option.none : Option Jvm.ClassFile.FieldType)) ∈ TB := TB_in (tg_2 (List.mem_of_getElem? (i := 96) rfl)) rfl
theorem tw_337 : (Jvm.Cond.methodLink "java/lang/Throwable" (1 : Nat) ({ cls := "java/lang/Object", name := "<init>", desc := "()V" } : Jvm.MethodName)) ∈ TB := TB_in (tg_2 (List.mem_of_getElem? (i := 97) rfl)) rfl
theorem tw_338 : (Jvm.Cond.fieldLink "java/lang/Throwable" (13 : Nat) "java/lang/Throwable" "UNASSIGNED_STACK" "[Ljava/lang/StackTraceElement;") ∈ TB := TB_in (tg_2 (List.mem_of_getElem? (i := 98) rfl)) rfl
theorem tw_340 : (Jvm.Cond.fieldLink "java/lang/Throwable" (20 : Nat) "java/lang/Throwable" "SUPPRESSED_SENTINEL" "Ljava/util/List;") ∈ TB := TB_in (tg_2 (List.mem_of_getElem? (i := 100) rfl)) rfl
theorem tw_342 : (Jvm.Cond.methodLink "java/lang/Throwable" (27 : Nat) ({ cls := "java/lang/Throwable", name := "fillInStackTrace", desc := "()Ljava/lang/Throwable;" } : Jvm.MethodName)) ∈ TB := TB_in (tg_2 (List.mem_of_getElem? (i := 102) rfl)) rfl
theorem tw_343 : (Jvm.Cond.instanceMethod ({ cls := "java/lang/Throwable", name := "fillInStackTrace", desc := "()Ljava/lang/Throwable;" } : Jvm.MethodName)) ∈ TB := TB_in (tg_2 (List.mem_of_getElem? (i := 103) rfl)) rfl
theorem tw_344 : (Jvm.Cond.sameMethod "java/lang/Throwable" "java/lang/Throwable" "fillInStackTrace" "()Ljava/lang/Throwable;") ∈ TB := TB_in (tg_2 (List.mem_of_getElem? (i := 104) rfl)) rfl
theorem tw_345 : (Jvm.Cond.selects "java/lang/IllegalArgumentException" ({ cls := "java/lang/Throwable", name := "fillInStackTrace", desc := "()Ljava/lang/Throwable;" } : Jvm.MethodName) ({ cls := "java/lang/Throwable", name := "fillInStackTrace", desc := "()Ljava/lang/Throwable;" } : Jvm.MethodName)) ∈ TB := TB_in (tg_2 (List.mem_of_getElem? (i := 105) rfl)) rfl
theorem tw_346 : (Jvm.Cond.selects "java/lang/IndexOutOfBoundsException" ({ cls := "java/lang/Throwable", name := "fillInStackTrace", desc := "()Ljava/lang/Throwable;" } : Jvm.MethodName) ({ cls := "java/lang/Throwable", name := "fillInStackTrace", desc := "()Ljava/lang/Throwable;" } : Jvm.MethodName)) ∈ TB := TB_in (tg_2 (List.mem_of_getElem? (i := 106) rfl)) rfl
theorem tw_347 : (Jvm.Cond.selects "java/lang/UnsupportedOperationException" ({ cls := "java/lang/Throwable", name := "fillInStackTrace", desc := "()Ljava/lang/Throwable;" } : Jvm.MethodName) ({ cls := "java/lang/Throwable", name := "fillInStackTrace", desc := "()Ljava/lang/Throwable;" } : Jvm.MethodName)) ∈ TB := TB_in (tg_2 (List.mem_of_getElem? (i := 107) rfl)) rfl
theorem tw_349 : (Jvm.Cond.methodLink "java/lang/Throwable" (202 : Nat) ({ cls := "java/lang/Throwable", name := "fillInStackTrace", desc := "(I)Ljava/lang/Throwable;" } : Jvm.MethodName)) ∈ TB := TB_in (tg_2 (List.mem_of_getElem? (i := 109) rfl)) rfl
theorem tw_351 : (Jvm.Cond.instanceMethod ({ cls := "java/lang/Throwable", name := "fillInStackTrace", desc := "(I)Ljava/lang/Throwable;" } : Jvm.MethodName)) ∈ TB := TB_in (tg_2 (List.mem_of_getElem? (i := 111) rfl)) rfl
theorem tw_352 : (Jvm.Cond.instantiable "java/lang/Throwable" (6 : Nat)) ∈ TB := TB_in (tg_2 (List.mem_of_getElem? (i := 112) rfl)) rfl
theorem tw_353 : (Jvm.Cond.native ({ cls := "java/lang/Throwable", name := "fillInStackTrace", desc := "(I)Ljava/lang/Throwable;" } : Jvm.MethodName)) ∈ TB := TB_in (tg_2 (List.mem_of_getElem? (i := 113) rfl)) rfl
theorem tw_355 : (Jvm.Cond.methodLink "BoxDesk" (68 : Nat) ({ cls := "java/lang/IllegalStateException", name := "<init>", desc := "(Ljava/lang/String;)V" } : Jvm.MethodName)) ∈ TB := TB_in (tg_2 (List.mem_of_getElem? (i := 115) rfl)) rfl
theorem tw_356 : (Jvm.Cond.instanceMethod ({ cls := "java/lang/IllegalStateException", name := "<init>", desc := "(Ljava/lang/String;)V" } : Jvm.MethodName)) ∈ TB := TB_in (tg_2 (List.mem_of_getElem? (i := 116) rfl)) rfl
theorem tw_357 : (Jvm.Cond.code ({ cls := "java/lang/IllegalStateException", name := "<init>", desc := "(Ljava/lang/String;)V" } : Jvm.MethodName) prog_12_method_2_code (2 : Nat) (Option.none : Option Jvm.ClassFile.FieldType)) ∈ TB := TB_in (tg_2 (List.mem_of_getElem? (i := 117) rfl)) rfl
theorem tw_358 : (Jvm.Cond.methodLink "java/lang/IllegalStateException" (7 : Nat) ({ cls := "java/lang/RuntimeException", name := "<init>", desc := "(Ljava/lang/String;)V" } : Jvm.MethodName)) ∈ TB := TB_in (tg_2 (List.mem_of_getElem? (i := 118) rfl)) rfl
theorem tw_359 : (Jvm.Cond.instanceMethod ({ cls := "java/lang/RuntimeException", name := "<init>", desc := "(Ljava/lang/String;)V" } : Jvm.MethodName)) ∈ TB := TB_in (tg_2 (List.mem_of_getElem? (i := 119) rfl)) rfl
theorem tw_360 : (Jvm.Cond.code ({ cls := "java/lang/RuntimeException", name := "<init>", desc := "(Ljava/lang/String;)V" } : Jvm.MethodName) prog_16_method_2_code (2 : Nat) (Option.none : Option Jvm.ClassFile.FieldType)) ∈ TB := TB_in (tg_2 (List.mem_of_getElem? (i := 120) rfl)) rfl
theorem tw_361 : (Jvm.Cond.methodLink "java/lang/RuntimeException" (7 : Nat) ({ cls := "java/lang/Exception", name := "<init>", desc := "(Ljava/lang/String;)V" } : Jvm.MethodName)) ∈ TB := TB_in (tg_2 (List.mem_of_getElem? (i := 121) rfl)) rfl
theorem tw_362 : (Jvm.Cond.instanceMethod ({ cls := "java/lang/Exception", name := "<init>", desc := "(Ljava/lang/String;)V" } : Jvm.MethodName)) ∈ TB := TB_in (tg_2 (List.mem_of_getElem? (i := 122) rfl)) rfl
theorem tw_363 : (Jvm.Cond.code ({ cls := "java/lang/Exception", name := "<init>", desc := "(Ljava/lang/String;)V" } : Jvm.MethodName) prog_10_method_2_code (2 : Nat) (Option.none : Option Jvm.ClassFile.FieldType)) ∈ TB := TB_in (tg_2 (List.mem_of_getElem? (i := 123) rfl)) rfl
theorem tw_364 : (Jvm.Cond.methodLink "java/lang/Exception" (7 : Nat) ({ cls := "java/lang/Throwable", name := "<init>", desc := "(Ljava/lang/String;)V" } : Jvm.MethodName)) ∈ TB := TB_in (tg_2 (List.mem_of_getElem? (i := 124) rfl)) rfl
theorem tw_365 : (Jvm.Cond.instanceMethod ({ cls := "java/lang/Throwable", name := "<init>", desc := "(Ljava/lang/String;)V" } : Jvm.MethodName)) ∈ TB := TB_in (tg_2 (List.mem_of_getElem? (i := 125) rfl)) rfl
theorem tw_366 : (Jvm.Cond.code ({ cls := "java/lang/Throwable", name := "<init>", desc := "(Ljava/lang/String;)V" } : Jvm.MethodName) prog_19_method_2_code (2 : Nat) (Option.none : Option Jvm.ClassFile.FieldType)) ∈ TB := TB_in (tg_2 (List.mem_of_getElem? (i := 126) rfl)) rfl
theorem tw_367 : (Jvm.Cond.fieldLink "java/lang/Throwable" (198 : Nat) "java/lang/Throwable" "backtrace" "Ljava/lang/Object;") ∈ TB := TB_in (tg_2 (List.mem_of_getElem? (i := 127) rfl)) rfl
theorem tw_368 : (Jvm.Cond.fieldLink "java/lang/Throwable" (31 : Nat) "java/lang/Throwable" "detailMessage" "Ljava/lang/String;") ∈ TB := TB_in (tg_2 (List.mem_of_getElem? (i := 128) rfl)) rfl
theorem tw_369 : (Jvm.Cond.fieldLink "java/lang/Throwable" (7 : Nat) "java/lang/Throwable" "cause" "Ljava/lang/Throwable;") ∈ TB := TB_in (tg_2 (List.mem_of_getElem? (i := 129) rfl)) rfl
theorem tw_370 : (Jvm.Cond.fieldLink "java/lang/Throwable" (17 : Nat) "java/lang/Throwable" "stackTrace" "[Ljava/lang/StackTraceElement;") ∈ TB := TB_in (tg_2 (List.mem_of_getElem? (i := 130) rfl)) rfl
theorem tw_371 : (Jvm.Cond.fieldLink "java/lang/Throwable" (24 : Nat) "java/lang/Throwable" "suppressedExceptions" "Ljava/util/List;") ∈ TB := TB_in (tg_2 (List.mem_of_getElem? (i := 131) rfl)) rfl
theorem tw_379 : (Jvm.Cond.superclass "java/lang/IllegalStateException" "java/lang/RuntimeException") ∈ TB := TB_in (tg_2 (List.mem_of_getElem? (i := 139) rfl)) rfl
theorem tw_380 : (Jvm.Cond.arrayClass Jvm.ClassFile.FieldType.byte) ∈ TB := TB_in (tg_2 (List.mem_of_getElem? (i := 140) rfl)) rfl
theorem tw_381 : (Jvm.Cond.classLink "BoxDesk" (75 : Nat) "java/lang/IllegalArgumentException") ∈ TB := TB_in (tg_2 (List.mem_of_getElem? (i := 141) rfl)) rfl
theorem tw_382 : (Jvm.Cond.instantiable "java/lang/IllegalArgumentException" (6 : Nat)) ∈ TB := TB_in (tg_2 (List.mem_of_getElem? (i := 142) rfl)) rfl
theorem nw_383 : (Jvm.Cond.castable "java/lang/IllegalArgumentException" "java/lang/IllegalArgumentException") ∈ NB := NB_in (tg_2 (List.mem_of_getElem? (i := 143) rfl)) rfl
theorem tw_384 : (Jvm.Cond.selects "java/lang/IllegalArgumentException" ({ cls := "java/lang/Throwable", name := "fillInStackTrace", desc := "(I)Ljava/lang/Throwable;" } : Jvm.MethodName) ({ cls := "java/lang/Throwable", name := "fillInStackTrace", desc := "(I)Ljava/lang/Throwable;" } : Jvm.MethodName)) ∈ TB := TB_in (tg_2 (List.mem_of_getElem? (i := 144) rfl)) rfl
theorem tw_391 : (Jvm.Cond.methodLink "BoxDesk" (79 : Nat) ({ cls := "java/lang/IllegalArgumentException", name := "<init>", desc := "(Ljava/lang/String;)V" } : Jvm.MethodName)) ∈ TB := TB_in (tg_2 (List.mem_of_getElem? (i := 151) rfl)) rfl
theorem tw_392 : (Jvm.Cond.instanceMethod ({ cls := "java/lang/IllegalArgumentException", name := "<init>", desc := "(Ljava/lang/String;)V" } : Jvm.MethodName)) ∈ TB := TB_in (tg_2 (List.mem_of_getElem? (i := 152) rfl)) rfl
theorem tw_393 : (Jvm.Cond.code ({ cls := "java/lang/IllegalArgumentException", name := "<init>", desc := "(Ljava/lang/String;)V" } : Jvm.MethodName) prog_11_method_2_code (2 : Nat) (Option.none : Option Jvm.ClassFile.FieldType)) ∈ TB := TB_in (tg_2 (List.mem_of_getElem? (i := 153) rfl)) rfl
theorem tw_394 : (Jvm.Cond.methodLink "java/lang/IllegalArgumentException" (7 : Nat) ({ cls := "java/lang/RuntimeException", name := "<init>", desc := "(Ljava/lang/String;)V" } : Jvm.MethodName)) ∈ TB := TB_in (tg_2 (List.mem_of_getElem? (i := 154) rfl)) rfl
theorem tw_396 : (Jvm.Cond.superclass "java/lang/IllegalArgumentException" "java/lang/RuntimeException") ∈ TB := TB_in (tg_2 (List.mem_of_getElem? (i := 156) rfl)) rfl
theorem tw_397 : (Jvm.Cond.methodLink "BoxDesk" (80 : Nat) ({ cls := "BoxDesk", name := "measured", desc := "(LBoxDesk$ItemList;I)LBoxDesk$Measure;" } : Jvm.MethodName)) ∈ TB := TB_in (tg_2 (List.mem_of_getElem? (i := 157) rfl)) rfl
theorem tw_398 : (Jvm.Cond.static ({ cls := "BoxDesk", name := "measured", desc := "(LBoxDesk$ItemList;I)LBoxDesk$Measure;" } : Jvm.MethodName)) ∈ TB := TB_in (tg_2 (List.mem_of_getElem? (i := 158) rfl)) rfl
theorem tw_399 : (Jvm.Cond.code ({ cls := "BoxDesk", name := "measured", desc := "(LBoxDesk$ItemList;I)LBoxDesk$Measure;" } : Jvm.MethodName) prog_1_method_23_code (5 : Nat) (Option.some (Jvm.ClassFile.FieldType.object "BoxDesk$Measure"))) ∈ TB := TB_in (tg_2 (List.mem_of_getElem? (i := 159) rfl)) rfl
theorem tw_400 : (Jvm.Cond.classLink "BoxDesk" (85 : Nat) "BoxDesk$Measure") ∈ TB := TB_in (tg_2 (List.mem_of_getElem? (i := 160) rfl)) rfl
theorem tw_401 : (Jvm.Cond.instantiable "BoxDesk$Measure" (8 : Nat)) ∈ TB := TB_in (tg_2 (List.mem_of_getElem? (i := 161) rfl)) rfl
theorem tw_402 : (Jvm.Cond.methodLink "BoxDesk" (178 : Nat) ({ cls := "BoxDesk$Measure", name := "<init>", desc := "()V" } : Jvm.MethodName)) ∈ TB := TB_in (tg_2 (List.mem_of_getElem? (i := 162) rfl)) rfl
theorem tw_403 : (Jvm.Cond.instanceMethod ({ cls := "BoxDesk$Measure", name := "<init>", desc := "()V" } : Jvm.MethodName)) ∈ TB := TB_in (tg_2 (List.mem_of_getElem? (i := 163) rfl)) rfl
theorem tw_404 : (Jvm.Cond.code ({ cls := "BoxDesk$Measure", name := "<init>", desc := "()V" } : Jvm.MethodName) prog_5_method_1_code (1 : Nat) (Option.none : Option Jvm.ClassFile.FieldType)) ∈ TB := TB_in (tg_2 (List.mem_of_getElem? (i := 164) rfl)) rfl
theorem tw_405 : (Jvm.Cond.methodLink "BoxDesk$Measure" (3 : Nat) ({ cls := "java/lang/Object", name := "<init>", desc := "()V" } : Jvm.MethodName)) ∈ TB := TB_in (tg_2 (List.mem_of_getElem? (i := 165) rfl)) rfl
theorem tw_406 : (Jvm.Cond.fieldLink "BoxDesk$Box" (13 : Nat) "BoxDesk$Measure" "natural" "J") ∈ TB := TB_in (tg_2 (List.mem_of_getElem? (i := 166) rfl)) rfl
theorem tw_407 : (Jvm.Cond.fieldLink "BoxDesk$Measure" (47 : Nat) "BoxDesk$Measure" "natural" "J") ∈ TB := TB_in (tg_2 (List.mem_of_getElem? (i := 167) rfl)) rfl
theorem tw_408 : (Jvm.Cond.fieldLink "BoxDesk" (84 : Nat) "BoxDesk$Measure" "natural" "J") ∈ TB := TB_in (tg_2 (List.mem_of_getElem? (i := 168) rfl)) rfl
theorem tw_409 : (Jvm.Cond.fieldLink "BoxDesk$Box" (46 : Nat) "BoxDesk$Measure" "greatest" "J") ∈ TB := TB_in (tg_2 (List.mem_of_getElem? (i := 169) rfl)) rfl
theorem tw_410 : (Jvm.Cond.fieldLink "BoxDesk$Measure" (77 : Nat) "BoxDesk$Measure" "greatest" "J") ∈ TB := TB_in (tg_2 (List.mem_of_getElem? (i := 170) rfl)) rfl
theorem tw_411 : (Jvm.Cond.fieldLink "BoxDesk$Box" (52 : Nat) "BoxDesk$Measure" "height" "J") ∈ TB := TB_in (tg_2 (List.mem_of_getElem? (i := 171) rfl)) rfl
theorem tw_412 : (Jvm.Cond.fieldLink "BoxDesk$Measure" (57 : Nat) "BoxDesk$Measure" "height" "J") ∈ TB := TB_in (tg_2 (List.mem_of_getElem? (i := 172) rfl)) rfl
theorem tw_413 : (Jvm.Cond.fieldLink "BoxDesk$Box" (57 : Nat) "BoxDesk$Measure" "depth" "J") ∈ TB := TB_in (tg_2 (List.mem_of_getElem? (i := 173) rfl)) rfl
theorem tw_414 : (Jvm.Cond.fieldLink "BoxDesk$Measure" (68 : Nat) "BoxDesk$Measure" "depth" "J") ∈ TB := TB_in (tg_2 (List.mem_of_getElem? (i := 174) rfl)) rfl
theorem tw_415 : (Jvm.Cond.fieldLink "BoxDesk$Measure" (9 : Nat) "BoxDesk$Measure" "stretches" "[J") ∈ TB := TB_in (tg_2 (List.mem_of_getElem? (i := 175) rfl)) rfl
theorem tw_416 : (Jvm.Cond.fieldLink "BoxDesk" (199 : Nat) "BoxDesk$Measure" "stretches" "[J") ∈ TB := TB_in (tg_2 (List.mem_of_getElem? (i := 176) rfl)) rfl
theorem tw_417 : (Jvm.Cond.fieldLink "BoxDesk$Measure" (24 : Nat) "BoxDesk$Measure" "shrinks" "J") ∈ TB := TB_in (tg_2 (List.mem_of_getElem? (i := 177) rfl)) rfl
theorem tw_418 : (Jvm.Cond.fieldLink "BoxDesk" (196 : Nat) "BoxDesk$Measure" "shrinks" "J") ∈ TB := TB_in (tg_2 (List.mem_of_getElem? (i := 178) rfl)) rfl
theorem tw_419 : (Jvm.Cond.fieldLink "BoxDesk$Box" (29 : Nat) "BoxDesk$Measure" "within" "I") ∈ TB := TB_in (tg_2 (List.mem_of_getElem? (i := 179) rfl)) rfl
theorem tw_420 : (Jvm.Cond.fieldLink "BoxDesk$Measure" (31 : Nat) "BoxDesk$Measure" "within" "I") ∈ TB := TB_in (tg_2 (List.mem_of_getElem? (i := 180) rfl)) rfl
theorem tw_421 : (Jvm.Cond.fieldLink "BoxDesk$Box" (34 : Nat) "BoxDesk$Measure" "nestedInside" "I") ∈ TB := TB_in (tg_2 (List.mem_of_getElem? (i := 181) rfl)) rfl
theorem tw_422 : (Jvm.Cond.fieldLink "BoxDesk$Measure" (35 : Nat) "BoxDesk$Measure" "nestedInside" "I") ∈ TB := TB_in (tg_2 (List.mem_of_getElem? (i := 182) rfl)) rfl
theorem tw_439 : (Jvm.Cond.superclass "BoxDesk$Measure" "java/lang/Object") ∈ TB := TB_in (tg_2 (List.mem_of_getElem? (i := 199) rfl)) rfl
theorem tw_440 : (Jvm.Cond.arrayClass Jvm.ClassFile.FieldType.long) ∈ TB := TB_in (tg_2 (List.mem_of_getElem? (i := 200) rfl)) rfl
theorem tw_441 : (Jvm.Cond.methodLink "BoxDesk" (179 : Nat) ({ cls := "BoxDesk$Measure", name := "takeGlueAndBoxes", desc := "(LBoxDesk$Item;)V" } : Jvm.MethodName)) ∈ TB := TB_in (tg_2 (List.mem_of_getElem? (i := 201) rfl)) rfl
theorem tw_442 : (Jvm.Cond.instanceMethod ({ cls := "BoxDesk$Measure", name := "takeGlueAndBoxes", desc := "(LBoxDesk$Item;)V" } : Jvm.MethodName)) ∈ TB := TB_in (tg_2 (List.mem_of_getElem? (i := 202) rfl)) rfl
theorem tw_443 : (Jvm.Cond.selects "BoxDesk$Measure" ({ cls := "BoxDesk$Measure", name := "takeGlueAndBoxes", desc := "(LBoxDesk$Item;)V" } : Jvm.MethodName) ({ cls := "BoxDesk$Measure", name := "takeGlueAndBoxes", desc := "(LBoxDesk$Item;)V" } : Jvm.MethodName)) ∈ TB := TB_in (tg_2 (List.mem_of_getElem? (i := 203) rfl)) rfl
theorem tw_444 : (Jvm.Cond.code ({ cls := "BoxDesk$Measure", name := "takeGlueAndBoxes", desc := "(LBoxDesk$Item;)V" } : Jvm.MethodName) prog_5_method_2_code (2 : Nat) (Option.none : Option Jvm.ClassFile.FieldType)) ∈ TB := TB_in (tg_2 (List.mem_of_getElem? (i := 204) rfl)) rfl
theorem tw_445 : (Jvm.Cond.methodLink "BoxDesk$Measure" (41 : Nat) ({ cls := "java/lang/Math", name := "max", desc := "(II)I" } : Jvm.MethodName)) ∈ TB := TB_in (tg_2 (List.mem_of_getElem? (i := 205) rfl)) rfl
theorem tw_446 : (Jvm.Cond.methodLink "BoxDesk" (183 : Nat) ({ cls := "BoxDesk$Measure", name := "takeDownwards", desc := "(LBoxDesk$Item;)V" } : Jvm.MethodName)) ∈ TB := TB_in (tg_2 (List.mem_of_getElem? (i := 206) rfl)) rfl
theorem tw_447 : (Jvm.Cond.instanceMethod ({ cls := "BoxDesk$Measure", name := "takeDownwards", desc := "(LBoxDesk$Item;)V" } : Jvm.MethodName)) ∈ TB := TB_in (tg_2 (List.mem_of_getElem? (i := 207) rfl)) rfl
theorem tw_448 : (Jvm.Cond.selects "BoxDesk$Measure" ({ cls := "BoxDesk$Measure", name := "takeDownwards", desc := "(LBoxDesk$Item;)V" } : Jvm.MethodName) ({ cls := "BoxDesk$Measure", name := "takeDownwards", desc := "(LBoxDesk$Item;)V" } : Jvm.MethodName)) ∈ TB := TB_in (tg_2 (List.mem_of_getElem? (i := 208) rfl)) rfl
theorem tw_449 : (Jvm.Cond.code ({ cls := "BoxDesk$Measure", name := "takeDownwards", desc := "(LBoxDesk$Item;)V" } : Jvm.MethodName) prog_5_method_4_code (2 : Nat) (Option.none : Option Jvm.ClassFile.FieldType)) ∈ TB := TB_in (tg_2 (List.mem_of_getElem? (i := 209) rfl)) rfl
theorem tw_450 : (Jvm.Cond.methodLink "BoxDesk$Measure" (73 : Nat) ({ cls := "BoxDesk$Item", name := "isBoxOrRule", desc := "()Z" } : Jvm.MethodName)) ∈ TB := TB_in (tg_2 (List.mem_of_getElem? (i := 210) rfl)) rfl
theorem tw_451 : (Jvm.Cond.instanceMethod ({ cls := "BoxDesk$Item", name := "isBoxOrRule", desc := "()Z" } : Jvm.MethodName)) ∈ TB := TB_in (tg_2 (List.mem_of_getElem? (i := 211) rfl)) rfl
theorem tw_452 : (Jvm.Cond.selects "BoxDesk$Item" ({ cls := "BoxDesk$Item", name := "isBoxOrRule", desc := "()Z" } : Jvm.MethodName) ({ cls := "BoxDesk$Item", name := "isBoxOrRule", desc := "()Z" } : Jvm.MethodName)) ∈ TB := TB_in (tg_2 (List.mem_of_getElem? (i := 212) rfl)) rfl
theorem tw_453 : (Jvm.Cond.code ({ cls := "BoxDesk$Item", name := "isBoxOrRule", desc := "()Z" } : Jvm.MethodName) prog_3_method_6_code (1 : Nat) (Option.some Jvm.ClassFile.FieldType.boolean)) ∈ TB := TB_in (tg_2 (List.mem_of_getElem? (i := 213) rfl)) rfl
theorem tw_454 : (Jvm.Cond.methodLink "BoxDesk$Measure" (53 : Nat) ({ cls := "BoxDesk$Item", name := "runs", desc := "(I)Z" } : Jvm.MethodName)) ∈ TB := TB_in (tg_2 (List.mem_of_getElem? (i := 214) rfl)) rfl
theorem tw_455 : (Jvm.Cond.instanceMethod ({ cls := "BoxDesk$Item", name := "runs", desc := "(I)Z" } : Jvm.MethodName)) ∈ TB := TB_in (tg_2 (List.mem_of_getElem? (i := 215) rfl)) rfl
theorem tw_456 : (Jvm.Cond.selects "BoxDesk$Item" ({ cls := "BoxDesk$Item", name := "runs", desc := "(I)Z" } : Jvm.MethodName) ({ cls := "BoxDesk$Item", name := "runs", desc := "(I)Z" } : Jvm.MethodName)) ∈ TB := TB_in (tg_2 (List.mem_of_getElem? (i := 216) rfl)) rfl
theorem tw_457 : (Jvm.Cond.code ({ cls := "BoxDesk$Item", name := "runs", desc := "(I)Z" } : Jvm.MethodName) prog_3_method_7_code (2 : Nat) (Option.some Jvm.ClassFile.FieldType.boolean)) ∈ TB := TB_in (tg_2 (List.mem_of_getElem? (i := 217) rfl)) rfl
theorem tw_458 : (Jvm.Cond.methodLink "BoxDesk$Measure" (65 : Nat) ({ cls := "java/lang/Math", name := "max", desc := "(JJ)J" } : Jvm.MethodName)) ∈ TB := TB_in (tg_2 (List.mem_of_getElem? (i := 218) rfl)) rfl
theorem tw_459 : (Jvm.Cond.static ({ cls := "java/lang/Math", name := "max", desc := "(JJ)J" } : Jvm.MethodName)) ∈ TB := TB_in (tg_2 (List.mem_of_getElem? (i := 219) rfl)) rfl
theorem tw_460 : (Jvm.Cond.code ({ cls := "java/lang/Math", name := "max", desc := "(JJ)J" } : Jvm.MethodName) prog_15_method_66_code (4 : Nat) (Option.some Jvm.ClassFile.FieldType.long)) ∈ TB := TB_in (tg_2 (List.mem_of_getElem? (i := 220) rfl)) rfl
theorem tw_461 : (Jvm.Cond.methodLink "BoxDesk" (186 : Nat) ({ cls := "BoxDesk$Measure", name := "takeAcross", desc := "(LBoxDesk$Item;)V" } : Jvm.MethodName)) ∈ TB := TB_in (tg_2 (List.mem_of_getElem? (i := 221) rfl)) rfl
theorem tw_462 : (Jvm.Cond.instanceMethod ({ cls := "BoxDesk$Measure", name := "takeAcross", desc := "(LBoxDesk$Item;)V" } : Jvm.MethodName)) ∈ TB := TB_in (tg_2 (List.mem_of_getElem? (i := 222) rfl)) rfl
theorem tw_463 : (Jvm.Cond.selects "BoxDesk$Measure" ({ cls := "BoxDesk$Measure", name := "takeAcross", desc := "(LBoxDesk$Item;)V" } : Jvm.MethodName) ({ cls := "BoxDesk$Measure", name := "takeAcross", desc := "(LBoxDesk$Item;)V" } : Jvm.MethodName)) ∈ TB := TB_in (tg_2 (List.mem_of_getElem? (i := 223) rfl)) rfl
theorem tw_464 : (Jvm.Cond.code ({ cls := "BoxDesk$Measure", name := "takeAcross", desc := "(LBoxDesk$Item;)V" } : Jvm.MethodName) prog_5_method_3_code (2 : Nat) (Option.none : Option Jvm.ClassFile.FieldType)) ∈ TB := TB_in (tg_2 (List.mem_of_getElem? (i := 224) rfl)) rfl
theorem tw_465 : (Jvm.Cond.methodLink "BoxDesk" (189 : Nat) ({ cls := "BoxDesk$Measure", name := "limitDepth", desc := "(I)V" } : Jvm.MethodName)) ∈ TB := TB_in (tg_2 (List.mem_of_getElem? (i := 225) rfl)) rfl
theorem tw_466 : (Jvm.Cond.instanceMethod ({ cls := "BoxDesk$Measure", name := "limitDepth", desc := "(I)V" } : Jvm.MethodName)) ∈ TB := TB_in (tg_2 (List.mem_of_getElem? (i := 226) rfl)) rfl
theorem tw_467 : (Jvm.Cond.selects "BoxDesk$Measure" ({ cls := "BoxDesk$Measure", name := "limitDepth", desc := "(I)V" } : Jvm.MethodName) ({ cls := "BoxDesk$Measure", name := "limitDepth", desc := "(I)V" } : Jvm.MethodName)) ∈ TB := TB_in (tg_2 (List.mem_of_getElem? (i := 227) rfl)) rfl
theorem tw_468 : (Jvm.Cond.code ({ cls := "BoxDesk$Measure", name := "limitDepth", desc := "(I)V" } : Jvm.MethodName) prog_5_method_5_code (2 : Nat) (Option.none : Option Jvm.ClassFile.FieldType)) ∈ TB := TB_in (tg_2 (List.mem_of_getElem? (i := 228) rfl)) rfl
theorem tw_469 : (Jvm.Cond.methodLink "BoxDesk" (90 : Nat) ({ cls := "BoxDesk", name := "wanted", desc := "(IIJ)J" } : Jvm.MethodName)) ∈ TB := TB_in (tg_2 (List.mem_of_getElem? (i := 229) rfl)) rfl
theorem tw_470 : (Jvm.Cond.static ({ cls := "BoxDesk", name := "wanted", desc := "(IIJ)J" } : Jvm.MethodName)) ∈ TB := TB_in (tg_2 (List.mem_of_getElem? (i := 230) rfl)) rfl
theorem tw_471 : (Jvm.Cond.code ({ cls := "BoxDesk", name := "wanted", desc := "(IIJ)J" } : Jvm.MethodName) prog_1_method_22_code (4 : Nat) (Option.some Jvm.ClassFile.FieldType.long)) ∈ TB := TB_in (tg_2 (List.mem_of_getElem? (i := 231) rfl)) rfl
theorem tw_472 : (Jvm.Cond.methodLink "BoxDesk" (97 : Nat) ({ cls := "BoxDesk$Measure", name := "canBeBoxed", desc := "()Z" } : Jvm.MethodName)) ∈ TB := TB_in (tg_2 (List.mem_of_getElem? (i := 232) rfl)) rfl
theorem tw_473 : (Jvm.Cond.instanceMethod ({ cls := "BoxDesk$Measure", name := "canBeBoxed", desc := "()Z" } : Jvm.MethodName)) ∈ TB := TB_in (tg_2 (List.mem_of_getElem? (i := 233) rfl)) rfl
theorem tw_474 : (Jvm.Cond.selects "BoxDesk$Measure" ({ cls := "BoxDesk$Measure", name := "canBeBoxed", desc := "()Z" } : Jvm.MethodName) ({ cls := "BoxDesk$Measure", name := "canBeBoxed", desc := "()Z" } : Jvm.MethodName)) ∈ TB := TB_in (tg_2 (List.mem_of_getElem? (i := 234) rfl)) rfl
theorem tw_475 : (Jvm.Cond.code ({ cls := "BoxDesk$Measure", name := "canBeBoxed", desc := "()Z" } : Jvm.MethodName) prog_5_method_7_code (2 : Nat) (Option.some Jvm.ClassFile.FieldType.boolean)) ∈ TB := TB_in (tg_2 (List.mem_of_getElem? (i := 235) rfl)) rfl
theorem nw_476 : (Jvm.Cond.methodLinkNest "BoxDesk$Measure" (80 : Nat) ({ cls := "BoxDesk", name := "isSize", desc := "(J)Z" } : Jvm.MethodName) "BoxDesk") ∈ NB := NB_in (tg_2 (List.mem_of_getElem? (i := 236) rfl)) rfl
theorem tw_477 : (Jvm.Cond.classLink "BoxDesk" (101 : Nat) "java/lang/UnsupportedOperationException") ∈ TB := TB_in (tg_2 (List.mem_of_getElem? (i := 237) rfl)) rfl
theorem tw_478 : (Jvm.Cond.instantiable "java/lang/UnsupportedOperationException" (6 : Nat)) ∈ TB := TB_in (tg_2 (List.mem_of_getElem? (i := 238) rfl)) rfl
theorem nw_479 : (Jvm.Cond.castable "java/lang/UnsupportedOperationException" "java/lang/UnsupportedOperationException") ∈ NB := NB_in (tg_2 (List.mem_of_getElem? (i := 239) rfl)) rfl
theorem tw_480 : (Jvm.Cond.selects "java/lang/UnsupportedOperationException" ({ cls := "java/lang/Throwable", name := "fillInStackTrace", desc := "(I)Ljava/lang/Throwable;" } : Jvm.MethodName) ({ cls := "java/lang/Throwable", name := "fillInStackTrace", desc := "(I)Ljava/lang/Throwable;" } : Jvm.MethodName)) ∈ TB := TB_in (tg_3 (List.mem_of_getElem? (i := 0) rfl)) rfl
theorem tw_487 : (Jvm.Cond.methodLink "BoxDesk" (105 : Nat) ({ cls := "java/lang/UnsupportedOperationException", name := "<init>", desc := "(Ljava/lang/String;)V" } : Jvm.MethodName)) ∈ TB := TB_in (tg_3 (List.mem_of_getElem? (i := 7) rfl)) rfl
theorem tw_488 : (Jvm.Cond.instanceMethod ({ cls := "java/lang/UnsupportedOperationException", name := "<init>", desc := "(Ljava/lang/String;)V" } : Jvm.MethodName)) ∈ TB := TB_in (tg_3 (List.mem_of_getElem? (i := 8) rfl)) rfl
theorem tw_489 : (Jvm.Cond.code ({ cls := "java/lang/UnsupportedOperationException", name := "<init>", desc := "(Ljava/lang/String;)V" } : Jvm.MethodName) prog_20_method_2_code (2 : Nat) (Option.none : Option Jvm.ClassFile.FieldType)) ∈ TB := TB_in (tg_3 (List.mem_of_getElem? (i := 9) rfl)) rfl
theorem tw_490 : (Jvm.Cond.methodLink "java/lang/UnsupportedOperationException" (7 : Nat) ({ cls := "java/lang/RuntimeException", name := "<init>", desc := "(Ljava/lang/String;)V" } : Jvm.MethodName)) ∈ TB := TB_in (tg_3 (List.mem_of_getElem? (i := 10) rfl)) rfl
theorem tw_492 : (Jvm.Cond.superclass "java/lang/UnsupportedOperationException" "java/lang/RuntimeException") ∈ TB := TB_in (tg_3 (List.mem_of_getElem? (i := 12) rfl)) rfl
theorem tw_493 : (Jvm.Cond.instantiable "BoxDesk$Box" (7 : Nat)) ∈ TB := TB_in (tg_3 (List.mem_of_getElem? (i := 13) rfl)) rfl
theorem tw_494 : (Jvm.Cond.methodLink "BoxDesk" (106 : Nat) ({ cls := "BoxDesk$Box", name := "<init>", desc := "(LBoxDesk$ItemList;LBoxDesk$Measure;I)V" } : Jvm.MethodName)) ∈ TB := TB_in (tg_3 (List.mem_of_getElem? (i := 14) rfl)) rfl
theorem tw_495 : (Jvm.Cond.instanceMethod ({ cls := "BoxDesk$Box", name := "<init>", desc := "(LBoxDesk$ItemList;LBoxDesk$Measure;I)V" } : Jvm.MethodName)) ∈ TB := TB_in (tg_3 (List.mem_of_getElem? (i := 15) rfl)) rfl
theorem tw_496 : (Jvm.Cond.code ({ cls := "BoxDesk$Box", name := "<init>", desc := "(LBoxDesk$ItemList;LBoxDesk$Measure;I)V" } : Jvm.MethodName) prog_2_method_1_code (4 : Nat) (Option.none : Option Jvm.ClassFile.FieldType)) ∈ TB := TB_in (tg_3 (List.mem_of_getElem? (i := 16) rfl)) rfl
theorem tw_497 : (Jvm.Cond.methodLink "BoxDesk$Box" (1 : Nat) ({ cls := "java/lang/Object", name := "<init>", desc := "()V" } : Jvm.MethodName)) ∈ TB := TB_in (tg_3 (List.mem_of_getElem? (i := 17) rfl)) rfl
theorem nw_498 : (Jvm.Cond.methodLinkNest "BoxDesk$Box" (19 : Nat) ({ cls := "BoxDesk", name := "setGlue", desc := "(LBoxDesk$ItemList;LBoxDesk$Measure;J)[I" } : Jvm.MethodName) "BoxDesk") ∈ NB := NB_in (tg_3 (List.mem_of_getElem? (i := 18) rfl)) rfl
theorem tw_499 : (Jvm.Cond.static ({ cls := "BoxDesk", name := "setGlue", desc := "(LBoxDesk$ItemList;LBoxDesk$Measure;J)[I" } : Jvm.MethodName)) ∈ TB := TB_in (tg_3 (List.mem_of_getElem? (i := 19) rfl)) rfl
theorem tw_500 : (Jvm.Cond.code ({ cls := "BoxDesk", name := "setGlue", desc := "(LBoxDesk$ItemList;LBoxDesk$Measure;J)[I" } : Jvm.MethodName) prog_1_method_24_code (18 : Nat) (Option.some (Jvm.ClassFile.FieldType.array Jvm.ClassFile.FieldType.int))) ∈ TB := TB_in (tg_3 (List.mem_of_getElem? (i := 20) rfl)) rfl
theorem tw_501 : (Jvm.Cond.methodLink "BoxDesk" (193 : Nat) ({ cls := "BoxDesk$Measure", name := "highestOrder", desc := "()I" } : Jvm.MethodName)) ∈ TB := TB_in (tg_3 (List.mem_of_getElem? (i := 21) rfl)) rfl
theorem tw_502 : (Jvm.Cond.instanceMethod ({ cls := "BoxDesk$Measure", name := "highestOrder", desc := "()I" } : Jvm.MethodName)) ∈ TB := TB_in (tg_3 (List.mem_of_getElem? (i := 22) rfl)) rfl
theorem tw_503 : (Jvm.Cond.selects "BoxDesk$Measure" ({ cls := "BoxDesk$Measure", name := "highestOrder", desc := "()I" } : Jvm.MethodName) ({ cls := "BoxDesk$Measure", name := "highestOrder", desc := "()I" } : Jvm.MethodName)) ∈ TB := TB_in (tg_3 (List.mem_of_getElem? (i := 23) rfl)) rfl
theorem tw_504 : (Jvm.Cond.code ({ cls := "BoxDesk$Measure", name := "highestOrder", desc := "()I" } : Jvm.MethodName) prog_5_method_6_code (2 : Nat) (Option.some Jvm.ClassFile.FieldType.int)) ∈ TB := TB_in (tg_3 (List.mem_of_getElem? (i := 24) rfl)) rfl
theorem tw_505 : (Jvm.Cond.methodLink "BoxDesk" (203 : Nat) ({ cls := "java/lang/Math", name := "max", desc := "(JJ)J" } : Jvm.MethodName)) ∈ TB := TB_in (tg_3 (List.mem_of_getElem? (i := 25) rfl)) rfl
theorem tw_506 : (Jvm.Cond.methodLink "BoxDesk" (212 : Nat) ({ cls := "BoxDesk$Item", name := "stretchOf", desc := "(I)I" } : Jvm.MethodName)) ∈ TB := TB_in (tg_3 (List.mem_of_getElem? (i := 26) rfl)) rfl
theorem tw_507 : (Jvm.Cond.instanceMethod ({ cls := "BoxDesk$Item", name := "stretchOf", desc := "(I)I" } : Jvm.MethodName)) ∈ TB := TB_in (tg_3 (List.mem_of_getElem? (i := 27) rfl)) rfl
theorem tw_508 : (Jvm.Cond.selects "BoxDesk$Item" ({ cls := "BoxDesk$Item", name := "stretchOf", desc := "(I)I" } : Jvm.MethodName) ({ cls := "BoxDesk$Item", name := "stretchOf", desc := "(I)I" } : Jvm.MethodName)) ∈ TB := TB_in (tg_3 (List.mem_of_getElem? (i := 28) rfl)) rfl
theorem tw_509 : (Jvm.Cond.code ({ cls := "BoxDesk$Item", name := "stretchOf", desc := "(I)I" } : Jvm.MethodName) prog_3_method_8_code (2 : Nat) (Option.some Jvm.ClassFile.FieldType.int)) ∈ TB := TB_in (tg_3 (List.mem_of_getElem? (i := 29) rfl)) rfl
theorem tw_510 : (Jvm.Cond.methodLink "BoxDesk" (215 : Nat) ({ cls := "BoxDesk", name := "near", desc := "(JJ)J" } : Jvm.MethodName)) ∈ TB := TB_in (tg_3 (List.mem_of_getElem? (i := 30) rfl)) rfl
theorem tw_511 : (Jvm.Cond.static ({ cls := "BoxDesk", name := "near", desc := "(JJ)J" } : Jvm.MethodName)) ∈ TB := TB_in (tg_3 (List.mem_of_getElem? (i := 31) rfl)) rfl
theorem tw_512 : (Jvm.Cond.code ({ cls := "BoxDesk", name := "near", desc := "(JJ)J" } : Jvm.MethodName) prog_1_method_26_code (6 : Nat) (Option.some Jvm.ClassFile.FieldType.long)) ∈ TB := TB_in (tg_3 (List.mem_of_getElem? (i := 32) rfl)) rfl
theorem tw_513 : (Jvm.Cond.constantLong "BoxDesk" (230 : Nat) (2 : Int64)) ∈ TB := TB_in (tg_3 (List.mem_of_getElem? (i := 33) rfl)) rfl
theorem tw_514 : (Jvm.Cond.methodLink "BoxDesk" (232 : Nat) ({ cls := "java/lang/Math", name := "abs", desc := "(J)J" } : Jvm.MethodName)) ∈ TB := TB_in (tg_3 (List.mem_of_getElem? (i := 34) rfl)) rfl
theorem tw_515 : (Jvm.Cond.static ({ cls := "java/lang/Math", name := "abs", desc := "(J)J" } : Jvm.MethodName)) ∈ TB := TB_in (tg_3 (List.mem_of_getElem? (i := 35) rfl)) rfl
theorem tw_516 : (Jvm.Cond.code ({ cls := "java/lang/Math", name := "abs", desc := "(J)J" } : Jvm.MethodName) prog_15_method_61_code (2 : Nat) (Option.some Jvm.ClassFile.FieldType.long)) ∈ TB := TB_in (tg_3 (List.mem_of_getElem? (i := 36) rfl)) rfl
theorem tw_517 : (Jvm.Cond.methodLink "BoxDesk" (219 : Nat) ({ cls := "BoxDesk", name := "asSetWidth", desc := "(J)I" } : Jvm.MethodName)) ∈ TB := TB_in (tg_3 (List.mem_of_getElem? (i := 37) rfl)) rfl
theorem tw_518 : (Jvm.Cond.static ({ cls := "BoxDesk", name := "asSetWidth", desc := "(J)I" } : Jvm.MethodName)) ∈ TB := TB_in (tg_3 (List.mem_of_getElem? (i := 38) rfl)) rfl
theorem tw_519 : (Jvm.Cond.code ({ cls := "BoxDesk", name := "asSetWidth", desc := "(J)I" } : Jvm.MethodName) prog_1_method_25_code (2 : Nat) (Option.some Jvm.ClassFile.FieldType.int)) ∈ TB := TB_in (tg_3 (List.mem_of_getElem? (i := 39) rfl)) rfl
theorem tw_520 : (Jvm.Cond.constantLong "BoxDesk" (223 : Nat) (-2147483647 : Int64)) ∈ TB := TB_in (tg_3 (List.mem_of_getElem? (i := 40) rfl)) rfl
theorem tw_521 : (Jvm.Cond.constantLong "BoxDesk" (225 : Nat) (2147483647 : Int64)) ∈ TB := TB_in (tg_3 (List.mem_of_getElem? (i := 41) rfl)) rfl
theorem tw_522 : (Jvm.Cond.methodLink "BoxDesk" (227 : Nat) ({ cls := "java/lang/Math", name := "min", desc := "(JJ)J" } : Jvm.MethodName)) ∈ TB := TB_in (tg_3 (List.mem_of_getElem? (i := 42) rfl)) rfl
theorem tw_523 : (Jvm.Cond.static ({ cls := "java/lang/Math", name := "min", desc := "(JJ)J" } : Jvm.MethodName)) ∈ TB := TB_in (tg_3 (List.mem_of_getElem? (i := 43) rfl)) rfl
theorem tw_524 : (Jvm.Cond.code ({ cls := "java/lang/Math", name := "min", desc := "(JJ)J" } : Jvm.MethodName) prog_15_method_70_code (4 : Nat) (Option.some Jvm.ClassFile.FieldType.long)) ∈ TB := TB_in (tg_3 (List.mem_of_getElem? (i := 44) rfl)) rfl
theorem tw_525 : (Jvm.Cond.fieldLink "BoxDesk$Box" (7 : Nat) "BoxDesk$Box" "list" "LBoxDesk$ItemList;") ∈ TB := TB_in (tg_3 (List.mem_of_getElem? (i := 45) rfl)) rfl
theorem tw_526 : (Jvm.Cond.fieldLink "BoxDesk$Item" (42 : Nat) "BoxDesk$Box" "list" "LBoxDesk$ItemList;") ∈ TB := TB_in (tg_3 (List.mem_of_getElem? (i := 46) rfl)) rfl
theorem tw_527 : (Jvm.Cond.fieldLink "BoxDesk" (131 : Nat) "BoxDesk$Box" "list" "LBoxDesk$ItemList;") ∈ TB := TB_in (tg_3 (List.mem_of_getElem? (i := 47) rfl)) rfl
theorem tw_528 : (Jvm.Cond.fieldLink "BoxDesk$Box" (25 : Nat) "BoxDesk$Box" "setWidths" "[I") ∈ TB := TB_in (tg_3 (List.mem_of_getElem? (i := 48) rfl)) rfl
theorem tw_529 : (Jvm.Cond.fieldLink "BoxDesk" (166 : Nat) "BoxDesk$Box" "setWidths" "[I") ∈ TB := TB_in (tg_3 (List.mem_of_getElem? (i := 49) rfl)) rfl
theorem tw_530 : (Jvm.Cond.fieldLink "BoxDesk$Box" (33 : Nat) "BoxDesk$Box" "within" "I") ∈ TB := TB_in (tg_3 (List.mem_of_getElem? (i := 50) rfl)) rfl
theorem tw_531 : (Jvm.Cond.fieldLink "BoxDesk$Item" (60 : Nat) "BoxDesk$Box" "within" "I") ∈ TB := TB_in (tg_3 (List.mem_of_getElem? (i := 51) rfl)) rfl
theorem tw_532 : (Jvm.Cond.fieldLink "BoxDesk" (171 : Nat) "BoxDesk$Box" "within" "I") ∈ TB := TB_in (tg_3 (List.mem_of_getElem? (i := 52) rfl)) rfl
theorem tw_533 : (Jvm.Cond.fieldLink "BoxDesk$Box" (37 : Nat) "BoxDesk$Box" "nesting" "I") ∈ TB := TB_in (tg_3 (List.mem_of_getElem? (i := 53) rfl)) rfl
theorem tw_534 : (Jvm.Cond.fieldLink "BoxDesk$Item" (64 : Nat) "BoxDesk$Box" "nesting" "I") ∈ TB := TB_in (tg_3 (List.mem_of_getElem? (i := 54) rfl)) rfl
theorem tw_535 : (Jvm.Cond.fieldLink "BoxDesk$Box" (49 : Nat) "BoxDesk$Box" "width" "I") ∈ TB := TB_in (tg_3 (List.mem_of_getElem? (i := 55) rfl)) rfl
theorem tw_536 : (Jvm.Cond.fieldLink "BoxDesk$Item" (54 : Nat) "BoxDesk$Box" "width" "I") ∈ TB := TB_in (tg_3 (List.mem_of_getElem? (i := 56) rfl)) rfl
theorem tw_537 : (Jvm.Cond.fieldLink "BoxDesk" (143 : Nat) "BoxDesk$Box" "width" "I") ∈ TB := TB_in (tg_3 (List.mem_of_getElem? (i := 57) rfl)) rfl
theorem tw_538 : (Jvm.Cond.fieldLink "BoxDesk$Box" (55 : Nat) "BoxDesk$Box" "height" "I") ∈ TB := TB_in (tg_3 (List.mem_of_getElem? (i := 58) rfl)) rfl
theorem tw_539 : (Jvm.Cond.fieldLink "BoxDesk$Item" (55 : Nat) "BoxDesk$Box" "height" "I") ∈ TB := TB_in (tg_3 (List.mem_of_getElem? (i := 59) rfl)) rfl
theorem tw_540 : (Jvm.Cond.fieldLink "BoxDesk" (146 : Nat) "BoxDesk$Box" "height" "I") ∈ TB := TB_in (tg_3 (List.mem_of_getElem? (i := 60) rfl)) rfl
theorem tw_541 : (Jvm.Cond.fieldLink "BoxDesk$Box" (60 : Nat) "BoxDesk$Box" "depth" "I") ∈ TB := TB_in (tg_3 (List.mem_of_getElem? (i := 61) rfl)) rfl
theorem tw_542 : (Jvm.Cond.fieldLink "BoxDesk$Item" (56 : Nat) "BoxDesk$Box" "depth" "I") ∈ TB := TB_in (tg_3 (List.mem_of_getElem? (i := 62) rfl)) rfl
theorem tw_543 : (Jvm.Cond.fieldLink "BoxDesk" (149 : Nat) "BoxDesk$Box" "depth" "I") ∈ TB := TB_in (tg_3 (List.mem_of_getElem? (i := 63) rfl)) rfl
theorem tw_558 : (Jvm.Cond.superclass "BoxDesk$Box" "java/lang/Object") ∈ TB := TB_in (tg_3 (List.mem_of_getElem? (i := 78) rfl)) rfl
theorem tw_559 : (Jvm.Cond.arrayClass Jvm.ClassFile.FieldType.int) ∈ TB := TB_in (tg_3 (List.mem_of_getElem? (i := 79) rfl)) rfl
theorem tw_560 : (Jvm.Cond.methodLink "BoxDeskLaw" (84 : Nat) ({ cls := "BoxDeskLaw", name := "about", desc := "(LBoxDesk;II[J)I" } : Jvm.MethodName)) ∈ TB := TB_in (tg_3 (List.mem_of_getElem? (i := 80) rfl)) rfl
theorem tw_561 : (Jvm.Cond.static ({ cls := "BoxDeskLaw", name := "about", desc := "(LBoxDesk;II[J)I" } : Jvm.MethodName)) ∈ TB := TB_in (tg_3 (List.mem_of_getElem? (i := 81) rfl)) rfl
theorem tw_563 : (Jvm.Cond.classLink "BoxDeskLaw" (23 : Nat) "java/lang/IndexOutOfBoundsException") ∈ TB := TB_in (tg_3 (List.mem_of_getElem? (i := 83) rfl)) rfl
theorem tw_564 : (Jvm.Cond.methodLink "BoxDeskLaw" (19 : Nat) ({ cls := "BoxDesk", name := "about", desc := "(II)I" } : Jvm.MethodName)) ∈ TB := TB_in (tg_3 (List.mem_of_getElem? (i := 84) rfl)) rfl
theorem tw_565 : (Jvm.Cond.instanceMethod ({ cls := "BoxDesk", name := "about", desc := "(II)I" } : Jvm.MethodName)) ∈ TB := TB_in (tg_3 (List.mem_of_getElem? (i := 85) rfl)) rfl
theorem tw_566 : (Jvm.Cond.selects "BoxDesk" ({ cls := "BoxDesk", name := "about", desc := "(II)I" } : Jvm.MethodName) ({ cls := "BoxDesk", name := "about", desc := "(II)I" } : Jvm.MethodName)) ∈ TB := TB_in (tg_3 (List.mem_of_getElem? (i := 86) rfl)) rfl
theorem tw_567 : (Jvm.Cond.code ({ cls := "BoxDesk", name := "about", desc := "(II)I" } : Jvm.MethodName) prog_1_method_12_code (4 : Nat) (Option.some Jvm.ClassFile.FieldType.int)) ∈ TB := TB_in (tg_3 (List.mem_of_getElem? (i := 87) rfl)) rfl
theorem tw_568 : (Jvm.Cond.classLink "BoxDesk" (152 : Nat) "java/lang/IndexOutOfBoundsException") ∈ TB := TB_in (tg_3 (List.mem_of_getElem? (i := 88) rfl)) rfl
theorem tw_569 : (Jvm.Cond.instantiable "java/lang/IndexOutOfBoundsException" (6 : Nat)) ∈ TB := TB_in (tg_3 (List.mem_of_getElem? (i := 89) rfl)) rfl
theorem nw_570 : (Jvm.Cond.castable "java/lang/IndexOutOfBoundsException" "java/lang/IndexOutOfBoundsException") ∈ NB := NB_in (tg_3 (List.mem_of_getElem? (i := 90) rfl)) rfl
theorem tw_571 : (Jvm.Cond.selects "java/lang/IndexOutOfBoundsException" ({ cls := "java/lang/Throwable", name := "fillInStackTrace", desc := "(I)Ljava/lang/Throwable;" } : Jvm.MethodName) ({ cls := "java/lang/Throwable", name := "fillInStackTrace", desc := "(I)Ljava/lang/Throwable;" } : Jvm.MethodName)) ∈ TB := TB_in (tg_3 (List.mem_of_getElem? (i := 91) rfl)) rfl
theorem tw_578 : (Jvm.Cond.methodLink "BoxDesk" (156 : Nat) ({ cls := "java/lang/IndexOutOfBoundsException", name := "<init>", desc := "(Ljava/lang/String;)V" } : Jvm.MethodName)) ∈ TB := TB_in (tg_3 (List.mem_of_getElem? (i := 98) rfl)) rfl
theorem tw_579 : (Jvm.Cond.instanceMethod ({ cls := "java/lang/IndexOutOfBoundsException", name := "<init>", desc := "(Ljava/lang/String;)V" } : Jvm.MethodName)) ∈ TB := TB_in (tg_3 (List.mem_of_getElem? (i := 99) rfl)) rfl
theorem tw_580 : (Jvm.Cond.code ({ cls := "java/lang/IndexOutOfBoundsException", name := "<init>", desc := "(Ljava/lang/String;)V" } : Jvm.MethodName) prog_13_method_2_code (2 : Nat) (Option.none : Option Jvm.ClassFile.FieldType)) ∈ TB := TB_in (tg_3 (List.mem_of_getElem? (i := 100) rfl)) rfl
theorem tw_581 : (Jvm.Cond.methodLink "java/lang/IndexOutOfBoundsException" (7 : Nat) ({ cls := "java/lang/RuntimeException", name := "<init>", desc := "(Ljava/lang/String;)V" } : Jvm.MethodName)) ∈ TB := TB_in (tg_3 (List.mem_of_getElem? (i := 101) rfl)) rfl
theorem tw_583 : (Jvm.Cond.superclass "java/lang/IndexOutOfBoundsException" "java/lang/RuntimeException") ∈ TB := TB_in (tg_3 (List.mem_of_getElem? (i := 103) rfl)) rfl
theorem tw_584 : (Jvm.Cond.methodLink "BoxDesk" (157 : Nat) ({ cls := "BoxDesk$Box", name := "tell", desc := "(I)I" } : Jvm.MethodName)) ∈ TB := TB_in (tg_3 (List.mem_of_getElem? (i := 104) rfl)) rfl
theorem tw_585 : (Jvm.Cond.instanceMethod ({ cls := "BoxDesk$Box", name := "tell", desc := "(I)I" } : Jvm.MethodName)) ∈ TB := TB_in (tg_3 (List.mem_of_getElem? (i := 105) rfl)) rfl
theorem tw_586 : (Jvm.Cond.selects "BoxDesk$Box" ({ cls := "BoxDesk$Box", name := "tell", desc := "(I)I" } : Jvm.MethodName) ({ cls := "BoxDesk$Box", name := "tell", desc := "(I)I" } : Jvm.MethodName)) ∈ TB := TB_in (tg_3 (List.mem_of_getElem? (i := 106) rfl)) rfl
theorem tw_587 : (Jvm.Cond.code ({ cls := "BoxDesk$Box", name := "tell", desc := "(I)I" } : Jvm.MethodName) prog_2_method_2_code (2 : Nat) (Option.some Jvm.ClassFile.FieldType.int)) ∈ TB := TB_in (tg_3 (List.mem_of_getElem? (i := 107) rfl)) rfl
theorem tw_588 : (Jvm.Cond.methodLink "BoxDesk$Box" (66 : Nat) ({ cls := "java/util/ArrayList", name := "size", desc := "()I" } : Jvm.MethodName)) ∈ TB := TB_in (tg_3 (List.mem_of_getElem? (i := 108) rfl)) rfl
theorem tw_589 : (Jvm.Cond.methodLink "BoxDeskLaw" (88 : Nat) ({ cls := "BoxDeskLaw", name := "item", desc := "(LBoxDesk;III[J)I" } : Jvm.MethodName)) ∈ TB := TB_in (tg_3 (List.mem_of_getElem? (i := 109) rfl)) rfl
theorem tw_590 : (Jvm.Cond.static ({ cls := "BoxDeskLaw", name := "item", desc := "(LBoxDesk;III[J)I" } : Jvm.MethodName)) ∈ TB := TB_in (tg_3 (List.mem_of_getElem? (i := 110) rfl)) rfl
theorem tw_592 : (Jvm.Cond.methodLink "BoxDeskLaw" (25 : Nat) ({ cls := "BoxDesk", name := "item", desc := "(III)I" } : Jvm.MethodName)) ∈ TB := TB_in (tg_3 (List.mem_of_getElem? (i := 112) rfl)) rfl
theorem tw_593 : (Jvm.Cond.instanceMethod ({ cls := "BoxDesk", name := "item", desc := "(III)I" } : Jvm.MethodName)) ∈ TB := TB_in (tg_3 (List.mem_of_getElem? (i := 113) rfl)) rfl
theorem tw_594 : (Jvm.Cond.selects "BoxDesk" ({ cls := "BoxDesk", name := "item", desc := "(III)I" } : Jvm.MethodName) ({ cls := "BoxDesk", name := "item", desc := "(III)I" } : Jvm.MethodName)) ∈ TB := TB_in (tg_3 (List.mem_of_getElem? (i := 114) rfl)) rfl
theorem tw_595 : (Jvm.Cond.code ({ cls := "BoxDesk", name := "item", desc := "(III)I" } : Jvm.MethodName) prog_1_method_13_code (7 : Nat) (Option.some Jvm.ClassFile.FieldType.int)) ∈ TB := TB_in (tg_3 (List.mem_of_getElem? (i := 115) rfl)) rfl
theorem tw_597 : (Jvm.Cond.methodLink "BoxDesk" (170 : Nat) ({ cls := "BoxDesk$Item", name := "tell", desc := "(I)I" } : Jvm.MethodName)) ∈ TB := TB_in (tg_3 (List.mem_of_getElem? (i := 117) rfl)) rfl
theorem tw_598 : (Jvm.Cond.instanceMethod ({ cls := "BoxDesk$Item", name := "tell", desc := "(I)I" } : Jvm.MethodName)) ∈ TB := TB_in (tg_3 (List.mem_of_getElem? (i := 118) rfl)) rfl
theorem tw_599 : (Jvm.Cond.selects "BoxDesk$Item" ({ cls := "BoxDesk$Item", name := "tell", desc := "(I)I" } : Jvm.MethodName) ({ cls := "BoxDesk$Item", name := "tell", desc := "(I)I" } : Jvm.MethodName)) ∈ TB := TB_in (tg_3 (List.mem_of_getElem? (i := 119) rfl)) rfl
theorem tw_600 : (Jvm.Cond.code ({ cls := "BoxDesk$Item", name := "tell", desc := "(I)I" } : Jvm.MethodName) prog_3_method_10_code (2 : Nat) (Option.some Jvm.ClassFile.FieldType.int)) ∈ TB := TB_in (tg_3 (List.mem_of_getElem? (i := 120) rfl)) rfl
theorem tw_601 : (Jvm.Cond.methodLink "BoxDesk$Item" (68 : Nat) ({ cls := "BoxDesk$Item", name := "runs", desc := "(I)Z" } : Jvm.MethodName)) ∈ TB := TB_in (tg_3 (List.mem_of_getElem? (i := 121) rfl)) rfl
theorem tw_602 : (Jvm.Cond.constant "BoxDesk$Item" (72 : Nat) (-2147483648 : Int32)) ∈ TB := TB_in (tg_3 (List.mem_of_getElem? (i := 122) rfl)) rfl
theorem tw_603 : (Jvm.Cond.methodLink "BoxDesk$Item" (73 : Nat) ({ cls := "BoxDesk$Item", name := "widthOrNumber", desc := "()I" } : Jvm.MethodName)) ∈ TB := TB_in (tg_3 (List.mem_of_getElem? (i := 123) rfl)) rfl
theorem tw_604 : (Jvm.Cond.instanceMethod ({ cls := "BoxDesk$Item", name := "widthOrNumber", desc := "()I" } : Jvm.MethodName)) ∈ TB := TB_in (tg_3 (List.mem_of_getElem? (i := 124) rfl)) rfl
theorem tw_605 : (Jvm.Cond.selects "BoxDesk$Item" ({ cls := "BoxDesk$Item", name := "widthOrNumber", desc := "()I" } : Jvm.MethodName) ({ cls := "BoxDesk$Item", name := "widthOrNumber", desc := "()I" } : Jvm.MethodName)) ∈ TB := TB_in (tg_3 (List.mem_of_getElem? (i := 125) rfl)) rfl
theorem tw_606 : (Jvm.Cond.code ({ cls := "BoxDesk$Item", name := "widthOrNumber", desc := "()I" } : Jvm.MethodName) prog_3_method_9_code (1 : Nat) (Option.some Jvm.ClassFile.FieldType.int)) ∈ TB := TB_in (tg_3 (List.mem_of_getElem? (i := 126) rfl)) rfl
theorem tw_607 : (Jvm.Cond.classLink "BoxDeskLaw" (30 : Nat) "BoxDeskModel") ∈ TB := TB_in (tg_3 (List.mem_of_getElem? (i := 127) rfl)) rfl
theorem tw_608 : (Jvm.Cond.instantiable "BoxDeskModel" (21 : Nat)) ∈ TB := TB_in (tg_3 (List.mem_of_getElem? (i := 128) rfl)) rfl
theorem tw_609 : (Jvm.Cond.methodLink "BoxDeskLaw" (32 : Nat) ({ cls := "BoxDeskModel", name := "<init>", desc := "()V" } : Jvm.MethodName)) ∈ TB := TB_in (tg_3 (List.mem_of_getElem? (i := 129) rfl)) rfl
theorem tw_610 : (Jvm.Cond.instanceMethod ({ cls := "BoxDeskModel", name := "<init>", desc := "()V" } : Jvm.MethodName)) ∈ TB := TB_in (tg_3 (List.mem_of_getElem? (i := 130) rfl)) rfl
theorem tw_611 : (Jvm.Cond.code ({ cls := "BoxDeskModel", name := "<init>", desc := "()V" } : Jvm.MethodName) prog_7_method_1_code (1 : Nat) (Option.none : Option Jvm.ClassFile.FieldType)) ∈ TB := TB_in (tg_3 (List.mem_of_getElem? (i := 131) rfl)) rfl
theorem tw_612 : (Jvm.Cond.methodLink "BoxDeskModel" (1 : Nat) ({ cls := "java/lang/Object", name := "<init>", desc := "()V" } : Jvm.MethodName)) ∈ TB := TB_in (tg_3 (List.mem_of_getElem? (i := 132) rfl)) rfl
theorem tw_613 : (Jvm.Cond.fieldLink "BoxDeskModel" (51 : Nat) "BoxDeskModel" "thrown" "I") ∈ TB := TB_in (tg_3 (List.mem_of_getElem? (i := 133) rfl)) rfl
theorem tw_614 : (Jvm.Cond.fieldLink "BoxDeskModel" (7 : Nat) "BoxDeskModel" "kind" "[I") ∈ TB := TB_in (tg_3 (List.mem_of_getElem? (i := 134) rfl)) rfl
theorem tw_615 : (Jvm.Cond.fieldLink "BoxDeskModel" (13 : Nat) "BoxDeskModel" "wide" "[I") ∈ TB := TB_in (tg_3 (List.mem_of_getElem? (i := 135) rfl)) rfl
theorem tw_616 : (Jvm.Cond.fieldLink "BoxDeskModel" (16 : Nat) "BoxDeskModel" "high" "[I") ∈ TB := TB_in (tg_3 (List.mem_of_getElem? (i := 136) rfl)) rfl
theorem tw_617 : (Jvm.Cond.fieldLink "BoxDeskModel" (19 : Nat) "BoxDeskModel" "deep" "[I") ∈ TB := TB_in (tg_3 (List.mem_of_getElem? (i := 137) rfl)) rfl
theorem tw_618 : (Jvm.Cond.fieldLink "BoxDeskModel" (22 : Nat) "BoxDeskModel" "shift" "[I") ∈ TB := TB_in (tg_3 (List.mem_of_getElem? (i := 138) rfl)) rfl
theorem tw_619 : (Jvm.Cond.fieldLink "BoxDeskModel" (25 : Nat) "BoxDeskModel" "order" "[I") ∈ TB := TB_in (tg_3 (List.mem_of_getElem? (i := 139) rfl)) rfl
theorem tw_620 : (Jvm.Cond.fieldLink "BoxDeskModel" (28 : Nat) "BoxDeskModel" "shrink" "[I") ∈ TB := TB_in (tg_3 (List.mem_of_getElem? (i := 140) rfl)) rfl
theorem tw_621 : (Jvm.Cond.fieldLink "BoxDeskModel" (31 : Nat) "BoxDeskModel" "more" "[J") ∈ TB := TB_in (tg_3 (List.mem_of_getElem? (i := 141) rfl)) rfl
theorem tw_622 : (Jvm.Cond.fieldLink "BoxDeskModel" (35 : Nat) "BoxDeskModel" "span" "[I") ∈ TB := TB_in (tg_3 (List.mem_of_getElem? (i := 142) rfl)) rfl
theorem tw_623 : (Jvm.Cond.fieldLink "BoxDeskModel" (68 : Nat) "BoxDeskModel" "lists" "I") ∈ TB := TB_in (tg_3 (List.mem_of_getElem? (i := 143) rfl)) rfl
theorem tw_624 : (Jvm.Cond.fieldLink "BoxDeskModel" (38 : Nat) "BoxDeskModel" "begin" "[I") ∈ TB := TB_in (tg_3 (List.mem_of_getElem? (i := 144) rfl)) rfl
theorem tw_625 : (Jvm.Cond.fieldLink "BoxDeskModel" (41 : Nat) "BoxDeskModel" "vertical" "[Z") ∈ TB := TB_in (tg_3 (List.mem_of_getElem? (i := 145) rfl)) rfl
theorem tw_626 : (Jvm.Cond.fieldLink "BoxDeskModel" (61 : Nat) "BoxDeskModel" "end" "I") ∈ TB := TB_in (tg_3 (List.mem_of_getElem? (i := 146) rfl)) rfl
theorem tw_627 : (Jvm.Cond.fieldLink "BoxDeskModel" (45 : Nat) "BoxDeskModel" "size" "[I") ∈ TB := TB_in (tg_3 (List.mem_of_getElem? (i := 147) rfl)) rfl
theorem tw_628 : (Jvm.Cond.fieldLink "BoxDeskModel" (90 : Nat) "BoxDeskModel" "natural" "J") ∈ TB := TB_in (tg_3 (List.mem_of_getElem? (i := 148) rfl)) rfl
theorem tw_629 : (Jvm.Cond.fieldLink "BoxDeskModel" (94 : Nat) "BoxDeskModel" "height" "J") ∈ TB := TB_in (tg_3 (List.mem_of_getElem? (i := 149) rfl)) rfl
theorem tw_630 : (Jvm.Cond.fieldLink "BoxDeskModel" (97 : Nat) "BoxDeskModel" "depth" "J") ∈ TB := TB_in (tg_3 (List.mem_of_getElem? (i := 150) rfl)) rfl
theorem tw_631 : (Jvm.Cond.fieldLink "BoxDeskModel" (100 : Nat) "BoxDeskModel" "width" "J") ∈ TB := TB_in (tg_3 (List.mem_of_getElem? (i := 151) rfl)) rfl
theorem tw_632 : (Jvm.Cond.fieldLink "BoxDeskModel" (48 : Nat) "BoxDeskModel" "stretches" "[J") ∈ TB := TB_in (tg_3 (List.mem_of_getElem? (i := 152) rfl)) rfl
theorem tw_633 : (Jvm.Cond.fieldLink "BoxDeskModel" (103 : Nat) "BoxDeskModel" "shrinks" "J") ∈ TB := TB_in (tg_3 (List.mem_of_getElem? (i := 153) rfl)) rfl
theorem tw_676 : (Jvm.Cond.superclass "BoxDeskModel" "java/lang/Object") ∈ TB := TB_in (tg_3 (List.mem_of_getElem? (i := 196) rfl)) rfl
theorem tw_677 : (Jvm.Cond.arrayClass Jvm.ClassFile.FieldType.boolean) ∈ TB := TB_in (tg_3 (List.mem_of_getElem? (i := 197) rfl)) rfl
theorem tw_678 : (Jvm.Cond.methodLink "BoxDeskLaw" (67 : Nat) ({ cls := "BoxDeskModel", name := "thrown", desc := "()I" } : Jvm.MethodName)) ∈ TB := TB_in (tg_3 (List.mem_of_getElem? (i := 198) rfl)) rfl
theorem tw_679 : (Jvm.Cond.instanceMethod ({ cls := "BoxDeskModel", name := "thrown", desc := "()I" } : Jvm.MethodName)) ∈ TB := TB_in (tg_3 (List.mem_of_getElem? (i := 199) rfl)) rfl
theorem tw_680 : (Jvm.Cond.selects "BoxDeskModel" ({ cls := "BoxDeskModel", name := "thrown", desc := "()I" } : Jvm.MethodName) ({ cls := "BoxDeskModel", name := "thrown", desc := "()I" } : Jvm.MethodName)) ∈ TB := TB_in (tg_3 (List.mem_of_getElem? (i := 200) rfl)) rfl
theorem tw_681 : (Jvm.Cond.code ({ cls := "BoxDeskModel", name := "thrown", desc := "()I" } : Jvm.MethodName) prog_7_method_2_code (1 : Nat) (Option.some Jvm.ClassFile.FieldType.int)) ∈ TB := TB_in (tg_3 (List.mem_of_getElem? (i := 201) rfl)) rfl
theorem tw_682 : (Jvm.Cond.methodLink "BoxDeskLaw" (37 : Nat) ({ cls := "BoxDeskModel", name := "open", desc := "(Z)Z" } : Jvm.MethodName)) ∈ TB := TB_in (tg_3 (List.mem_of_getElem? (i := 202) rfl)) rfl
theorem tw_683 : (Jvm.Cond.instanceMethod ({ cls := "BoxDeskModel", name := "open", desc := "(Z)Z" } : Jvm.MethodName)) ∈ TB := TB_in (tg_3 (List.mem_of_getElem? (i := 203) rfl)) rfl
theorem tw_684 : (Jvm.Cond.selects "BoxDeskModel" ({ cls := "BoxDeskModel", name := "open", desc := "(Z)Z" } : Jvm.MethodName) ({ cls := "BoxDeskModel", name := "open", desc := "(Z)Z" } : Jvm.MethodName)) ∈ TB := TB_in (tg_3 (List.mem_of_getElem? (i := 204) rfl)) rfl
theorem tw_685 : (Jvm.Cond.code ({ cls := "BoxDeskModel", name := "open", desc := "(Z)Z" } : Jvm.MethodName) prog_7_method_10_code (2 : Nat) (Option.some Jvm.ClassFile.FieldType.boolean)) ∈ TB := TB_in (tg_3 (List.mem_of_getElem? (i := 205) rfl)) rfl
theorem tw_686 : (Jvm.Cond.methodLink "BoxDeskLaw" (42 : Nat) ({ cls := "BoxDeskModel", name := "character", desc := "(III)Z" } : Jvm.MethodName)) ∈ TB := TB_in (tg_3 (List.mem_of_getElem? (i := 206) rfl)) rfl
theorem tw_687 : (Jvm.Cond.instanceMethod ({ cls := "BoxDeskModel", name := "character", desc := "(III)Z" } : Jvm.MethodName)) ∈ TB := TB_in (tg_3 (List.mem_of_getElem? (i := 207) rfl)) rfl
theorem tw_688 : (Jvm.Cond.selects "BoxDeskModel" ({ cls := "BoxDeskModel", name := "character", desc := "(III)Z" } : Jvm.MethodName) ({ cls := "BoxDeskModel", name := "character", desc := "(III)Z" } : Jvm.MethodName)) ∈ TB := TB_in (tg_3 (List.mem_of_getElem? (i := 208) rfl)) rfl
theorem tw_689 : (Jvm.Cond.code ({ cls := "BoxDeskModel", name := "character", desc := "(III)Z" } : Jvm.MethodName) prog_7_method_13_code (4 : Nat) (Option.some Jvm.ClassFile.FieldType.boolean)) ∈ TB := TB_in (tg_3 (List.mem_of_getElem? (i := 209) rfl)) rfl
theorem tw_690 : (Jvm.Cond.methodLink "BoxDeskModel" (75 : Nat) ({ cls := "BoxDeskModel", name := "isVertical", desc := "()Z" } : Jvm.MethodName)) ∈ TB := TB_in (tg_3 (List.mem_of_getElem? (i := 210) rfl)) rfl
theorem tw_692 : (Jvm.Cond.instanceMethod ({ cls := "BoxDeskModel", name := "isVertical", desc := "()Z" } : Jvm.MethodName)) ∈ TB := TB_in (tg_3 (List.mem_of_getElem? (i := 212) rfl)) rfl
theorem tw_693 : (Jvm.Cond.code ({ cls := "BoxDeskModel", name := "isVertical", desc := "()Z" } : Jvm.MethodName) prog_7_method_12_code (1 : Nat) (Option.some Jvm.ClassFile.FieldType.boolean)) ∈ TB := TB_in (tg_3 (List.mem_of_getElem? (i := 213) rfl)) rfl
theorem tw_694 : (Jvm.Cond.methodLink "BoxDeskModel" (79 : Nat) ({ cls := "BoxDeskModel", name := "isSize", desc := "(I)Z" } : Jvm.MethodName)) ∈ TB := TB_in (tg_3 (List.mem_of_getElem? (i := 214) rfl)) rfl
theorem tw_695 : (Jvm.Cond.static ({ cls := "BoxDeskModel", name := "isSize", desc := "(I)Z" } : Jvm.MethodName)) ∈ TB := TB_in (tg_3 (List.mem_of_getElem? (i := 215) rfl)) rfl
theorem tw_696 : (Jvm.Cond.code ({ cls := "BoxDeskModel", name := "isSize", desc := "(I)Z" } : Jvm.MethodName) prog_7_method_4_code (1 : Nat) (Option.some Jvm.ClassFile.FieldType.boolean)) ∈ TB := TB_in (tg_3 (List.mem_of_getElem? (i := 216) rfl)) rfl
theorem tw_697 : (Jvm.Cond.constant "BoxDeskModel" (55 : Nat) (-1073741823 : Int32)) ∈ TB := TB_in (tg_3 (List.mem_of_getElem? (i := 217) rfl)) rfl
theorem tw_698 : (Jvm.Cond.constant "BoxDeskModel" (56 : Nat) (1073741823 : Int32)) ∈ TB := TB_in (tg_3 (List.mem_of_getElem? (i := 218) rfl)) rfl
theorem tw_699 : (Jvm.Cond.methodLink "BoxDeskModel" (82 : Nat) ({ cls := "BoxDeskModel", name := "add", desc := "(ZIIIIIII)Z" } : Jvm.MethodName)) ∈ TB := TB_in (tg_3 (List.mem_of_getElem? (i := 219) rfl)) rfl
theorem tw_701 : (Jvm.Cond.instanceMethod ({ cls := "BoxDeskModel", name := "add", desc := "(ZIIIIIII)Z" } : Jvm.MethodName)) ∈ TB := TB_in (tg_3 (List.mem_of_getElem? (i := 221) rfl)) rfl
theorem tw_702 : (Jvm.Cond.code ({ cls := "BoxDeskModel", name := "add", desc := "(ZIIIIIII)Z" } : Jvm.MethodName) prog_7_method_11_code (9 : Nat) (Option.some Jvm.ClassFile.FieldType.boolean)) ∈ TB := TB_in (tg_3 (List.mem_of_getElem? (i := 222) rfl)) rfl
theorem tw_703 : (Jvm.Cond.methodLink "BoxDeskModel" (71 : Nat) ({ cls := "BoxDeskModel", name := "hasRoom", desc := "(I)Z" } : Jvm.MethodName)) ∈ TB := TB_in (tg_3 (List.mem_of_getElem? (i := 223) rfl)) rfl
theorem tw_705 : (Jvm.Cond.instanceMethod ({ cls := "BoxDeskModel", name := "hasRoom", desc := "(I)Z" } : Jvm.MethodName)) ∈ TB := TB_in (tg_3 (List.mem_of_getElem? (i := 225) rfl)) rfl
theorem tw_706 : (Jvm.Cond.code ({ cls := "BoxDeskModel", name := "hasRoom", desc := "(I)Z" } : Jvm.MethodName) prog_7_method_7_code (2 : Nat) (Option.some Jvm.ClassFile.FieldType.boolean)) ∈ TB := TB_in (tg_3 (List.mem_of_getElem? (i := 226) rfl)) rfl
theorem tw_707 : (Jvm.Cond.methodLink "BoxDeskModel" (64 : Nat) ({ cls := "BoxDeskModel", name := "shelved", desc := "()I" } : Jvm.MethodName)) ∈ TB := TB_in (tg_3 (List.mem_of_getElem? (i := 227) rfl)) rfl
theorem tw_709 : (Jvm.Cond.instanceMethod ({ cls := "BoxDeskModel", name := "shelved", desc := "()I" } : Jvm.MethodName)) ∈ TB := TB_in (tg_3 (List.mem_of_getElem? (i := 229) rfl)) rfl
theorem tw_710 : (Jvm.Cond.code ({ cls := "BoxDeskModel", name := "shelved", desc := "()I" } : Jvm.MethodName) prog_7_method_6_code (3 : Nat) (Option.some Jvm.ClassFile.FieldType.int)) ∈ TB := TB_in (tg_3 (List.mem_of_getElem? (i := 230) rfl)) rfl
theorem tw_711 : (Jvm.Cond.methodLink "BoxDeskLaw" (47 : Nat) ({ cls := "BoxDeskModel", name := "rule", desc := "(IIII)Z" } : Jvm.MethodName)) ∈ TB := TB_in (tg_3 (List.mem_of_getElem? (i := 231) rfl)) rfl
theorem tw_712 : (Jvm.Cond.instanceMethod ({ cls := "BoxDeskModel", name := "rule", desc := "(IIII)Z" } : Jvm.MethodName)) ∈ TB := TB_in (tg_3 (List.mem_of_getElem? (i := 232) rfl)) rfl
theorem tw_713 : (Jvm.Cond.selects "BoxDeskModel" ({ cls := "BoxDeskModel", name := "rule", desc := "(IIII)Z" } : Jvm.MethodName) ({ cls := "BoxDeskModel", name := "rule", desc := "(IIII)Z" } : Jvm.MethodName)) ∈ TB := TB_in (tg_3 (List.mem_of_getElem? (i := 233) rfl)) rfl
theorem tw_714 : (Jvm.Cond.code ({ cls := "BoxDeskModel", name := "rule", desc := "(IIII)Z" } : Jvm.MethodName) prog_7_method_14_code (9 : Nat) (Option.some Jvm.ClassFile.FieldType.boolean)) ∈ TB := TB_in (tg_3 (List.mem_of_getElem? (i := 234) rfl)) rfl
theorem tw_715 : (Jvm.Cond.constant "BoxDeskModel" (86 : Nat) (-2147483648 : Int32)) ∈ TB := TB_in (tg_3 (List.mem_of_getElem? (i := 235) rfl)) rfl
theorem tw_716 : (Jvm.Cond.methodLink "BoxDeskLaw" (51 : Nat) ({ cls := "BoxDeskModel", name := "glue", desc := "(IIII)Z" } : Jvm.MethodName)) ∈ TB := TB_in (tg_3 (List.mem_of_getElem? (i := 236) rfl)) rfl
theorem tw_717 : (Jvm.Cond.instanceMethod ({ cls := "BoxDeskModel", name := "glue", desc := "(IIII)Z" } : Jvm.MethodName)) ∈ TB := TB_in (tg_3 (List.mem_of_getElem? (i := 237) rfl)) rfl
theorem tw_718 : (Jvm.Cond.selects "BoxDeskModel" ({ cls := "BoxDeskModel", name := "glue", desc := "(IIII)Z" } : Jvm.MethodName) ({ cls := "BoxDeskModel", name := "glue", desc := "(IIII)Z" } : Jvm.MethodName)) ∈ TB := TB_in (tg_3 (List.mem_of_getElem? (i := 238) rfl)) rfl
theorem tw_719 : (Jvm.Cond.code ({ cls := "BoxDeskModel", name := "glue", desc := "(IIII)Z" } : Jvm.MethodName) prog_7_method_15_code (5 : Nat) (Option.some Jvm.ClassFile.FieldType.boolean)) ∈ TB := TB_in (tg_3 (List.mem_of_getElem? (i := 239) rfl)) rfl
theorem tw_720 : (Jvm.Cond.methodLink "BoxDeskLaw" (56 : Nat) ({ cls := "BoxDeskModel", name := "kern", desc := "(I)Z" } : Jvm.MethodName)) ∈ TB := TB_in (tg_4 (List.mem_of_getElem? (i := 0) rfl)) rfl
theorem tw_721 : (Jvm.Cond.instanceMethod ({ cls := "BoxDeskModel", name := "kern", desc := "(I)Z" } : Jvm.MethodName)) ∈ TB := TB_in (tg_4 (List.mem_of_getElem? (i := 1) rfl)) rfl
theorem tw_722 : (Jvm.Cond.selects "BoxDeskModel" ({ cls := "BoxDeskModel", name := "kern", desc := "(I)Z" } : Jvm.MethodName) ({ cls := "BoxDeskModel", name := "kern", desc := "(I)Z" } : Jvm.MethodName)) ∈ TB := TB_in (tg_4 (List.mem_of_getElem? (i := 2) rfl)) rfl
theorem tw_723 : (Jvm.Cond.code ({ cls := "BoxDeskModel", name := "kern", desc := "(I)Z" } : Jvm.MethodName) prog_7_method_16_code (2 : Nat) (Option.some Jvm.ClassFile.FieldType.boolean)) ∈ TB := TB_in (tg_4 (List.mem_of_getElem? (i := 3) rfl)) rfl
theorem tw_724 : (Jvm.Cond.methodLink "BoxDeskLaw" (60 : Nat) ({ cls := "BoxDeskModel", name := "penalty", desc := "(I)Z" } : Jvm.MethodName)) ∈ TB := TB_in (tg_4 (List.mem_of_getElem? (i := 4) rfl)) rfl
theorem tw_725 : (Jvm.Cond.instanceMethod ({ cls := "BoxDeskModel", name := "penalty", desc := "(I)Z" } : Jvm.MethodName)) ∈ TB := TB_in (tg_4 (List.mem_of_getElem? (i := 5) rfl)) rfl
theorem tw_726 : (Jvm.Cond.selects "BoxDeskModel" ({ cls := "BoxDeskModel", name := "penalty", desc := "(I)Z" } : Jvm.MethodName) ({ cls := "BoxDeskModel", name := "penalty", desc := "(I)Z" } : Jvm.MethodName)) ∈ TB := TB_in (tg_4 (List.mem_of_getElem? (i := 6) rfl)) rfl
theorem tw_727 : (Jvm.Cond.code ({ cls := "BoxDeskModel", name := "penalty", desc := "(I)Z" } : Jvm.MethodName) prog_7_method_17_code (2 : Nat) (Option.some Jvm.ClassFile.FieldType.boolean)) ∈ TB := TB_in (tg_4 (List.mem_of_getElem? (i := 7) rfl)) rfl
theorem tw_728 : (Jvm.Cond.methodLink "BoxDeskLaw" (66 : Nat) ({ cls := "BoxDeskModel", name := "close", desc := "(IIII)I" } : Jvm.MethodName)) ∈ TB := TB_in (tg_4 (List.mem_of_getElem? (i := 8) rfl)) rfl
theorem tw_729 : (Jvm.Cond.instanceMethod ({ cls := "BoxDeskModel", name := "close", desc := "(IIII)I" } : Jvm.MethodName)) ∈ TB := TB_in (tg_4 (List.mem_of_getElem? (i := 9) rfl)) rfl
theorem tw_730 : (Jvm.Cond.selects "BoxDeskModel" ({ cls := "BoxDeskModel", name := "close", desc := "(IIII)I" } : Jvm.MethodName) ({ cls := "BoxDeskModel", name := "close", desc := "(IIII)I" } : Jvm.MethodName)) ∈ TB := TB_in (tg_4 (List.mem_of_getElem? (i := 10) rfl)) rfl
theorem tw_731 : (Jvm.Cond.code ({ cls := "BoxDeskModel", name := "close", desc := "(IIII)I" } : Jvm.MethodName) prog_7_method_29_code (13 : Nat) (Option.some Jvm.ClassFile.FieldType.int)) ∈ TB := TB_in (tg_4 (List.mem_of_getElem? (i := 11) rfl)) rfl
theorem tw_732 : (Jvm.Cond.methodLink "BoxDeskModel" (130 : Nat) ({ cls := "BoxDeskModel", name := "fails", desc := "(I)I" } : Jvm.MethodName)) ∈ TB := TB_in (tg_4 (List.mem_of_getElem? (i := 12) rfl)) rfl
theorem tw_734 : (Jvm.Cond.instanceMethod ({ cls := "BoxDeskModel", name := "fails", desc := "(I)I" } : Jvm.MethodName)) ∈ TB := TB_in (tg_4 (List.mem_of_getElem? (i := 14) rfl)) rfl
theorem tw_735 : (Jvm.Cond.code ({ cls := "BoxDeskModel", name := "fails", desc := "(I)I" } : Jvm.MethodName) prog_7_method_3_code (2 : Nat) (Option.some Jvm.ClassFile.FieldType.int)) ∈ TB := TB_in (tg_4 (List.mem_of_getElem? (i := 15) rfl)) rfl
theorem tw_736 : (Jvm.Cond.methodLink "BoxDeskModel" (133 : Nat) ({ cls := "BoxDeskModel", name := "measureHigh", desc := "(II)V" } : Jvm.MethodName)) ∈ TB := TB_in (tg_4 (List.mem_of_getElem? (i := 16) rfl)) rfl
theorem tw_738 : (Jvm.Cond.instanceMethod ({ cls := "BoxDeskModel", name := "measureHigh", desc := "(II)V" } : Jvm.MethodName)) ∈ TB := TB_in (tg_4 (List.mem_of_getElem? (i := 18) rfl)) rfl
theorem tw_739 : (Jvm.Cond.code ({ cls := "BoxDeskModel", name := "measureHigh", desc := "(II)V" } : Jvm.MethodName) prog_7_method_23_code (7 : Nat) (Option.none : Option Jvm.ClassFile.FieldType)) ∈ TB := TB_in (tg_4 (List.mem_of_getElem? (i := 19) rfl)) rfl
theorem tw_740 : (Jvm.Cond.methodLink "BoxDeskModel" (106 : Nat) ({ cls := "BoxDeskModel", name := "measure", desc := "(I)V" } : Jvm.MethodName)) ∈ TB := TB_in (tg_4 (List.mem_of_getElem? (i := 20) rfl)) rfl
theorem tw_742 : (Jvm.Cond.instanceMethod ({ cls := "BoxDeskModel", name := "measure", desc := "(I)V" } : Jvm.MethodName)) ∈ TB := TB_in (tg_4 (List.mem_of_getElem? (i := 22) rfl)) rfl
theorem tw_743 : (Jvm.Cond.code ({ cls := "BoxDeskModel", name := "measure", desc := "(I)V" } : Jvm.MethodName) prog_7_method_21_code (3 : Nat) (Option.none : Option Jvm.ClassFile.FieldType)) ∈ TB := TB_in (tg_4 (List.mem_of_getElem? (i := 23) rfl)) rfl
theorem tw_744 : (Jvm.Cond.methodLink "BoxDeskModel" (87 : Nat) ({ cls := "BoxDeskModel", name := "isBox", desc := "(I)Z" } : Jvm.MethodName)) ∈ TB := TB_in (tg_4 (List.mem_of_getElem? (i := 24) rfl)) rfl
theorem tw_746 : (Jvm.Cond.instanceMethod ({ cls := "BoxDeskModel", name := "isBox", desc := "(I)Z" } : Jvm.MethodName)) ∈ TB := TB_in (tg_4 (List.mem_of_getElem? (i := 26) rfl)) rfl
theorem tw_747 : (Jvm.Cond.code ({ cls := "BoxDeskModel", name := "isBox", desc := "(I)Z" } : Jvm.MethodName) prog_7_method_18_code (2 : Nat) (Option.some Jvm.ClassFile.FieldType.boolean)) ∈ TB := TB_in (tg_4 (List.mem_of_getElem? (i := 27) rfl)) rfl
theorem tw_748 : (Jvm.Cond.methodLink "BoxDeskModel" (110 : Nat) ({ cls := "BoxDeskModel", name := "isSolid", desc := "(I)Z" } : Jvm.MethodName)) ∈ TB := TB_in (tg_4 (List.mem_of_getElem? (i := 28) rfl)) rfl
theorem tw_750 : (Jvm.Cond.instanceMethod ({ cls := "BoxDeskModel", name := "isSolid", desc := "(I)Z" } : Jvm.MethodName)) ∈ TB := TB_in (tg_4 (List.mem_of_getElem? (i := 30) rfl)) rfl
theorem tw_751 : (Jvm.Cond.code ({ cls := "BoxDeskModel", name := "isSolid", desc := "(I)Z" } : Jvm.MethodName) prog_7_method_19_code (2 : Nat) (Option.some Jvm.ClassFile.FieldType.boolean)) ∈ TB := TB_in (tg_4 (List.mem_of_getElem? (i := 31) rfl)) rfl
theorem tw_752 : (Jvm.Cond.methodLink "BoxDeskModel" (136 : Nat) ({ cls := "BoxDeskModel", name := "measureWide", desc := "(I)V" } : Jvm.MethodName)) ∈ TB := TB_in (tg_4 (List.mem_of_getElem? (i := 32) rfl)) rfl
theorem tw_754 : (Jvm.Cond.instanceMethod ({ cls := "BoxDeskModel", name := "measureWide", desc := "(I)V" } : Jvm.MethodName)) ∈ TB := TB_in (tg_4 (List.mem_of_getElem? (i := 34) rfl)) rfl
theorem tw_755 : (Jvm.Cond.code ({ cls := "BoxDeskModel", name := "measureWide", desc := "(I)V" } : Jvm.MethodName) prog_7_method_22_code (5 : Nat) (Option.none : Option Jvm.ClassFile.FieldType)) ∈ TB := TB_in (tg_4 (List.mem_of_getElem? (i := 35) rfl)) rfl
theorem tw_756 : (Jvm.Cond.methodLink "BoxDeskModel" (139 : Nat) ({ cls := "BoxDeskModel", name := "isSizeLong", desc := "(J)Z" } : Jvm.MethodName)) ∈ TB := TB_in (tg_4 (List.mem_of_getElem? (i := 36) rfl)) rfl
theorem tw_757 : (Jvm.Cond.static ({ cls := "BoxDeskModel", name := "isSizeLong", desc := "(J)Z" } : Jvm.MethodName)) ∈ TB := TB_in (tg_4 (List.mem_of_getElem? (i := 37) rfl)) rfl
theorem tw_758 : (Jvm.Cond.code ({ cls := "BoxDeskModel", name := "isSizeLong", desc := "(J)Z" } : Jvm.MethodName) prog_7_method_5_code (2 : Nat) (Option.some Jvm.ClassFile.FieldType.boolean)) ∈ TB := TB_in (tg_4 (List.mem_of_getElem? (i := 38) rfl)) rfl
theorem tw_759 : (Jvm.Cond.constantLong "BoxDeskModel" (57 : Nat) (-1073741823 : Int64)) ∈ TB := TB_in (tg_4 (List.mem_of_getElem? (i := 39) rfl)) rfl
theorem tw_760 : (Jvm.Cond.constantLong "BoxDeskModel" (59 : Nat) (1073741823 : Int64)) ∈ TB := TB_in (tg_4 (List.mem_of_getElem? (i := 40) rfl)) rfl
theorem tw_761 : (Jvm.Cond.methodLink "BoxDeskModel" (143 : Nat) ({ cls := "BoxDeskModel", name := "nested", desc := "(II)I" } : Jvm.MethodName)) ∈ TB := TB_in (tg_4 (List.mem_of_getElem? (i := 41) rfl)) rfl
theorem tw_763 : (Jvm.Cond.instanceMethod ({ cls := "BoxDeskModel", name := "nested", desc := "(II)I" } : Jvm.MethodName)) ∈ TB := TB_in (tg_4 (List.mem_of_getElem? (i := 43) rfl)) rfl
theorem tw_764 : (Jvm.Cond.code ({ cls := "BoxDeskModel", name := "nested", desc := "(II)I" } : Jvm.MethodName) prog_7_method_20_code (7 : Nat) (Option.some Jvm.ClassFile.FieldType.int)) ∈ TB := TB_in (tg_4 (List.mem_of_getElem? (i := 44) rfl)) rfl
theorem tw_765 : (Jvm.Cond.methodLink "BoxDeskModel" (147 : Nat) ({ cls := "BoxDeskModel", name := "share", desc := "(IJ)V" } : Jvm.MethodName)) ∈ TB := TB_in (tg_4 (List.mem_of_getElem? (i := 45) rfl)) rfl
theorem tw_767 : (Jvm.Cond.instanceMethod ({ cls := "BoxDeskModel", name := "share", desc := "(IJ)V" } : Jvm.MethodName)) ∈ TB := TB_in (tg_4 (List.mem_of_getElem? (i := 47) rfl)) rfl
theorem tw_768 : (Jvm.Cond.code ({ cls := "BoxDeskModel", name := "share", desc := "(IJ)V" } : Jvm.MethodName) prog_7_method_26_code (16 : Nat) (Option.none : Option Jvm.ClassFile.FieldType)) ∈ TB := TB_in (tg_4 (List.mem_of_getElem? (i := 48) rfl)) rfl
theorem tw_769 : (Jvm.Cond.methodLink "BoxDeskModel" (119 : Nat) ({ cls := "BoxDeskModel", name := "near", desc := "(JJ)J" } : Jvm.MethodName)) ∈ TB := TB_in (tg_4 (List.mem_of_getElem? (i := 49) rfl)) rfl
theorem tw_770 : (Jvm.Cond.static ({ cls := "BoxDeskModel", name := "near", desc := "(JJ)J" } : Jvm.MethodName)) ∈ TB := TB_in (tg_4 (List.mem_of_getElem? (i := 50) rfl)) rfl
theorem tw_771 : (Jvm.Cond.code ({ cls := "BoxDeskModel", name := "near", desc := "(JJ)J" } : Jvm.MethodName) prog_7_method_24_code (4 : Nat) (Option.some Jvm.ClassFile.FieldType.long)) ∈ TB := TB_in (tg_4 (List.mem_of_getElem? (i := 51) rfl)) rfl
theorem tw_772 : (Jvm.Cond.methodLink "BoxDeskModel" (113 : Nat) ({ cls := "BoxDeskModel", name := "near0", desc := "(JJ)J" } : Jvm.MethodName)) ∈ TB := TB_in (tg_4 (List.mem_of_getElem? (i := 52) rfl)) rfl
theorem tw_773 : (Jvm.Cond.static ({ cls := "BoxDeskModel", name := "near0", desc := "(JJ)J" } : Jvm.MethodName)) ∈ TB := TB_in (tg_4 (List.mem_of_getElem? (i := 53) rfl)) rfl
theorem tw_774 : (Jvm.Cond.code ({ cls := "BoxDeskModel", name := "near0", desc := "(JJ)J" } : Jvm.MethodName) prog_7_method_25_code (4 : Nat) (Option.some Jvm.ClassFile.FieldType.long)) ∈ TB := TB_in (tg_4 (List.mem_of_getElem? (i := 54) rfl)) rfl
theorem tw_775 : (Jvm.Cond.constantLong "BoxDeskModel" (117 : Nat) (2 : Int64)) ∈ TB := TB_in (tg_4 (List.mem_of_getElem? (i := 55) rfl)) rfl
theorem tw_776 : (Jvm.Cond.methodLink "BoxDeskModel" (151 : Nat) ({ cls := "BoxDeskModel", name := "empty", desc := "(I)V" } : Jvm.MethodName)) ∈ TB := TB_in (tg_4 (List.mem_of_getElem? (i := 56) rfl)) rfl
theorem tw_778 : (Jvm.Cond.instanceMethod ({ cls := "BoxDeskModel", name := "empty", desc := "(I)V" } : Jvm.MethodName)) ∈ TB := TB_in (tg_4 (List.mem_of_getElem? (i := 58) rfl)) rfl
theorem tw_779 : (Jvm.Cond.code ({ cls := "BoxDeskModel", name := "empty", desc := "(I)V" } : Jvm.MethodName) prog_7_method_27_code (6 : Nat) (Option.none : Option Jvm.ClassFile.FieldType)) ∈ TB := TB_in (tg_4 (List.mem_of_getElem? (i := 59) rfl)) rfl
theorem tw_780 : (Jvm.Cond.methodLink "BoxDeskModel" (122 : Nat) ({ cls := "BoxDeskModel", name := "start", desc := "(I)I" } : Jvm.MethodName)) ∈ TB := TB_in (tg_4 (List.mem_of_getElem? (i := 60) rfl)) rfl
theorem tw_782 : (Jvm.Cond.instanceMethod ({ cls := "BoxDeskModel", name := "start", desc := "(I)I" } : Jvm.MethodName)) ∈ TB := TB_in (tg_4 (List.mem_of_getElem? (i := 62) rfl)) rfl
theorem tw_783 : (Jvm.Cond.code ({ cls := "BoxDeskModel", name := "start", desc := "(I)I" } : Jvm.MethodName) prog_7_method_8_code (4 : Nat) (Option.some Jvm.ClassFile.FieldType.int)) ∈ TB := TB_in (tg_4 (List.mem_of_getElem? (i := 63) rfl)) rfl
theorem tw_784 : (Jvm.Cond.methodLink "BoxDeskModel" (126 : Nat) ({ cls := "BoxDeskModel", name := "move", desc := "(II)V" } : Jvm.MethodName)) ∈ TB := TB_in (tg_4 (List.mem_of_getElem? (i := 64) rfl)) rfl
theorem tw_786 : (Jvm.Cond.instanceMethod ({ cls := "BoxDeskModel", name := "move", desc := "(II)V" } : Jvm.MethodName)) ∈ TB := TB_in (tg_4 (List.mem_of_getElem? (i := 66) rfl)) rfl
theorem tw_787 : (Jvm.Cond.code ({ cls := "BoxDeskModel", name := "move", desc := "(II)V" } : Jvm.MethodName) prog_7_method_9_code (3 : Nat) (Option.none : Option Jvm.ClassFile.FieldType)) ∈ TB := TB_in (tg_4 (List.mem_of_getElem? (i := 67) rfl)) rfl
theorem tw_788 : (Jvm.Cond.methodLink "BoxDeskModel" (154 : Nat) ({ cls := "BoxDeskModel", name := "make", desc := "(II)V" } : Jvm.MethodName)) ∈ TB := TB_in (tg_4 (List.mem_of_getElem? (i := 68) rfl)) rfl
theorem tw_790 : (Jvm.Cond.instanceMethod ({ cls := "BoxDeskModel", name := "make", desc := "(II)V" } : Jvm.MethodName)) ∈ TB := TB_in (tg_4 (List.mem_of_getElem? (i := 70) rfl)) rfl
theorem tw_791 : (Jvm.Cond.code ({ cls := "BoxDeskModel", name := "make", desc := "(II)V" } : Jvm.MethodName) prog_7_method_28_code (5 : Nat) (Option.none : Option Jvm.ClassFile.FieldType)) ∈ TB := TB_in (tg_4 (List.mem_of_getElem? (i := 71) rfl)) rfl
theorem tw_792 : (Jvm.Cond.methodLink "BoxDeskLaw" (75 : Nat) ({ cls := "BoxDeskModel", name := "put", desc := "(IIZ)Z" } : Jvm.MethodName)) ∈ TB := TB_in (tg_4 (List.mem_of_getElem? (i := 72) rfl)) rfl
theorem tw_793 : (Jvm.Cond.instanceMethod ({ cls := "BoxDeskModel", name := "put", desc := "(IIZ)Z" } : Jvm.MethodName)) ∈ TB := TB_in (tg_4 (List.mem_of_getElem? (i := 73) rfl)) rfl
theorem tw_794 : (Jvm.Cond.selects "BoxDeskModel" ({ cls := "BoxDeskModel", name := "put", desc := "(IIZ)Z" } : Jvm.MethodName) ({ cls := "BoxDeskModel", name := "put", desc := "(IIZ)Z" } : Jvm.MethodName)) ∈ TB := TB_in (tg_4 (List.mem_of_getElem? (i := 74) rfl)) rfl
theorem tw_795 : (Jvm.Cond.code ({ cls := "BoxDeskModel", name := "put", desc := "(IIZ)Z" } : Jvm.MethodName) prog_7_method_31_code (7 : Nat) (Option.some Jvm.ClassFile.FieldType.boolean)) ∈ TB := TB_in (tg_4 (List.mem_of_getElem? (i := 75) rfl)) rfl
theorem tw_796 : (Jvm.Cond.methodLink "BoxDeskModel" (157 : Nat) ({ cls := "BoxDeskModel", name := "isFull", desc := "(I)Z" } : Jvm.MethodName)) ∈ TB := TB_in (tg_4 (List.mem_of_getElem? (i := 76) rfl)) rfl
theorem tw_798 : (Jvm.Cond.instanceMethod ({ cls := "BoxDeskModel", name := "isFull", desc := "(I)Z" } : Jvm.MethodName)) ∈ TB := TB_in (tg_4 (List.mem_of_getElem? (i := 78) rfl)) rfl
theorem tw_799 : (Jvm.Cond.code ({ cls := "BoxDeskModel", name := "isFull", desc := "(I)Z" } : Jvm.MethodName) prog_7_method_30_code (2 : Nat) (Option.some Jvm.ClassFile.FieldType.boolean)) ∈ TB := TB_in (tg_4 (List.mem_of_getElem? (i := 79) rfl)) rfl
theorem tw_800 : (Jvm.Cond.methodLink "BoxDeskLaw" (79 : Nat) ({ cls := "BoxDeskModel", name := "unbox", desc := "(I)Z" } : Jvm.MethodName)) ∈ TB := TB_in (tg_4 (List.mem_of_getElem? (i := 80) rfl)) rfl
theorem tw_801 : (Jvm.Cond.instanceMethod ({ cls := "BoxDeskModel", name := "unbox", desc := "(I)Z" } : Jvm.MethodName)) ∈ TB := TB_in (tg_4 (List.mem_of_getElem? (i := 81) rfl)) rfl
theorem tw_802 : (Jvm.Cond.selects "BoxDeskModel" ({ cls := "BoxDeskModel", name := "unbox", desc := "(I)Z" } : Jvm.MethodName) ({ cls := "BoxDeskModel", name := "unbox", desc := "(I)Z" } : Jvm.MethodName)) ∈ TB := TB_in (tg_4 (List.mem_of_getElem? (i := 82) rfl)) rfl
theorem tw_803 : (Jvm.Cond.code ({ cls := "BoxDeskModel", name := "unbox", desc := "(I)Z" } : Jvm.MethodName) prog_7_method_32_code (5 : Nat) (Option.some Jvm.ClassFile.FieldType.boolean)) ∈ TB := TB_in (tg_4 (List.mem_of_getElem? (i := 83) rfl)) rfl
theorem tw_804 : (Jvm.Cond.methodLink "BoxDeskLaw" (83 : Nat) ({ cls := "BoxDeskModel", name := "size", desc := "(III)Z" } : Jvm.MethodName)) ∈ TB := TB_in (tg_4 (List.mem_of_getElem? (i := 84) rfl)) rfl
theorem tw_805 : (Jvm.Cond.instanceMethod ({ cls := "BoxDeskModel", name := "size", desc := "(III)Z" } : Jvm.MethodName)) ∈ TB := TB_in (tg_4 (List.mem_of_getElem? (i := 85) rfl)) rfl
theorem tw_806 : (Jvm.Cond.selects "BoxDeskModel" ({ cls := "BoxDeskModel", name := "size", desc := "(III)Z" } : Jvm.MethodName) ({ cls := "BoxDeskModel", name := "size", desc := "(III)Z" } : Jvm.MethodName)) ∈ TB := TB_in (tg_4 (List.mem_of_getElem? (i := 86) rfl)) rfl
theorem tw_807 : (Jvm.Cond.code ({ cls := "BoxDeskModel", name := "size", desc := "(III)Z" } : Jvm.MethodName) prog_7_method_33_code (5 : Nat) (Option.some Jvm.ClassFile.FieldType.boolean)) ∈ TB := TB_in (tg_4 (List.mem_of_getElem? (i := 87) rfl)) rfl
theorem tw_808 : (Jvm.Cond.methodLink "BoxDeskLaw" (87 : Nat) ({ cls := "BoxDeskModel", name := "about", desc := "(II)I" } : Jvm.MethodName)) ∈ TB := TB_in (tg_4 (List.mem_of_getElem? (i := 88) rfl)) rfl
theorem tw_809 : (Jvm.Cond.instanceMethod ({ cls := "BoxDeskModel", name := "about", desc := "(II)I" } : Jvm.MethodName)) ∈ TB := TB_in (tg_4 (List.mem_of_getElem? (i := 89) rfl)) rfl
theorem tw_810 : (Jvm.Cond.selects "BoxDeskModel" ({ cls := "BoxDeskModel", name := "about", desc := "(II)I" } : Jvm.MethodName) ({ cls := "BoxDeskModel", name := "about", desc := "(II)I" } : Jvm.MethodName)) ∈ TB := TB_in (tg_4 (List.mem_of_getElem? (i := 90) rfl)) rfl
theorem tw_811 : (Jvm.Cond.code ({ cls := "BoxDeskModel", name := "about", desc := "(II)I" } : Jvm.MethodName) prog_7_method_35_code (4 : Nat) (Option.some Jvm.ClassFile.FieldType.int)) ∈ TB := TB_in (tg_4 (List.mem_of_getElem? (i := 91) rfl)) rfl
theorem tw_812 : (Jvm.Cond.methodLink "BoxDeskModel" (160 : Nat) ({ cls := "BoxDeskModel", name := "items", desc := "(I)I" } : Jvm.MethodName)) ∈ TB := TB_in (tg_4 (List.mem_of_getElem? (i := 92) rfl)) rfl
theorem tw_814 : (Jvm.Cond.instanceMethod ({ cls := "BoxDeskModel", name := "items", desc := "(I)I" } : Jvm.MethodName)) ∈ TB := TB_in (tg_4 (List.mem_of_getElem? (i := 94) rfl)) rfl
theorem tw_815 : (Jvm.Cond.code ({ cls := "BoxDeskModel", name := "items", desc := "(I)I" } : Jvm.MethodName) prog_7_method_34_code (4 : Nat) (Option.some Jvm.ClassFile.FieldType.int)) ∈ TB := TB_in (tg_4 (List.mem_of_getElem? (i := 95) rfl)) rfl
theorem tw_816 : (Jvm.Cond.methodLink "BoxDeskLaw" (91 : Nat) ({ cls := "BoxDeskModel", name := "item", desc := "(III)I" } : Jvm.MethodName)) ∈ TB := TB_in (tg_4 (List.mem_of_getElem? (i := 96) rfl)) rfl
theorem tw_817 : (Jvm.Cond.instanceMethod ({ cls := "BoxDeskModel", name := "item", desc := "(III)I" } : Jvm.MethodName)) ∈ TB := TB_in (tg_4 (List.mem_of_getElem? (i := 97) rfl)) rfl
theorem tw_818 : (Jvm.Cond.selects "BoxDeskModel" ({ cls := "BoxDeskModel", name := "item", desc := "(III)I" } : Jvm.MethodName) ({ cls := "BoxDeskModel", name := "item", desc := "(III)I" } : Jvm.MethodName)) ∈ TB := TB_in (tg_4 (List.mem_of_getElem? (i := 98) rfl)) rfl
theorem tw_819 : (Jvm.Cond.code ({ cls := "BoxDeskModel", name := "item", desc := "(III)I" } : Jvm.MethodName) prog_7_method_36_code (8 : Nat) (Option.some Jvm.ClassFile.FieldType.int)) ∈ TB := TB_in (tg_4 (List.mem_of_getElem? (i := 99) rfl)) rfl
theorem tw_820 : (Jvm.Cond.constantLong "BoxDeskModel" (163 : Nat) (2147483647 : Int64)) ∈ TB := TB_in (tg_4 (List.mem_of_getElem? (i := 100) rfl)) rfl
theorem tw_821 : (Jvm.Cond.constantLong "BoxDeskModel" (165 : Nat) (-2147483647 : Int64)) ∈ TB := TB_in (tg_4 (List.mem_of_getElem? (i := 101) rfl)) rfl
theorem tw_822 : (Jvm.Cond.methodLink "BoxDeskLaw" (96 : Nat) ({ cls := "BoxDeskModel", name := "count", desc := "(I)I" } : Jvm.MethodName)) ∈ TB := TB_in (tg_4 (List.mem_of_getElem? (i := 102) rfl)) rfl
theorem tw_823 : (Jvm.Cond.instanceMethod ({ cls := "BoxDeskModel", name := "count", desc := "(I)I" } : Jvm.MethodName)) ∈ TB := TB_in (tg_4 (List.mem_of_getElem? (i := 103) rfl)) rfl
theorem tw_824 : (Jvm.Cond.selects "BoxDeskModel" ({ cls := "BoxDeskModel", name := "count", desc := "(I)I" } : Jvm.MethodName) ({ cls := "BoxDeskModel", name := "count", desc := "(I)I" } : Jvm.MethodName)) ∈ TB := TB_in (tg_4 (List.mem_of_getElem? (i := 104) rfl)) rfl
theorem tw_825 : (Jvm.Cond.code ({ cls := "BoxDeskModel", name := "count", desc := "(I)I" } : Jvm.MethodName) prog_7_method_37_code (2 : Nat) (Option.some Jvm.ClassFile.FieldType.int)) ∈ TB := TB_in (tg_4 (List.mem_of_getElem? (i := 105) rfl)) rfl
theorem tw_826 : (Jvm.Cond.sameMethod "java/lang/Throwable" "java/lang/Throwable" "fillInStackTrace" "(I)Ljava/lang/Throwable;") ∈ TB := TB_in (tg_4 (List.mem_of_getElem? (i := 106) rfl)) rfl
theorem nw_827 : (Jvm.Cond.castable "BoxDesk$Item" "BoxDesk$Item") ∈ NB := NB_in (tg_4 (List.mem_of_getElem? (i := 107) rfl)) rfl
theorem tw_828 : (Jvm.Cond.sameMethod "[Ljava/lang/Object;" "java/lang/Object" "getClass" "()Ljava/lang/Class;") ∈ TB := TB_in (tg_4 (List.mem_of_getElem? (i := 108) rfl)) rfl
theorem tw_829 : (Jvm.Cond.selects "[Ljava/lang/Object;" ({ cls := "java/lang/Object", name := "getClass", desc := "()Ljava/lang/Class;" } : Jvm.MethodName) ({ cls := "java/lang/Object", name := "getClass", desc := "()Ljava/lang/Class;" } : Jvm.MethodName)) ∈ TB := TB_in (tg_4 (List.mem_of_getElem? (i := 109) rfl)) rfl
theorem nw_831 : (Jvm.Cond.castable "BoxDesk" "java/lang/Object") ∈ NB := NB_in (tg_4 (List.mem_of_getElem? (i := 111) rfl)) rfl
theorem nw_832 : (Jvm.Cond.castable "BoxDeskModel" "java/lang/Object") ∈ NB := NB_in (tg_4 (List.mem_of_getElem? (i := 112) rfl)) rfl
theorem nw_833 : (Jvm.Cond.castable "BoxDesk$ItemList" "java/lang/Object") ∈ NB := NB_in (tg_4 (List.mem_of_getElem? (i := 113) rfl)) rfl
theorem nw_834 : (Jvm.Cond.castable "BoxDesk$Item" "java/lang/Object") ∈ NB := NB_in (tg_4 (List.mem_of_getElem? (i := 114) rfl)) rfl
theorem nw_835 : (Jvm.Cond.castable "BoxDesk$Measure" "java/lang/Object") ∈ NB := NB_in (tg_4 (List.mem_of_getElem? (i := 115) rfl)) rfl
theorem nw_836 : (Jvm.Cond.castable "BoxDesk$Box" "java/lang/Object") ∈ NB := NB_in (tg_4 (List.mem_of_getElem? (i := 116) rfl)) rfl
theorem nw_837 : (Jvm.Cond.castable "java/lang/String" "java/lang/Object") ∈ NB := NB_in (tg_4 (List.mem_of_getElem? (i := 117) rfl)) rfl
theorem ts_0 : Cond.selects "BoxDesk" ⟨"BoxDesk", "innermost", "()LBoxDesk$ItemList;"⟩ ⟨"BoxDesk", "innermost", "()LBoxDesk$ItemList;"⟩ ∈ TB := TB_inS (List.mem_of_getElem? (i := 0) rfl) rfl
theorem ts_1 : Cond.selects "BoxDesk" ⟨"BoxDesk", "join", "(LBoxDesk$ItemList;LBoxDesk$Item;)Z"⟩ ⟨"BoxDesk", "join", "(LBoxDesk$ItemList;LBoxDesk$Item;)Z"⟩ ∈ TB := TB_inS (List.mem_of_getElem? (i := 1) rfl) rfl
theorem ts_2 : Cond.selects "java/util/ArrayList" ⟨"java/util/ArrayList", "add", "(Ljava/lang/Object;[Ljava/lang/Object;I)V"⟩ ⟨"java/util/ArrayList", "add", "(Ljava/lang/Object;[Ljava/lang/Object;I)V"⟩ ∈ TB := TB_inS (List.mem_of_getElem? (i := 2) rfl) rfl
theorem ts_3 : Cond.selects "java/util/ArrayList" ⟨"java/util/ArrayList", "grow", "()[Ljava/lang/Object;"⟩ ⟨"java/util/ArrayList", "grow", "()[Ljava/lang/Object;"⟩ ∈ TB := TB_inS (List.mem_of_getElem? (i := 3) rfl) rfl
theorem ts_4 : Cond.selects "java/util/ArrayList" ⟨"java/util/ArrayList", "grow", "(I)[Ljava/lang/Object;"⟩ ⟨"java/util/ArrayList", "grow", "(I)[Ljava/lang/Object;"⟩ ∈ TB := TB_inS (List.mem_of_getElem? (i := 4) rfl) rfl
theorem ts_5 : Cond.selects "BoxDesk" ⟨"BoxDesk", "boxIn", "(I)LBoxDesk$Box;"⟩ ⟨"BoxDesk", "boxIn", "(I)LBoxDesk$Box;"⟩ ∈ TB := TB_inS (List.mem_of_getElem? (i := 5) rfl) rfl
theorem ts_6 : Cond.selects "java/lang/Throwable" ⟨"java/lang/Throwable", "fillInStackTrace", "(I)Ljava/lang/Throwable;"⟩ ⟨"java/lang/Throwable", "fillInStackTrace", "(I)Ljava/lang/Throwable;"⟩ ∈ TB := TB_inS (List.mem_of_getElem? (i := 6) rfl) rfl
theorem ts_7 : Cond.selects "BoxDeskModel" ⟨"BoxDeskModel", "isVertical", "()Z"⟩ ⟨"BoxDeskModel", "isVertical", "()Z"⟩ ∈ TB := TB_inS (List.mem_of_getElem? (i := 7) rfl) rfl
theorem ts_8 : Cond.selects "BoxDeskModel" ⟨"BoxDeskModel", "add", "(ZIIIIIII)Z"⟩ ⟨"BoxDeskModel", "add", "(ZIIIIIII)Z"⟩ ∈ TB := TB_inS (List.mem_of_getElem? (i := 8) rfl) rfl
theorem ts_9 : Cond.selects "BoxDeskModel" ⟨"BoxDeskModel", "hasRoom", "(I)Z"⟩ ⟨"BoxDeskModel", "hasRoom", "(I)Z"⟩ ∈ TB := TB_inS (List.mem_of_getElem? (i := 9) rfl) rfl
theorem ts_10 : Cond.selects "BoxDeskModel" ⟨"BoxDeskModel", "shelved", "()I"⟩ ⟨"BoxDeskModel", "shelved", "()I"⟩ ∈ TB := TB_inS (List.mem_of_getElem? (i := 10) rfl) rfl
theorem ts_11 : Cond.selects "BoxDeskModel" ⟨"BoxDeskModel", "fails", "(I)I"⟩ ⟨"BoxDeskModel", "fails", "(I)I"⟩ ∈ TB := TB_inS (List.mem_of_getElem? (i := 11) rfl) rfl
theorem ts_12 : Cond.selects "BoxDeskModel" ⟨"BoxDeskModel", "measureHigh", "(II)V"⟩ ⟨"BoxDeskModel", "measureHigh", "(II)V"⟩ ∈ TB := TB_inS (List.mem_of_getElem? (i := 12) rfl) rfl
theorem ts_13 : Cond.selects "BoxDeskModel" ⟨"BoxDeskModel", "measure", "(I)V"⟩ ⟨"BoxDeskModel", "measure", "(I)V"⟩ ∈ TB := TB_inS (List.mem_of_getElem? (i := 13) rfl) rfl
theorem ts_14 : Cond.selects "BoxDeskModel" ⟨"BoxDeskModel", "isBox", "(I)Z"⟩ ⟨"BoxDeskModel", "isBox", "(I)Z"⟩ ∈ TB := TB_inS (List.mem_of_getElem? (i := 14) rfl) rfl
theorem ts_15 : Cond.selects "BoxDeskModel" ⟨"BoxDeskModel", "isSolid", "(I)Z"⟩ ⟨"BoxDeskModel", "isSolid", "(I)Z"⟩ ∈ TB := TB_inS (List.mem_of_getElem? (i := 15) rfl) rfl
theorem ts_16 : Cond.selects "BoxDeskModel" ⟨"BoxDeskModel", "measureWide", "(I)V"⟩ ⟨"BoxDeskModel", "measureWide", "(I)V"⟩ ∈ TB := TB_inS (List.mem_of_getElem? (i := 16) rfl) rfl
theorem ts_17 : Cond.selects "BoxDeskModel" ⟨"BoxDeskModel", "nested", "(II)I"⟩ ⟨"BoxDeskModel", "nested", "(II)I"⟩ ∈ TB := TB_inS (List.mem_of_getElem? (i := 17) rfl) rfl
theorem ts_18 : Cond.selects "BoxDeskModel" ⟨"BoxDeskModel", "share", "(IJ)V"⟩ ⟨"BoxDeskModel", "share", "(IJ)V"⟩ ∈ TB := TB_inS (List.mem_of_getElem? (i := 18) rfl) rfl
theorem ts_19 : Cond.selects "BoxDeskModel" ⟨"BoxDeskModel", "empty", "(I)V"⟩ ⟨"BoxDeskModel", "empty", "(I)V"⟩ ∈ TB := TB_inS (List.mem_of_getElem? (i := 19) rfl) rfl
theorem ts_20 : Cond.selects "BoxDeskModel" ⟨"BoxDeskModel", "start", "(I)I"⟩ ⟨"BoxDeskModel", "start", "(I)I"⟩ ∈ TB := TB_inS (List.mem_of_getElem? (i := 20) rfl) rfl
theorem ts_21 : Cond.selects "BoxDeskModel" ⟨"BoxDeskModel", "move", "(II)V"⟩ ⟨"BoxDeskModel", "move", "(II)V"⟩ ∈ TB := TB_inS (List.mem_of_getElem? (i := 21) rfl) rfl
theorem ts_22 : Cond.selects "BoxDeskModel" ⟨"BoxDeskModel", "make", "(II)V"⟩ ⟨"BoxDeskModel", "make", "(II)V"⟩ ∈ TB := TB_inS (List.mem_of_getElem? (i := 22) rfl) rfl
theorem ts_23 : Cond.selects "BoxDeskModel" ⟨"BoxDeskModel", "isFull", "(I)Z"⟩ ⟨"BoxDeskModel", "isFull", "(I)Z"⟩ ∈ TB := TB_inS (List.mem_of_getElem? (i := 23) rfl) rfl
theorem ts_24 : Cond.selects "BoxDeskModel" ⟨"BoxDeskModel", "items", "(I)I"⟩ ⟨"BoxDeskModel", "items", "(I)I"⟩ ∈ TB := TB_inS (List.mem_of_getElem? (i := 24) rfl) rfl
end
section
/-! printed: methods and their instructions -/
abbrev b_A_add_O : ByteArray := prog_23_method_25_code
def y_A_add_O : MethodName := ⟨"java/util/ArrayList", "add", "(Ljava/lang/Object;)Z"⟩
theorem d_A_add_O_0 : decode b_A_add_O 0 = .ok (.aload_n 0, 1) := by decide +kernel
theorem d_A_add_O_1 : decode b_A_add_O 1 = .ok (.dup, 1) := by decide +kernel
theorem d_A_add_O_2 : decode b_A_add_O 2 = .ok (.getfield 63, 3) := by decide +kernel
theorem d_A_add_O_5 : decode b_A_add_O 5 = .ok (.iconst 1, 1) := by decide +kernel
theorem d_A_add_O_6 : decode b_A_add_O 6 = .ok (.iadd, 1) := by decide +kernel
theorem d_A_add_O_7 : decode b_A_add_O 7 = .ok (.putfield 63, 3) := by decide +kernel
theorem d_A_add_O_10 : decode b_A_add_O 10 = .ok (.aload_n 0, 1) := by decide +kernel
theorem d_A_add_O_11 : decode b_A_add_O 11 = .ok (.aload_n 1, 1) := by decide +kernel
theorem d_A_add_O_12 : decode b_A_add_O 12 = .ok (.aload_n 0, 1) := by decide +kernel
theorem d_A_add_O_13 : decode b_A_add_O 13 = .ok (.getfield 9, 3) := by decide +kernel
theorem d_A_add_O_16 : decode b_A_add_O 16 = .ok (.aload_n 0, 1) := by decide +kernel
theorem d_A_add_O_17 : decode b_A_add_O 17 = .ok (.getfield 48, 3) := by decide +kernel
theorem d_A_add_O_20 : decode b_A_add_O 20 = .ok (.invokevirtual 131, 3) := by decide +kernel
theorem d_A_add_O_23 : decode b_A_add_O 23 = .ok (.iconst 1, 1) := by decide +kernel
theorem d_A_add_O_24 : decode b_A_add_O 24 = .ok (.ireturn, 1) := by decide +kernel
abbrev b_A_add_OaOI : ByteArray := prog_23_method_24_code
def y_A_add_OaOI : MethodName := ⟨"java/util/ArrayList", "add", "(Ljava/lang/Object;[Ljava/lang/Object;I)V"⟩
theorem d_A_add_OaOI_0 : decode b_A_add_OaOI 0 = .ok (.iload_n 3, 1) := by decide +kernel
theorem d_A_add_OaOI_1 : decode b_A_add_OaOI 1 = .ok (.aload_n 2, 1) := by decide +kernel
theorem d_A_add_OaOI_2 : decode b_A_add_OaOI 2 = .ok (.arraylength, 1) := by decide +kernel
theorem d_A_add_OaOI_3 : decode b_A_add_OaOI 3 = .ok (.if_icmp .ne 8, 3) := by decide +kernel
theorem d_A_add_OaOI_6 : decode b_A_add_OaOI 6 = .ok (.aload_n 0, 1) := by decide +kernel
theorem d_A_add_OaOI_7 : decode b_A_add_OaOI 7 = .ok (.invokevirtual 129, 3) := by decide +kernel
theorem d_A_add_OaOI_10 : decode b_A_add_OaOI 10 = .ok (.astore_n 2, 1) := by decide +kernel
theorem d_A_add_OaOI_11 : decode b_A_add_OaOI 11 = .ok (.aload_n 2, 1) := by decide +kernel
theorem d_A_add_OaOI_12 : decode b_A_add_OaOI 12 = .ok (.iload_n 3, 1) := by decide +kernel
theorem d_A_add_OaOI_13 : decode b_A_add_OaOI 13 = .ok (.aload_n 1, 1) := by decide +kernel
theorem d_A_add_OaOI_14 : decode b_A_add_OaOI 14 = .ok (.aastore, 1) := by decide +kernel
theorem d_A_add_OaOI_15 : decode b_A_add_OaOI 15 = .ok (.aload_n 0, 1) := by decide +kernel
theorem d_A_add_OaOI_16 : decode b_A_add_OaOI 16 = .ok (.iload_n 3, 1) := by decide +kernel
theorem d_A_add_OaOI_17 : decode b_A_add_OaOI 17 = .ok (.iconst 1, 1) := by decide +kernel
theorem d_A_add_OaOI_18 : decode b_A_add_OaOI 18 = .ok (.iadd, 1) := by decide +kernel
theorem d_A_add_OaOI_19 : decode b_A_add_OaOI 19 = .ok (.putfield 48, 3) := by decide +kernel
theorem d_A_add_OaOI_22 : decode b_A_add_OaOI 22 = .ok (.return_, 1) := by decide +kernel
abbrev b_A_elementData : ByteArray := prog_23_method_18_code
def y_A_elementData : MethodName := ⟨"java/util/ArrayList", "elementData", "(I)Ljava/lang/Object;"⟩
theorem d_A_elementData_0 : decode b_A_elementData 0 = .ok (.aload_n 0, 1) := by decide +kernel
theorem d_A_elementData_1 : decode b_A_elementData 1 = .ok (.getfield 9, 3) := by decide +kernel
theorem d_A_elementData_4 : decode b_A_elementData 4 = .ok (.iload_n 1, 1) := by decide +kernel
theorem d_A_elementData_5 : decode b_A_elementData 5 = .ok (.aaload, 1) := by decide +kernel
theorem d_A_elementData_6 : decode b_A_elementData 6 = .ok (.areturn, 1) := by decide +kernel
abbrev b_A_get : ByteArray := prog_23_method_20_code
def y_A_get : MethodName := ⟨"java/util/ArrayList", "get", "(I)Ljava/lang/Object;"⟩
theorem d_A_get_0 : decode b_A_get 0 = .ok (.iload_n 1, 1) := by decide +kernel
theorem d_A_get_1 : decode b_A_get 1 = .ok (.aload_n 0, 1) := by decide +kernel
theorem d_A_get_2 : decode b_A_get 2 = .ok (.getfield 48, 3) := by decide +kernel
theorem d_A_get_5 : decode b_A_get 5 = .ok (.invokestatic 118, 3) := by decide +kernel
theorem d_A_get_8 : decode b_A_get 8 = .ok (.pop, 1) := by decide +kernel
theorem d_A_get_9 : decode b_A_get 9 = .ok (.aload_n 0, 1) := by decide +kernel
theorem d_A_get_10 : decode b_A_get 10 = .ok (.iload_n 1, 1) := by decide +kernel
theorem d_A_get_11 : decode b_A_get 11 = .ok (.invokevirtual 123, 3) := by decide +kernel
theorem d_A_get_14 : decode b_A_get 14 = .ok (.areturn, 1) := by decide +kernel
abbrev b_A_grow_0 : ByteArray := prog_23_method_7_code
def y_A_grow_0 : MethodName := ⟨"java/util/ArrayList", "grow", "()[Ljava/lang/Object;"⟩
theorem d_A_grow_0_0 : decode b_A_grow_0 0 = .ok (.aload_n 0, 1) := by decide +kernel
theorem d_A_grow_0_1 : decode b_A_grow_0 1 = .ok (.aload_n 0, 1) := by decide +kernel
theorem d_A_grow_0_2 : decode b_A_grow_0 2 = .ok (.getfield 48, 3) := by decide +kernel
theorem d_A_grow_0_5 : decode b_A_grow_0 5 = .ok (.iconst 1, 1) := by decide +kernel
theorem d_A_grow_0_6 : decode b_A_grow_0 6 = .ok (.iadd, 1) := by decide +kernel
theorem d_A_grow_0_7 : decode b_A_grow_0 7 = .ok (.invokevirtual 69, 3) := by decide +kernel
theorem d_A_grow_0_10 : decode b_A_grow_0 10 = .ok (.areturn, 1) := by decide +kernel
abbrev b_A_grow_I : ByteArray := prog_23_method_6_code
def y_A_grow_I : MethodName := ⟨"java/util/ArrayList", "grow", "(I)[Ljava/lang/Object;"⟩
theorem d_A_grow_I_0 : decode b_A_grow_I 0 = .ok (.aload_n 0, 1) := by decide +kernel
theorem d_A_grow_I_1 : decode b_A_grow_I 1 = .ok (.getfield 9, 3) := by decide +kernel
theorem d_A_grow_I_4 : decode b_A_grow_I 4 = .ok (.arraylength, 1) := by decide +kernel
theorem d_A_grow_I_5 : decode b_A_grow_I 5 = .ok (.istore_n 2, 1) := by decide +kernel
theorem d_A_grow_I_6 : decode b_A_grow_I 6 = .ok (.iload_n 2, 1) := by decide +kernel
theorem d_A_grow_I_7 : decode b_A_grow_I 7 = .ok (.ifCond .gt 13, 3) := by decide +kernel
theorem d_A_grow_I_10 : decode b_A_grow_I 10 = .ok (.aload_n 0, 1) := by decide +kernel
theorem d_A_grow_I_11 : decode b_A_grow_I 11 = .ok (.getfield 9, 3) := by decide +kernel
theorem d_A_grow_I_14 : decode b_A_grow_I 14 = .ok (.getstatic 39, 3) := by decide +kernel
theorem d_A_grow_I_17 : decode b_A_grow_I 17 = .ok (.if_acmp .eq 28, 3) := by decide +kernel
theorem d_A_grow_I_20 : decode b_A_grow_I 20 = .ok (.iload_n 2, 1) := by decide +kernel
theorem d_A_grow_I_21 : decode b_A_grow_I 21 = .ok (.iload_n 1, 1) := by decide +kernel
theorem d_A_grow_I_22 : decode b_A_grow_I 22 = .ok (.iload_n 2, 1) := by decide +kernel
theorem d_A_grow_I_23 : decode b_A_grow_I 23 = .ok (.isub, 1) := by decide +kernel
theorem d_A_grow_I_24 : decode b_A_grow_I 24 = .ok (.iload_n 2, 1) := by decide +kernel
theorem d_A_grow_I_25 : decode b_A_grow_I 25 = .ok (.iconst 1, 1) := by decide +kernel
theorem d_A_grow_I_26 : decode b_A_grow_I 26 = .ok (.ishr, 1) := by decide +kernel
theorem d_A_grow_I_27 : decode b_A_grow_I 27 = .ok (.invokestatic 73, 3) := by decide +kernel
theorem d_A_grow_I_30 : decode b_A_grow_I 30 = .ok (.istore_n 3, 1) := by decide +kernel
theorem d_A_grow_I_31 : decode b_A_grow_I 31 = .ok (.aload_n 0, 1) := by decide +kernel
theorem d_A_grow_I_32 : decode b_A_grow_I 32 = .ok (.aload_n 0, 1) := by decide +kernel
theorem d_A_grow_I_33 : decode b_A_grow_I 33 = .ok (.getfield 9, 3) := by decide +kernel
theorem d_A_grow_I_36 : decode b_A_grow_I 36 = .ok (.iload_n 3, 1) := by decide +kernel
theorem d_A_grow_I_37 : decode b_A_grow_I 37 = .ok (.invokestatic 66, 3) := by decide +kernel
theorem d_A_grow_I_40 : decode b_A_grow_I 40 = .ok (.dup_x1, 1) := by decide +kernel
theorem d_A_grow_I_41 : decode b_A_grow_I 41 = .ok (.putfield 9, 3) := by decide +kernel
theorem d_A_grow_I_44 : decode b_A_grow_I 44 = .ok (.areturn, 1) := by decide +kernel
theorem d_A_grow_I_45 : decode b_A_grow_I 45 = .ok (.aload_n 0, 1) := by decide +kernel
theorem d_A_grow_I_46 : decode b_A_grow_I 46 = .ok (.bipush 10, 2) := by decide +kernel
theorem d_A_grow_I_48 : decode b_A_grow_I 48 = .ok (.iload_n 1, 1) := by decide +kernel
theorem d_A_grow_I_49 : decode b_A_grow_I 49 = .ok (.invokestatic 79, 3) := by decide +kernel
theorem d_A_grow_I_52 : decode b_A_grow_I 52 = .ok (.anewarray 7, 3) := by decide +kernel
theorem d_A_grow_I_55 : decode b_A_grow_I 55 = .ok (.dup_x1, 1) := by decide +kernel
theorem d_A_grow_I_56 : decode b_A_grow_I 56 = .ok (.putfield 9, 3) := by decide +kernel
theorem d_A_grow_I_59 : decode b_A_grow_I 59 = .ok (.areturn, 1) := by decide +kernel
abbrev b_A_init : ByteArray := prog_23_method_2_code
def y_A_init : MethodName := ⟨"java/util/ArrayList", "<init>", "()V"⟩
theorem d_A_init_0 : decode b_A_init 0 = .ok (.aload_n 0, 1) := by decide +kernel
theorem d_A_init_1 : decode b_A_init 1 = .ok (.invokespecial 1, 3) := by decide +kernel
theorem d_A_init_4 : decode b_A_init 4 = .ok (.aload_n 0, 1) := by decide +kernel
theorem d_A_init_5 : decode b_A_init 5 = .ok (.getstatic 39, 3) := by decide +kernel
theorem d_A_init_8 : decode b_A_init 8 = .ok (.putfield 9, 3) := by decide +kernel
theorem d_A_init_11 : decode b_A_init 11 = .ok (.return_, 1) := by decide +kernel
abbrev b_A_size : ByteArray := prog_23_method_8_code
def y_A_size : MethodName := ⟨"java/util/ArrayList", "size", "()I"⟩
theorem d_A_size_0 : decode b_A_size 0 = .ok (.aload_n 0, 1) := by decide +kernel
theorem d_A_size_1 : decode b_A_size 1 = .ok (.getfield 48, 3) := by decide +kernel
theorem d_A_size_4 : decode b_A_size 4 = .ok (.ireturn, 1) := by decide +kernel
abbrev b_Ac_init : ByteArray := prog_21_method_1_code
def y_Ac_init : MethodName := ⟨"java/util/AbstractCollection", "<init>", "()V"⟩
theorem d_Ac_init_0 : decode b_Ac_init 0 = .ok (.aload_n 0, 1) := by decide +kernel
theorem d_Ac_init_1 : decode b_Ac_init 1 = .ok (.invokespecial 1, 3) := by decide +kernel
theorem d_Ac_init_4 : decode b_Ac_init 4 = .ok (.return_, 1) := by decide +kernel
abbrev b_Al_init : ByteArray := prog_22_method_1_code
def y_Al_init : MethodName := ⟨"java/util/AbstractList", "<init>", "()V"⟩
theorem d_Al_init_0 : decode b_Al_init 0 = .ok (.aload_n 0, 1) := by decide +kernel
theorem d_Al_init_1 : decode b_Al_init 1 = .ok (.invokespecial 1, 3) := by decide +kernel
theorem d_Al_init_4 : decode b_Al_init 4 = .ok (.aload_n 0, 1) := by decide +kernel
theorem d_Al_init_5 : decode b_Al_init 5 = .ok (.iconst 0, 1) := by decide +kernel
theorem d_Al_init_6 : decode b_Al_init 6 = .ok (.putfield 7, 3) := by decide +kernel
theorem d_Al_init_9 : decode b_Al_init 9 = .ok (.return_, 1) := by decide +kernel
abbrev b_Ar_copyOf_aOI : ByteArray := prog_24_method_119_code
def y_Ar_copyOf_aOI : MethodName := ⟨"java/util/Arrays", "copyOf", "([Ljava/lang/Object;I)[Ljava/lang/Object;"⟩
theorem d_Ar_copyOf_aOI_0 : decode b_Ar_copyOf_aOI 0 = .ok (.aload_n 0, 1) := by decide +kernel
theorem d_Ar_copyOf_aOI_1 : decode b_Ar_copyOf_aOI 1 = .ok (.iload_n 1, 1) := by decide +kernel
theorem d_Ar_copyOf_aOI_2 : decode b_Ar_copyOf_aOI 2 = .ok (.aload_n 0, 1) := by decide +kernel
theorem d_Ar_copyOf_aOI_3 : decode b_Ar_copyOf_aOI 3 = .ok (.invokevirtual 86, 3) := by decide +kernel
theorem d_Ar_copyOf_aOI_6 : decode b_Ar_copyOf_aOI 6 = .ok (.invokestatic 300, 3) := by decide +kernel
theorem d_Ar_copyOf_aOI_9 : decode b_Ar_copyOf_aOI 9 = .ok (.areturn, 1) := by decide +kernel
abbrev b_Ar_copyOf_aOIC : ByteArray := prog_24_method_120_code
def y_Ar_copyOf_aOIC : MethodName := ⟨"java/util/Arrays", "copyOf", "([Ljava/lang/Object;ILjava/lang/Class;)[Ljava/lang/Object;"⟩
theorem d_Ar_copyOf_aOIC_0 : decode b_Ar_copyOf_aOIC 0 = .ok (.aload_n 2, 1) := by decide +kernel
theorem d_Ar_copyOf_aOIC_1 : decode b_Ar_copyOf_aOIC 1 = .ok (.ldc 110, 2) := by decide +kernel
theorem d_Ar_copyOf_aOIC_3 : decode b_Ar_copyOf_aOIC 3 = .ok (.if_acmp .ne 10, 3) := by decide +kernel
theorem d_Ar_copyOf_aOIC_6 : decode b_Ar_copyOf_aOIC 6 = .ok (.iload_n 1, 1) := by decide +kernel
theorem d_Ar_copyOf_aOIC_7 : decode b_Ar_copyOf_aOIC 7 = .ok (.anewarray 2, 3) := by decide +kernel
theorem d_Ar_copyOf_aOIC_10 : decode b_Ar_copyOf_aOIC 10 = .ok (.goto 14, 3) := by decide +kernel
theorem d_Ar_copyOf_aOIC_13 : decode b_Ar_copyOf_aOIC 13 = .ok (.aload_n 2, 1) := by decide +kernel
theorem d_Ar_copyOf_aOIC_14 : decode b_Ar_copyOf_aOIC 14 = .ok (.invokevirtual 90, 3) := by decide +kernel
theorem d_Ar_copyOf_aOIC_17 : decode b_Ar_copyOf_aOIC 17 = .ok (.iload_n 1, 1) := by decide +kernel
theorem d_Ar_copyOf_aOIC_18 : decode b_Ar_copyOf_aOIC 18 = .ok (.invokestatic 95, 3) := by decide +kernel
theorem d_Ar_copyOf_aOIC_21 : decode b_Ar_copyOf_aOIC 21 = .ok (.checkcast 110, 3) := by decide +kernel
theorem d_Ar_copyOf_aOIC_24 : decode b_Ar_copyOf_aOIC 24 = .ok (.astore_n 3, 1) := by decide +kernel
theorem d_Ar_copyOf_aOIC_25 : decode b_Ar_copyOf_aOIC 25 = .ok (.aload_n 0, 1) := by decide +kernel
theorem d_Ar_copyOf_aOIC_26 : decode b_Ar_copyOf_aOIC 26 = .ok (.iconst 0, 1) := by decide +kernel
theorem d_Ar_copyOf_aOIC_27 : decode b_Ar_copyOf_aOIC 27 = .ok (.aload_n 3, 1) := by decide +kernel
theorem d_Ar_copyOf_aOIC_28 : decode b_Ar_copyOf_aOIC 28 = .ok (.iconst 0, 1) := by decide +kernel
theorem d_Ar_copyOf_aOIC_29 : decode b_Ar_copyOf_aOIC 29 = .ok (.aload_n 0, 1) := by decide +kernel
theorem d_Ar_copyOf_aOIC_30 : decode b_Ar_copyOf_aOIC 30 = .ok (.arraylength, 1) := by decide +kernel
theorem d_Ar_copyOf_aOIC_31 : decode b_Ar_copyOf_aOIC 31 = .ok (.iload_n 1, 1) := by decide +kernel
theorem d_Ar_copyOf_aOIC_32 : decode b_Ar_copyOf_aOIC 32 = .ok (.invokestatic 304, 3) := by decide +kernel
theorem d_Ar_copyOf_aOIC_35 : decode b_Ar_copyOf_aOIC 35 = .ok (.invokestatic 150, 3) := by decide +kernel
theorem d_Ar_copyOf_aOIC_38 : decode b_Ar_copyOf_aOIC 38 = .ok (.aload_n 3, 1) := by decide +kernel
theorem d_Ar_copyOf_aOIC_39 : decode b_Ar_copyOf_aOIC 39 = .ok (.areturn, 1) := by decide +kernel
abbrev b_As_hugeLength : ByteArray := prog_30_method_28_code
def y_As_hugeLength : MethodName := ⟨"jdk/internal/util/ArraysSupport", "hugeLength", "(II)I"⟩
theorem d_As_hugeLength_0 : decode b_As_hugeLength 0 = .ok (.iload_n 0, 1) := by decide +kernel
theorem d_As_hugeLength_1 : decode b_As_hugeLength 1 = .ok (.iload_n 1, 1) := by decide +kernel
theorem d_As_hugeLength_2 : decode b_As_hugeLength 2 = .ok (.iadd, 1) := by decide +kernel
theorem d_As_hugeLength_3 : decode b_As_hugeLength 3 = .ok (.istore_n 2, 1) := by decide +kernel
theorem d_As_hugeLength_4 : decode b_As_hugeLength 4 = .ok (.iload_n 2, 1) := by decide +kernel
theorem d_As_hugeLength_5 : decode b_As_hugeLength 5 = .ok (.ifCond .ge 44, 3) := by decide +kernel
theorem d_As_hugeLength_8 : decode b_As_hugeLength 8 = .ok (.new 204, 3) := by decide +kernel
theorem d_As_hugeLength_11 : decode b_As_hugeLength 11 = .ok (.dup, 1) := by decide +kernel
theorem d_As_hugeLength_12 : decode b_As_hugeLength 12 = .ok (.new 89, 3) := by decide +kernel
theorem d_As_hugeLength_15 : decode b_As_hugeLength 15 = .ok (.dup, 1) := by decide +kernel
theorem d_As_hugeLength_16 : decode b_As_hugeLength 16 = .ok (.invokespecial 91, 3) := by decide +kernel
theorem d_As_hugeLength_19 : decode b_As_hugeLength 19 = .ok (.ldc 206, 2) := by decide +kernel
theorem d_As_hugeLength_21 : decode b_As_hugeLength 21 = .ok (.invokevirtual 94, 3) := by decide +kernel
theorem d_As_hugeLength_24 : decode b_As_hugeLength 24 = .ok (.iload_n 0, 1) := by decide +kernel
theorem d_As_hugeLength_25 : decode b_As_hugeLength 25 = .ok (.invokevirtual 98, 3) := by decide +kernel
theorem d_As_hugeLength_28 : decode b_As_hugeLength 28 = .ok (.ldc 208, 2) := by decide +kernel
theorem d_As_hugeLength_30 : decode b_As_hugeLength 30 = .ok (.invokevirtual 94, 3) := by decide +kernel
theorem d_As_hugeLength_33 : decode b_As_hugeLength 33 = .ok (.iload_n 1, 1) := by decide +kernel
theorem d_As_hugeLength_34 : decode b_As_hugeLength 34 = .ok (.invokevirtual 98, 3) := by decide +kernel
theorem d_As_hugeLength_37 : decode b_As_hugeLength 37 = .ok (.ldc 210, 2) := by decide +kernel
theorem d_As_hugeLength_39 : decode b_As_hugeLength 39 = .ok (.invokevirtual 94, 3) := by decide +kernel
theorem d_As_hugeLength_42 : decode b_As_hugeLength 42 = .ok (.invokevirtual 101, 3) := by decide +kernel
theorem d_As_hugeLength_45 : decode b_As_hugeLength 45 = .ok (.invokespecial 212, 3) := by decide +kernel
theorem d_As_hugeLength_48 : decode b_As_hugeLength 48 = .ok (.athrow, 1) := by decide +kernel
theorem d_As_hugeLength_49 : decode b_As_hugeLength 49 = .ok (.iload_n 2, 1) := by decide +kernel
theorem d_As_hugeLength_50 : decode b_As_hugeLength 50 = .ok (.ldc 200, 2) := by decide +kernel
theorem d_As_hugeLength_52 : decode b_As_hugeLength 52 = .ok (.if_icmp .gt 6, 3) := by decide +kernel
theorem d_As_hugeLength_55 : decode b_As_hugeLength 55 = .ok (.ldc 200, 2) := by decide +kernel
theorem d_As_hugeLength_57 : decode b_As_hugeLength 57 = .ok (.ireturn, 1) := by decide +kernel
theorem d_As_hugeLength_58 : decode b_As_hugeLength 58 = .ok (.iload_n 2, 1) := by decide +kernel
theorem d_As_hugeLength_59 : decode b_As_hugeLength 59 = .ok (.ireturn, 1) := by decide +kernel
abbrev b_As_newLength : ByteArray := prog_30_method_27_code
def y_As_newLength : MethodName := ⟨"jdk/internal/util/ArraysSupport", "newLength", "(III)I"⟩
theorem d_As_newLength_0 : decode b_As_newLength 0 = .ok (.iload_n 0, 1) := by decide +kernel
theorem d_As_newLength_1 : decode b_As_newLength 1 = .ok (.iload_n 1, 1) := by decide +kernel
theorem d_As_newLength_2 : decode b_As_newLength 2 = .ok (.iload_n 2, 1) := by decide +kernel
theorem d_As_newLength_3 : decode b_As_newLength 3 = .ok (.invokestatic 194, 3) := by decide +kernel
theorem d_As_newLength_6 : decode b_As_newLength 6 = .ok (.iadd, 1) := by decide +kernel
theorem d_As_newLength_7 : decode b_As_newLength 7 = .ok (.istore_n 3, 1) := by decide +kernel
theorem d_As_newLength_8 : decode b_As_newLength 8 = .ok (.iconst 0, 1) := by decide +kernel
theorem d_As_newLength_9 : decode b_As_newLength 9 = .ok (.iload_n 3, 1) := by decide +kernel
theorem d_As_newLength_10 : decode b_As_newLength 10 = .ok (.if_icmp .ge 11, 3) := by decide +kernel
theorem d_As_newLength_13 : decode b_As_newLength 13 = .ok (.iload_n 3, 1) := by decide +kernel
theorem d_As_newLength_14 : decode b_As_newLength 14 = .ok (.ldc 200, 2) := by decide +kernel
theorem d_As_newLength_16 : decode b_As_newLength 16 = .ok (.if_icmp .gt 5, 3) := by decide +kernel
theorem d_As_newLength_19 : decode b_As_newLength 19 = .ok (.iload_n 3, 1) := by decide +kernel
theorem d_As_newLength_20 : decode b_As_newLength 20 = .ok (.ireturn, 1) := by decide +kernel
theorem d_As_newLength_21 : decode b_As_newLength 21 = .ok (.iload_n 0, 1) := by decide +kernel
theorem d_As_newLength_22 : decode b_As_newLength 22 = .ok (.iload_n 1, 1) := by decide +kernel
theorem d_As_newLength_23 : decode b_As_newLength 23 = .ok (.invokestatic 201, 3) := by decide +kernel
theorem d_As_newLength_26 : decode b_As_newLength 26 = .ok (.ireturn, 1) := by decide +kernel
abbrev b_Ma_abs : ByteArray := prog_15_method_61_code
def y_Ma_abs : MethodName := ⟨"java/lang/Math", "abs", "(J)J"⟩
theorem d_Ma_abs_0 : decode b_Ma_abs 0 = .ok (.lload_n 0, 1) := by decide +kernel
theorem d_Ma_abs_1 : decode b_Ma_abs 1 = .ok (.lconst 0, 1) := by decide +kernel
theorem d_Ma_abs_2 : decode b_Ma_abs 2 = .ok (.lcmp, 1) := by decide +kernel
theorem d_Ma_abs_3 : decode b_Ma_abs 3 = .ok (.ifCond .ge 8, 3) := by decide +kernel
theorem d_Ma_abs_6 : decode b_Ma_abs 6 = .ok (.lload_n 0, 1) := by decide +kernel
theorem d_Ma_abs_7 : decode b_Ma_abs 7 = .ok (.lneg, 1) := by decide +kernel
theorem d_Ma_abs_8 : decode b_Ma_abs 8 = .ok (.goto 4, 3) := by decide +kernel
theorem d_Ma_abs_11 : decode b_Ma_abs 11 = .ok (.lload_n 0, 1) := by decide +kernel
theorem d_Ma_abs_12 : decode b_Ma_abs 12 = .ok (.lreturn, 1) := by decide +kernel
abbrev b_Ma_max_II : ByteArray := prog_15_method_65_code
def y_Ma_max_II : MethodName := ⟨"java/lang/Math", "max", "(II)I"⟩
theorem d_Ma_max_II_0 : decode b_Ma_max_II 0 = .ok (.iload_n 0, 1) := by decide +kernel
theorem d_Ma_max_II_1 : decode b_Ma_max_II 1 = .ok (.iload_n 1, 1) := by decide +kernel
theorem d_Ma_max_II_2 : decode b_Ma_max_II 2 = .ok (.if_icmp .lt 7, 3) := by decide +kernel
theorem d_Ma_max_II_5 : decode b_Ma_max_II 5 = .ok (.iload_n 0, 1) := by decide +kernel
theorem d_Ma_max_II_6 : decode b_Ma_max_II 6 = .ok (.goto 4, 3) := by decide +kernel
theorem d_Ma_max_II_9 : decode b_Ma_max_II 9 = .ok (.iload_n 1, 1) := by decide +kernel
theorem d_Ma_max_II_10 : decode b_Ma_max_II 10 = .ok (.ireturn, 1) := by decide +kernel
abbrev b_Ma_max_JJ : ByteArray := prog_15_method_66_code
def y_Ma_max_JJ : MethodName := ⟨"java/lang/Math", "max", "(JJ)J"⟩
theorem d_Ma_max_JJ_0 : decode b_Ma_max_JJ 0 = .ok (.lload_n 0, 1) := by decide +kernel
theorem d_Ma_max_JJ_1 : decode b_Ma_max_JJ 1 = .ok (.lload_n 2, 1) := by decide +kernel
theorem d_Ma_max_JJ_2 : decode b_Ma_max_JJ 2 = .ok (.lcmp, 1) := by decide +kernel
theorem d_Ma_max_JJ_3 : decode b_Ma_max_JJ 3 = .ok (.ifCond .lt 7, 3) := by decide +kernel
theorem d_Ma_max_JJ_6 : decode b_Ma_max_JJ 6 = .ok (.lload_n 0, 1) := by decide +kernel
theorem d_Ma_max_JJ_7 : decode b_Ma_max_JJ 7 = .ok (.goto 4, 3) := by decide +kernel
theorem d_Ma_max_JJ_10 : decode b_Ma_max_JJ 10 = .ok (.lload_n 2, 1) := by decide +kernel
theorem d_Ma_max_JJ_11 : decode b_Ma_max_JJ 11 = .ok (.lreturn, 1) := by decide +kernel
abbrev b_Ma_min_II : ByteArray := prog_15_method_69_code
def y_Ma_min_II : MethodName := ⟨"java/lang/Math", "min", "(II)I"⟩
theorem d_Ma_min_II_0 : decode b_Ma_min_II 0 = .ok (.iload_n 0, 1) := by decide +kernel
theorem d_Ma_min_II_1 : decode b_Ma_min_II 1 = .ok (.iload_n 1, 1) := by decide +kernel
theorem d_Ma_min_II_2 : decode b_Ma_min_II 2 = .ok (.if_icmp .gt 7, 3) := by decide +kernel
theorem d_Ma_min_II_5 : decode b_Ma_min_II 5 = .ok (.iload_n 0, 1) := by decide +kernel
theorem d_Ma_min_II_6 : decode b_Ma_min_II 6 = .ok (.goto 4, 3) := by decide +kernel
theorem d_Ma_min_II_9 : decode b_Ma_min_II 9 = .ok (.iload_n 1, 1) := by decide +kernel
theorem d_Ma_min_II_10 : decode b_Ma_min_II 10 = .ok (.ireturn, 1) := by decide +kernel
abbrev b_Ma_min_JJ : ByteArray := prog_15_method_70_code
def y_Ma_min_JJ : MethodName := ⟨"java/lang/Math", "min", "(JJ)J"⟩
theorem d_Ma_min_JJ_0 : decode b_Ma_min_JJ 0 = .ok (.lload_n 0, 1) := by decide +kernel
theorem d_Ma_min_JJ_1 : decode b_Ma_min_JJ 1 = .ok (.lload_n 2, 1) := by decide +kernel
theorem d_Ma_min_JJ_2 : decode b_Ma_min_JJ 2 = .ok (.lcmp, 1) := by decide +kernel
theorem d_Ma_min_JJ_3 : decode b_Ma_min_JJ 3 = .ok (.ifCond .gt 7, 3) := by decide +kernel
theorem d_Ma_min_JJ_6 : decode b_Ma_min_JJ 6 = .ok (.lload_n 0, 1) := by decide +kernel
theorem d_Ma_min_JJ_7 : decode b_Ma_min_JJ 7 = .ok (.goto 4, 3) := by decide +kernel
theorem d_Ma_min_JJ_10 : decode b_Ma_min_JJ 10 = .ok (.lload_n 2, 1) := by decide +kernel
theorem d_Ma_min_JJ_11 : decode b_Ma_min_JJ 11 = .ok (.lreturn, 1) := by decide +kernel
abbrev b_O_init : ByteArray := object_method_1_code
def y_O_init : MethodName := ⟨"java/lang/Object", "<init>", "()V"⟩
theorem d_O_init_0 : decode b_O_init 0 = .ok (.return_, 1) := by decide +kernel
abbrev b_Ob_checkIndex : ByteArray := prog_27_method_17_code
def y_Ob_checkIndex : MethodName := ⟨"java/util/Objects", "checkIndex", "(II)I"⟩
theorem d_Ob_checkIndex_0 : decode b_Ob_checkIndex 0 = .ok (.iload_n 0, 1) := by decide +kernel
theorem d_Ob_checkIndex_1 : decode b_Ob_checkIndex 1 = .ok (.iload_n 1, 1) := by decide +kernel
theorem d_Ob_checkIndex_2 : decode b_Ob_checkIndex 2 = .ok (.aconst_null, 1) := by decide +kernel
theorem d_Ob_checkIndex_3 : decode b_Ob_checkIndex 3 = .ok (.invokestatic 105, 3) := by decide +kernel
theorem d_Ob_checkIndex_6 : decode b_Ob_checkIndex 6 = .ok (.ireturn, 1) := by decide +kernel
abbrev b_Pr_checkIndex : ByteArray := prog_31_method_11_code
def y_Pr_checkIndex : MethodName := ⟨"jdk/internal/util/Preconditions", "checkIndex", "(IILjava/util/function/BiFunction;)I"⟩
theorem d_Pr_checkIndex_0 : decode b_Pr_checkIndex 0 = .ok (.iload_n 0, 1) := by decide +kernel
theorem d_Pr_checkIndex_1 : decode b_Pr_checkIndex 1 = .ok (.ifCond .lt 8, 3) := by decide +kernel
theorem d_Pr_checkIndex_4 : decode b_Pr_checkIndex 4 = .ok (.iload_n 0, 1) := by decide +kernel
theorem d_Pr_checkIndex_5 : decode b_Pr_checkIndex 5 = .ok (.iload_n 1, 1) := by decide +kernel
theorem d_Pr_checkIndex_6 : decode b_Pr_checkIndex 6 = .ok (.if_icmp .lt 10, 3) := by decide +kernel
theorem d_Pr_checkIndex_9 : decode b_Pr_checkIndex 9 = .ok (.aload_n 2, 1) := by decide +kernel
theorem d_Pr_checkIndex_10 : decode b_Pr_checkIndex 10 = .ok (.iload_n 0, 1) := by decide +kernel
theorem d_Pr_checkIndex_11 : decode b_Pr_checkIndex 11 = .ok (.iload_n 1, 1) := by decide +kernel
theorem d_Pr_checkIndex_12 : decode b_Pr_checkIndex 12 = .ok (.invokestatic 95, 3) := by decide +kernel
theorem d_Pr_checkIndex_15 : decode b_Pr_checkIndex 15 = .ok (.athrow, 1) := by decide +kernel
theorem d_Pr_checkIndex_16 : decode b_Pr_checkIndex 16 = .ok (.iload_n 0, 1) := by decide +kernel
theorem d_Pr_checkIndex_17 : decode b_Pr_checkIndex 17 = .ok (.ireturn, 1) := by decide +kernel
end
section
/-! printed: methods and their instructions -/
abbrev b_B_init : ByteArray := prog_2_method_1_code
def y_B_init : MethodName := ⟨"BoxDesk$Box", "<init>", "(LBoxDesk$ItemList;LBoxDesk$Measure;I)V"⟩
theorem d_B_init_0 : decode b_B_init 0 = .ok (.aload_n 0, 1) := by decide +kernel
theorem d_B_init_1 : decode b_B_init 1 = .ok (.invokespecial 1, 3) := by decide +kernel
theorem d_B_init_4 : decode b_B_init 4 = .ok (.aload_n 0, 1) := by decide +kernel
theorem d_B_init_5 : decode b_B_init 5 = .ok (.aload_n 1, 1) := by decide +kernel
theorem d_B_init_6 : decode b_B_init 6 = .ok (.putfield 7, 3) := by decide +kernel
theorem d_B_init_9 : decode b_B_init 9 = .ok (.aload_n 0, 1) := by decide +kernel
theorem d_B_init_10 : decode b_B_init 10 = .ok (.aload_n 1, 1) := by decide +kernel
theorem d_B_init_11 : decode b_B_init 11 = .ok (.aload_n 2, 1) := by decide +kernel
theorem d_B_init_12 : decode b_B_init 12 = .ok (.iload_n 3, 1) := by decide +kernel
theorem d_B_init_13 : decode b_B_init 13 = .ok (.i2l, 1) := by decide +kernel
theorem d_B_init_14 : decode b_B_init 14 = .ok (.aload_n 2, 1) := by decide +kernel
theorem d_B_init_15 : decode b_B_init 15 = .ok (.getfield 13, 3) := by decide +kernel
theorem d_B_init_18 : decode b_B_init 18 = .ok (.lsub, 1) := by decide +kernel
theorem d_B_init_19 : decode b_B_init 19 = .ok (.invokestatic 19, 3) := by decide +kernel
theorem d_B_init_22 : decode b_B_init 22 = .ok (.putfield 25, 3) := by decide +kernel
theorem d_B_init_25 : decode b_B_init 25 = .ok (.aload_n 0, 1) := by decide +kernel
theorem d_B_init_26 : decode b_B_init 26 = .ok (.aload_n 2, 1) := by decide +kernel
theorem d_B_init_27 : decode b_B_init 27 = .ok (.getfield 29, 3) := by decide +kernel
theorem d_B_init_30 : decode b_B_init 30 = .ok (.putfield 33, 3) := by decide +kernel
theorem d_B_init_33 : decode b_B_init 33 = .ok (.aload_n 0, 1) := by decide +kernel
theorem d_B_init_34 : decode b_B_init 34 = .ok (.aload_n 2, 1) := by decide +kernel
theorem d_B_init_35 : decode b_B_init 35 = .ok (.getfield 34, 3) := by decide +kernel
theorem d_B_init_38 : decode b_B_init 38 = .ok (.iconst 1, 1) := by decide +kernel
theorem d_B_init_39 : decode b_B_init 39 = .ok (.iadd, 1) := by decide +kernel
theorem d_B_init_40 : decode b_B_init 40 = .ok (.putfield 37, 3) := by decide +kernel
theorem d_B_init_43 : decode b_B_init 43 = .ok (.aload_n 0, 1) := by decide +kernel
theorem d_B_init_44 : decode b_B_init 44 = .ok (.aload_n 1, 1) := by decide +kernel
theorem d_B_init_45 : decode b_B_init 45 = .ok (.getfield 40, 3) := by decide +kernel
theorem d_B_init_48 : decode b_B_init 48 = .ok (.ifCond .eq 11, 3) := by decide +kernel
theorem d_B_init_51 : decode b_B_init 51 = .ok (.aload_n 2, 1) := by decide +kernel
theorem d_B_init_52 : decode b_B_init 52 = .ok (.getfield 46, 3) := by decide +kernel
theorem d_B_init_55 : decode b_B_init 55 = .ok (.l2i, 1) := by decide +kernel
theorem d_B_init_56 : decode b_B_init 56 = .ok (.goto 4, 3) := by decide +kernel
theorem d_B_init_59 : decode b_B_init 59 = .ok (.iload_n 3, 1) := by decide +kernel
theorem d_B_init_60 : decode b_B_init 60 = .ok (.putfield 49, 3) := by decide +kernel
theorem d_B_init_63 : decode b_B_init 63 = .ok (.aload_n 0, 1) := by decide +kernel
theorem d_B_init_64 : decode b_B_init 64 = .ok (.aload_n 1, 1) := by decide +kernel
theorem d_B_init_65 : decode b_B_init 65 = .ok (.getfield 40, 3) := by decide +kernel
theorem d_B_init_68 : decode b_B_init 68 = .ok (.ifCond .eq 7, 3) := by decide +kernel
theorem d_B_init_71 : decode b_B_init 71 = .ok (.iload_n 3, 1) := by decide +kernel
theorem d_B_init_72 : decode b_B_init 72 = .ok (.goto 8, 3) := by decide +kernel
theorem d_B_init_75 : decode b_B_init 75 = .ok (.aload_n 2, 1) := by decide +kernel
theorem d_B_init_76 : decode b_B_init 76 = .ok (.getfield 52, 3) := by decide +kernel
theorem d_B_init_79 : decode b_B_init 79 = .ok (.l2i, 1) := by decide +kernel
theorem d_B_init_80 : decode b_B_init 80 = .ok (.putfield 55, 3) := by decide +kernel
theorem d_B_init_83 : decode b_B_init 83 = .ok (.aload_n 0, 1) := by decide +kernel
theorem d_B_init_84 : decode b_B_init 84 = .ok (.aload_n 2, 1) := by decide +kernel
theorem d_B_init_85 : decode b_B_init 85 = .ok (.getfield 57, 3) := by decide +kernel
theorem d_B_init_88 : decode b_B_init 88 = .ok (.l2i, 1) := by decide +kernel
theorem d_B_init_89 : decode b_B_init 89 = .ok (.putfield 60, 3) := by decide +kernel
theorem d_B_init_92 : decode b_B_init 92 = .ok (.return_, 1) := by decide +kernel
abbrev b_B_tell : ByteArray := prog_2_method_2_code
def y_B_tell : MethodName := ⟨"BoxDesk$Box", "tell", "(I)I"⟩
theorem d_B_tell_0 : decode b_B_tell 0 = .ok (.iload_n 1, 1) := by decide +kernel
theorem d_B_tell_1 : decode b_B_tell 1 = .ok (.tableswitch 77 0 4 #[35, 51, 56, 61, 66], 35) := by decide +kernel
theorem d_B_tell_36 : decode b_B_tell 36 = .ok (.aload_n 0, 1) := by decide +kernel
theorem d_B_tell_37 : decode b_B_tell 37 = .ok (.getfield 7, 3) := by decide +kernel
theorem d_B_tell_40 : decode b_B_tell 40 = .ok (.getfield 40, 3) := by decide +kernel
theorem d_B_tell_43 : decode b_B_tell 43 = .ok (.ifCond .eq 7, 3) := by decide +kernel
theorem d_B_tell_46 : decode b_B_tell 46 = .ok (.iconst 2, 1) := by decide +kernel
theorem d_B_tell_47 : decode b_B_tell 47 = .ok (.goto 4, 3) := by decide +kernel
theorem d_B_tell_50 : decode b_B_tell 50 = .ok (.iconst 1, 1) := by decide +kernel
theorem d_B_tell_51 : decode b_B_tell 51 = .ok (.ireturn, 1) := by decide +kernel
theorem d_B_tell_52 : decode b_B_tell 52 = .ok (.aload_n 0, 1) := by decide +kernel
theorem d_B_tell_53 : decode b_B_tell 53 = .ok (.getfield 49, 3) := by decide +kernel
theorem d_B_tell_56 : decode b_B_tell 56 = .ok (.ireturn, 1) := by decide +kernel
theorem d_B_tell_57 : decode b_B_tell 57 = .ok (.aload_n 0, 1) := by decide +kernel
theorem d_B_tell_58 : decode b_B_tell 58 = .ok (.getfield 55, 3) := by decide +kernel
theorem d_B_tell_61 : decode b_B_tell 61 = .ok (.ireturn, 1) := by decide +kernel
theorem d_B_tell_62 : decode b_B_tell 62 = .ok (.aload_n 0, 1) := by decide +kernel
theorem d_B_tell_63 : decode b_B_tell 63 = .ok (.getfield 60, 3) := by decide +kernel
theorem d_B_tell_66 : decode b_B_tell 66 = .ok (.ireturn, 1) := by decide +kernel
theorem d_B_tell_67 : decode b_B_tell 67 = .ok (.aload_n 0, 1) := by decide +kernel
theorem d_B_tell_68 : decode b_B_tell 68 = .ok (.getfield 7, 3) := by decide +kernel
theorem d_B_tell_71 : decode b_B_tell 71 = .ok (.getfield 62, 3) := by decide +kernel
theorem d_B_tell_74 : decode b_B_tell 74 = .ok (.invokevirtual 66, 3) := by decide +kernel
theorem d_B_tell_77 : decode b_B_tell 77 = .ok (.ireturn, 1) := by decide +kernel
theorem d_B_tell_78 : decode b_B_tell 78 = .ok (.aload_n 0, 1) := by decide +kernel
theorem d_B_tell_79 : decode b_B_tell 79 = .ok (.getfield 33, 3) := by decide +kernel
theorem d_B_tell_82 : decode b_B_tell 82 = .ok (.ireturn, 1) := by decide +kernel
abbrev b_D_about : ByteArray := prog_1_method_12_code
def y_D_about : MethodName := ⟨"BoxDesk", "about", "(II)I"⟩
theorem d_D_about_0 : decode b_D_about 0 = .ok (.iload_n 1, 1) := by decide +kernel
theorem d_D_about_1 : decode b_D_about 1 = .ok (.invokestatic 71, 3) := by decide +kernel
theorem d_D_about_4 : decode b_D_about 4 = .ok (.ifCond .eq 12, 3) := by decide +kernel
theorem d_D_about_7 : decode b_D_about 7 = .ok (.iload_n 2, 1) := by decide +kernel
theorem d_D_about_8 : decode b_D_about 8 = .ok (.ifCond .lt 8, 3) := by decide +kernel
theorem d_D_about_11 : decode b_D_about 11 = .ok (.iload_n 2, 1) := by decide +kernel
theorem d_D_about_12 : decode b_D_about 12 = .ok (.iconst 5, 1) := by decide +kernel
theorem d_D_about_13 : decode b_D_about 13 = .ok (.if_icmp .le 13, 3) := by decide +kernel
theorem d_D_about_16 : decode b_D_about 16 = .ok (.new 152, 3) := by decide +kernel
theorem d_D_about_19 : decode b_D_about 19 = .ok (.dup, 1) := by decide +kernel
theorem d_D_about_20 : decode b_D_about 20 = .ok (.ldc 154, 2) := by decide +kernel
theorem d_D_about_22 : decode b_D_about 22 = .ok (.invokespecial 156, 3) := by decide +kernel
theorem d_D_about_25 : decode b_D_about 25 = .ok (.athrow, 1) := by decide +kernel
theorem d_D_about_26 : decode b_D_about 26 = .ok (.aload_n 0, 1) := by decide +kernel
theorem d_D_about_27 : decode b_D_about 27 = .ok (.getfield 17, 3) := by decide +kernel
theorem d_D_about_30 : decode b_D_about 30 = .ok (.iload_n 1, 1) := by decide +kernel
theorem d_D_about_31 : decode b_D_about 31 = .ok (.aaload, 1) := by decide +kernel
theorem d_D_about_32 : decode b_D_about 32 = .ok (.astore_n 3, 1) := by decide +kernel
theorem d_D_about_33 : decode b_D_about 33 = .ok (.aload_n 3, 1) := by decide +kernel
theorem d_D_about_34 : decode b_D_about 34 = .ok (.ifnonnull 7, 3) := by decide +kernel
theorem d_D_about_37 : decode b_D_about 37 = .ok (.iconst 0, 1) := by decide +kernel
theorem d_D_about_38 : decode b_D_about 38 = .ok (.goto 8, 3) := by decide +kernel
theorem d_D_about_41 : decode b_D_about 41 = .ok (.aload_n 3, 1) := by decide +kernel
theorem d_D_about_42 : decode b_D_about 42 = .ok (.iload_n 2, 1) := by decide +kernel
theorem d_D_about_43 : decode b_D_about 43 = .ok (.invokevirtual 157, 3) := by decide +kernel
theorem d_D_about_46 : decode b_D_about 46 = .ok (.ireturn, 1) := by decide +kernel
abbrev b_D_areSizes : ByteArray := prog_1_method_21_code
def y_D_areSizes : MethodName := ⟨"BoxDesk", "areSizes", "(III)Z"⟩
theorem d_D_areSizes_0 : decode b_D_areSizes 0 = .ok (.iload_n 0, 1) := by decide +kernel
theorem d_D_areSizes_1 : decode b_D_areSizes 1 = .ok (.i2l, 1) := by decide +kernel
theorem d_D_areSizes_2 : decode b_D_areSizes 2 = .ok (.invokestatic 56, 3) := by decide +kernel
theorem d_D_areSizes_5 : decode b_D_areSizes 5 = .ok (.ifCond .eq 23, 3) := by decide +kernel
theorem d_D_areSizes_8 : decode b_D_areSizes 8 = .ok (.iload_n 1, 1) := by decide +kernel
theorem d_D_areSizes_9 : decode b_D_areSizes 9 = .ok (.i2l, 1) := by decide +kernel
theorem d_D_areSizes_10 : decode b_D_areSizes 10 = .ok (.invokestatic 56, 3) := by decide +kernel
theorem d_D_areSizes_13 : decode b_D_areSizes 13 = .ok (.ifCond .eq 15, 3) := by decide +kernel
theorem d_D_areSizes_16 : decode b_D_areSizes 16 = .ok (.iload_n 2, 1) := by decide +kernel
theorem d_D_areSizes_17 : decode b_D_areSizes 17 = .ok (.i2l, 1) := by decide +kernel
theorem d_D_areSizes_18 : decode b_D_areSizes 18 = .ok (.invokestatic 56, 3) := by decide +kernel
theorem d_D_areSizes_21 : decode b_D_areSizes 21 = .ok (.ifCond .eq 7, 3) := by decide +kernel
theorem d_D_areSizes_24 : decode b_D_areSizes 24 = .ok (.iconst 1, 1) := by decide +kernel
theorem d_D_areSizes_25 : decode b_D_areSizes 25 = .ok (.goto 4, 3) := by decide +kernel
theorem d_D_areSizes_28 : decode b_D_areSizes 28 = .ok (.iconst 0, 1) := by decide +kernel
theorem d_D_areSizes_29 : decode b_D_areSizes 29 = .ok (.ireturn, 1) := by decide +kernel
abbrev b_D_asSetWidth : ByteArray := prog_1_method_25_code
def y_D_asSetWidth : MethodName := ⟨"BoxDesk", "asSetWidth", "(J)I"⟩
theorem d_D_asSetWidth_0 : decode b_D_asSetWidth 0 = .ok (.ldc2_w 223, 3) := by decide +kernel
theorem d_D_asSetWidth_3 : decode b_D_asSetWidth 3 = .ok (.ldc2_w 225, 3) := by decide +kernel
theorem d_D_asSetWidth_6 : decode b_D_asSetWidth 6 = .ok (.lload_n 0, 1) := by decide +kernel
theorem d_D_asSetWidth_7 : decode b_D_asSetWidth 7 = .ok (.invokestatic 227, 3) := by decide +kernel
theorem d_D_asSetWidth_10 : decode b_D_asSetWidth 10 = .ok (.invokestatic 203, 3) := by decide +kernel
theorem d_D_asSetWidth_13 : decode b_D_asSetWidth 13 = .ok (.l2i, 1) := by decide +kernel
theorem d_D_asSetWidth_14 : decode b_D_asSetWidth 14 = .ok (.ireturn, 1) := by decide +kernel
abbrev b_D_boxIn : ByteArray := prog_1_method_16_code
def y_D_boxIn : MethodName := ⟨"BoxDesk", "boxIn", "(I)LBoxDesk$Box;"⟩
theorem d_D_boxIn_0 : decode b_D_boxIn 0 = .ok (.iload_n 1, 1) := by decide +kernel
theorem d_D_boxIn_1 : decode b_D_boxIn 1 = .ok (.invokestatic 71, 3) := by decide +kernel
theorem d_D_boxIn_4 : decode b_D_boxIn 4 = .ok (.ifCond .eq 12, 3) := by decide +kernel
theorem d_D_boxIn_7 : decode b_D_boxIn 7 = .ok (.aload_n 0, 1) := by decide +kernel
theorem d_D_boxIn_8 : decode b_D_boxIn 8 = .ok (.getfield 17, 3) := by decide +kernel
theorem d_D_boxIn_11 : decode b_D_boxIn 11 = .ok (.iload_n 1, 1) := by decide +kernel
theorem d_D_boxIn_12 : decode b_D_boxIn 12 = .ok (.aaload, 1) := by decide +kernel
theorem d_D_boxIn_13 : decode b_D_boxIn 13 = .ok (.goto 4, 3) := by decide +kernel
theorem d_D_boxIn_16 : decode b_D_boxIn 16 = .ok (.aconst_null, 1) := by decide +kernel
theorem d_D_boxIn_17 : decode b_D_boxIn 17 = .ok (.areturn, 1) := by decide +kernel
abbrev b_D_character : ByteArray := prog_1_method_3_code
def y_D_character : MethodName := ⟨"BoxDesk", "character", "(III)Z"⟩
theorem d_D_character_0 : decode b_D_character 0 = .ok (.aload_n 0, 1) := by decide +kernel
theorem d_D_character_1 : decode b_D_character 1 = .ok (.invokevirtual 28, 3) := by decide +kernel
theorem d_D_character_4 : decode b_D_character 4 = .ok (.astore 4, 2) := by decide +kernel
theorem d_D_character_6 : decode b_D_character 6 = .ok (.aload 4, 2) := by decide +kernel
theorem d_D_character_8 : decode b_D_character 8 = .ok (.ifnull 20, 3) := by decide +kernel
theorem d_D_character_11 : decode b_D_character 11 = .ok (.aload 4, 2) := by decide +kernel
theorem d_D_character_13 : decode b_D_character 13 = .ok (.getfield 32, 3) := by decide +kernel
theorem d_D_character_16 : decode b_D_character 16 = .ok (.ifCond .ne 12, 3) := by decide +kernel
theorem d_D_character_19 : decode b_D_character 19 = .ok (.iload_n 1, 1) := by decide +kernel
theorem d_D_character_20 : decode b_D_character 20 = .ok (.iload_n 2, 1) := by decide +kernel
theorem d_D_character_21 : decode b_D_character 21 = .ok (.iload_n 3, 1) := by decide +kernel
theorem d_D_character_22 : decode b_D_character 22 = .ok (.invokestatic 36, 3) := by decide +kernel
theorem d_D_character_25 : decode b_D_character 25 = .ok (.ifCond .ne 5, 3) := by decide +kernel
theorem d_D_character_28 : decode b_D_character 28 = .ok (.iconst 0, 1) := by decide +kernel
theorem d_D_character_29 : decode b_D_character 29 = .ok (.ireturn, 1) := by decide +kernel
theorem d_D_character_30 : decode b_D_character 30 = .ok (.aload_n 0, 1) := by decide +kernel
theorem d_D_character_31 : decode b_D_character 31 = .ok (.aload 4, 2) := by decide +kernel
theorem d_D_character_33 : decode b_D_character 33 = .ok (.new 40, 3) := by decide +kernel
theorem d_D_character_36 : decode b_D_character 36 = .ok (.dup, 1) := by decide +kernel
theorem d_D_character_37 : decode b_D_character 37 = .ok (.iconst 1, 1) := by decide +kernel
theorem d_D_character_38 : decode b_D_character 38 = .ok (.iload_n 1, 1) := by decide +kernel
theorem d_D_character_39 : decode b_D_character 39 = .ok (.iload_n 2, 1) := by decide +kernel
theorem d_D_character_40 : decode b_D_character 40 = .ok (.iload_n 3, 1) := by decide +kernel
theorem d_D_character_41 : decode b_D_character 41 = .ok (.invokespecial 42, 3) := by decide +kernel
theorem d_D_character_44 : decode b_D_character 44 = .ok (.invokevirtual 45, 3) := by decide +kernel
theorem d_D_character_47 : decode b_D_character 47 = .ok (.ireturn, 1) := by decide +kernel
abbrev b_D_close : ByteArray := prog_1_method_8_code
def y_D_close : MethodName := ⟨"BoxDesk", "close", "(IIII)I"⟩
theorem d_D_close_0 : decode b_D_close 0 = .ok (.aload_n 0, 1) := by decide +kernel
theorem d_D_close_1 : decode b_D_close 1 = .ok (.invokevirtual 28, 3) := by decide +kernel
theorem d_D_close_4 : decode b_D_close 4 = .ok (.astore 5, 2) := by decide +kernel
theorem d_D_close_6 : decode b_D_close 6 = .ok (.aload 5, 2) := by decide +kernel
theorem d_D_close_8 : decode b_D_close 8 = .ok (.ifnonnull 13, 3) := by decide +kernel
theorem d_D_close_11 : decode b_D_close 11 = .ok (.new 64, 3) := by decide +kernel
theorem d_D_close_14 : decode b_D_close 14 = .ok (.dup, 1) := by decide +kernel
theorem d_D_close_15 : decode b_D_close 15 = .ok (.ldc 66, 2) := by decide +kernel
theorem d_D_close_17 : decode b_D_close 17 = .ok (.invokespecial 68, 3) := by decide +kernel
theorem d_D_close_20 : decode b_D_close 20 = .ok (.athrow, 1) := by decide +kernel
theorem d_D_close_21 : decode b_D_close 21 = .ok (.iload_n 1, 1) := by decide +kernel
theorem d_D_close_22 : decode b_D_close 22 = .ok (.ifCond .lt 32, 3) := by decide +kernel
theorem d_D_close_25 : decode b_D_close 25 = .ok (.iload_n 1, 1) := by decide +kernel
theorem d_D_close_26 : decode b_D_close 26 = .ok (.iconst 2, 1) := by decide +kernel
theorem d_D_close_27 : decode b_D_close 27 = .ok (.if_icmp .gt 27, 3) := by decide +kernel
theorem d_D_close_30 : decode b_D_close 30 = .ok (.iload_n 2, 1) := by decide +kernel
theorem d_D_close_31 : decode b_D_close 31 = .ok (.i2l, 1) := by decide +kernel
theorem d_D_close_32 : decode b_D_close 32 = .ok (.invokestatic 56, 3) := by decide +kernel
theorem d_D_close_35 : decode b_D_close 35 = .ok (.ifCond .eq 19, 3) := by decide +kernel
theorem d_D_close_38 : decode b_D_close 38 = .ok (.iload_n 3, 1) := by decide +kernel
theorem d_D_close_39 : decode b_D_close 39 = .ok (.i2l, 1) := by decide +kernel
theorem d_D_close_40 : decode b_D_close 40 = .ok (.invokestatic 56, 3) := by decide +kernel
theorem d_D_close_43 : decode b_D_close 43 = .ok (.ifCond .eq 11, 3) := by decide +kernel
theorem d_D_close_46 : decode b_D_close 46 = .ok (.iload 4, 2) := by decide +kernel
theorem d_D_close_48 : decode b_D_close 48 = .ok (.invokestatic 71, 3) := by decide +kernel
theorem d_D_close_51 : decode b_D_close 51 = .ok (.ifCond .ne 13, 3) := by decide +kernel
theorem d_D_close_54 : decode b_D_close 54 = .ok (.new 75, 3) := by decide +kernel
theorem d_D_close_57 : decode b_D_close 57 = .ok (.dup, 1) := by decide +kernel
theorem d_D_close_58 : decode b_D_close 58 = .ok (.ldc 77, 2) := by decide +kernel
theorem d_D_close_60 : decode b_D_close 60 = .ok (.invokespecial 79, 3) := by decide +kernel
theorem d_D_close_63 : decode b_D_close 63 = .ok (.athrow, 1) := by decide +kernel
theorem d_D_close_64 : decode b_D_close 64 = .ok (.aload 5, 2) := by decide +kernel
theorem d_D_close_66 : decode b_D_close 66 = .ok (.iload_n 3, 1) := by decide +kernel
theorem d_D_close_67 : decode b_D_close 67 = .ok (.invokestatic 80, 3) := by decide +kernel
theorem d_D_close_70 : decode b_D_close 70 = .ok (.astore 6, 2) := by decide +kernel
theorem d_D_close_72 : decode b_D_close 72 = .ok (.iload_n 1, 1) := by decide +kernel
theorem d_D_close_73 : decode b_D_close 73 = .ok (.iload_n 2, 1) := by decide +kernel
theorem d_D_close_74 : decode b_D_close 74 = .ok (.aload 6, 2) := by decide +kernel
theorem d_D_close_76 : decode b_D_close 76 = .ok (.getfield 84, 3) := by decide +kernel
theorem d_D_close_79 : decode b_D_close 79 = .ok (.invokestatic 90, 3) := by decide +kernel
theorem d_D_close_82 : decode b_D_close 82 = .ok (.lstore 7, 2) := by decide +kernel
theorem d_D_close_84 : decode b_D_close 84 = .ok (.aload_n 0, 1) := by decide +kernel
theorem d_D_close_85 : decode b_D_close 85 = .ok (.getfield 94, 3) := by decide +kernel
theorem d_D_close_88 : decode b_D_close 88 = .ok (.sipush 4000, 3) := by decide +kernel
theorem d_D_close_91 : decode b_D_close 91 = .ok (.if_icmp .ge 19, 3) := by decide +kernel
theorem d_D_close_94 : decode b_D_close 94 = .ok (.aload 6, 2) := by decide +kernel
theorem d_D_close_96 : decode b_D_close 96 = .ok (.invokevirtual 97, 3) := by decide +kernel
theorem d_D_close_99 : decode b_D_close 99 = .ok (.ifCond .eq 11, 3) := by decide +kernel
theorem d_D_close_102 : decode b_D_close 102 = .ok (.lload 7, 2) := by decide +kernel
theorem d_D_close_104 : decode b_D_close 104 = .ok (.invokestatic 56, 3) := by decide +kernel
theorem d_D_close_107 : decode b_D_close 107 = .ok (.ifCond .ne 13, 3) := by decide +kernel
theorem d_D_close_110 : decode b_D_close 110 = .ok (.new 101, 3) := by decide +kernel
theorem d_D_close_113 : decode b_D_close 113 = .ok (.dup, 1) := by decide +kernel
theorem d_D_close_114 : decode b_D_close 114 = .ok (.ldc 103, 2) := by decide +kernel
theorem d_D_close_116 : decode b_D_close 116 = .ok (.invokespecial 105, 3) := by decide +kernel
theorem d_D_close_119 : decode b_D_close 119 = .ok (.athrow, 1) := by decide +kernel
theorem d_D_close_120 : decode b_D_close 120 = .ok (.new 15, 3) := by decide +kernel
theorem d_D_close_123 : decode b_D_close 123 = .ok (.dup, 1) := by decide +kernel
theorem d_D_close_124 : decode b_D_close 124 = .ok (.aload 5, 2) := by decide +kernel
theorem d_D_close_126 : decode b_D_close 126 = .ok (.aload 6, 2) := by decide +kernel
theorem d_D_close_128 : decode b_D_close 128 = .ok (.lload 7, 2) := by decide +kernel
theorem d_D_close_130 : decode b_D_close 130 = .ok (.l2i, 1) := by decide +kernel
theorem d_D_close_131 : decode b_D_close 131 = .ok (.invokespecial 106, 3) := by decide +kernel
theorem d_D_close_134 : decode b_D_close 134 = .ok (.astore 9, 2) := by decide +kernel
theorem d_D_close_136 : decode b_D_close 136 = .ok (.aload_n 0, 1) := by decide +kernel
theorem d_D_close_137 : decode b_D_close 137 = .ok (.dup, 1) := by decide +kernel
theorem d_D_close_138 : decode b_D_close 138 = .ok (.getfield 21, 3) := by decide +kernel
theorem d_D_close_141 : decode b_D_close 141 = .ok (.iconst 1, 1) := by decide +kernel
theorem d_D_close_142 : decode b_D_close 142 = .ok (.isub, 1) := by decide +kernel
theorem d_D_close_143 : decode b_D_close 143 = .ok (.putfield 21, 3) := by decide +kernel
theorem d_D_close_146 : decode b_D_close 146 = .ok (.aload_n 0, 1) := by decide +kernel
theorem d_D_close_147 : decode b_D_close 147 = .ok (.getfield 11, 3) := by decide +kernel
theorem d_D_close_150 : decode b_D_close 150 = .ok (.aload_n 0, 1) := by decide +kernel
theorem d_D_close_151 : decode b_D_close 151 = .ok (.getfield 21, 3) := by decide +kernel
theorem d_D_close_154 : decode b_D_close 154 = .ok (.aconst_null, 1) := by decide +kernel
theorem d_D_close_155 : decode b_D_close 155 = .ok (.aastore, 1) := by decide +kernel
theorem d_D_close_156 : decode b_D_close 156 = .ok (.aload_n 0, 1) := by decide +kernel
theorem d_D_close_157 : decode b_D_close 157 = .ok (.dup, 1) := by decide +kernel
theorem d_D_close_158 : decode b_D_close 158 = .ok (.getfield 94, 3) := by decide +kernel
theorem d_D_close_161 : decode b_D_close 161 = .ok (.iconst 1, 1) := by decide +kernel
theorem d_D_close_162 : decode b_D_close 162 = .ok (.aload_n 0, 1) := by decide +kernel
theorem d_D_close_163 : decode b_D_close 163 = .ok (.getfield 17, 3) := by decide +kernel
theorem d_D_close_166 : decode b_D_close 166 = .ok (.iload 4, 2) := by decide +kernel
theorem d_D_close_168 : decode b_D_close 168 = .ok (.aaload, 1) := by decide +kernel
theorem d_D_close_169 : decode b_D_close 169 = .ok (.invokestatic 109, 3) := by decide +kernel
theorem d_D_close_172 : decode b_D_close 172 = .ok (.isub, 1) := by decide +kernel
theorem d_D_close_173 : decode b_D_close 173 = .ok (.iadd, 1) := by decide +kernel
theorem d_D_close_174 : decode b_D_close 174 = .ok (.putfield 94, 3) := by decide +kernel
theorem d_D_close_177 : decode b_D_close 177 = .ok (.aload_n 0, 1) := by decide +kernel
theorem d_D_close_178 : decode b_D_close 178 = .ok (.getfield 17, 3) := by decide +kernel
theorem d_D_close_181 : decode b_D_close 181 = .ok (.iload 4, 2) := by decide +kernel
theorem d_D_close_183 : decode b_D_close 183 = .ok (.aload 9, 2) := by decide +kernel
theorem d_D_close_185 : decode b_D_close 185 = .ok (.aastore, 1) := by decide +kernel
theorem d_D_close_186 : decode b_D_close 186 = .ok (.lload 7, 2) := by decide +kernel
theorem d_D_close_188 : decode b_D_close 188 = .ok (.l2i, 1) := by decide +kernel
theorem d_D_close_189 : decode b_D_close 189 = .ok (.ireturn, 1) := by decide +kernel
abbrev b_D_count : ByteArray := prog_1_method_14_code
def y_D_count : MethodName := ⟨"BoxDesk", "count", "(I)I"⟩
theorem d_D_count_0 : decode b_D_count 0 = .ok (.iload_n 1, 1) := by decide +kernel
theorem d_D_count_1 : decode b_D_count 1 = .ok (.lookupswitch 37 #[(0, 27), (1, 32)], 27) := by decide +kernel
theorem d_D_count_28 : decode b_D_count 28 = .ok (.aload_n 0, 1) := by decide +kernel
theorem d_D_count_29 : decode b_D_count 29 = .ok (.getfield 21, 3) := by decide +kernel
theorem d_D_count_32 : decode b_D_count 32 = .ok (.ireturn, 1) := by decide +kernel
theorem d_D_count_33 : decode b_D_count 33 = .ok (.aload_n 0, 1) := by decide +kernel
theorem d_D_count_34 : decode b_D_count 34 = .ok (.getfield 94, 3) := by decide +kernel
theorem d_D_count_37 : decode b_D_count 37 = .ok (.ireturn, 1) := by decide +kernel
theorem d_D_count_38 : decode b_D_count 38 = .ok (.iconst (-1), 1) := by decide +kernel
theorem d_D_count_39 : decode b_D_count 39 = .ok (.ireturn, 1) := by decide +kernel
abbrev b_D_glue : ByteArray := prog_1_method_5_code
def y_D_glue : MethodName := ⟨"BoxDesk", "glue", "(IIII)Z"⟩
theorem d_D_glue_0 : decode b_D_glue 0 = .ok (.aload_n 0, 1) := by decide +kernel
theorem d_D_glue_1 : decode b_D_glue 1 = .ok (.invokevirtual 28, 3) := by decide +kernel
theorem d_D_glue_4 : decode b_D_glue 4 = .ok (.astore 5, 2) := by decide +kernel
theorem d_D_glue_6 : decode b_D_glue 6 = .ok (.aload 5, 2) := by decide +kernel
theorem d_D_glue_8 : decode b_D_glue 8 = .ok (.ifnull 13, 3) := by decide +kernel
theorem d_D_glue_11 : decode b_D_glue 11 = .ok (.iload_n 1, 1) := by decide +kernel
theorem d_D_glue_12 : decode b_D_glue 12 = .ok (.iload_n 2, 1) := by decide +kernel
theorem d_D_glue_13 : decode b_D_glue 13 = .ok (.iload 4, 2) := by decide +kernel
theorem d_D_glue_15 : decode b_D_glue 15 = .ok (.invokestatic 36, 3) := by decide +kernel
theorem d_D_glue_18 : decode b_D_glue 18 = .ok (.ifCond .ne 5, 3) := by decide +kernel
theorem d_D_glue_21 : decode b_D_glue 21 = .ok (.iconst 0, 1) := by decide +kernel
theorem d_D_glue_22 : decode b_D_glue 22 = .ok (.ireturn, 1) := by decide +kernel
theorem d_D_glue_23 : decode b_D_glue 23 = .ok (.iload_n 2, 1) := by decide +kernel
theorem d_D_glue_24 : decode b_D_glue 24 = .ok (.ifCond .lt 17, 3) := by decide +kernel
theorem d_D_glue_27 : decode b_D_glue 27 = .ok (.iload 4, 2) := by decide +kernel
theorem d_D_glue_29 : decode b_D_glue 29 = .ok (.ifCond .lt 12, 3) := by decide +kernel
theorem d_D_glue_32 : decode b_D_glue 32 = .ok (.iload_n 3, 1) := by decide +kernel
theorem d_D_glue_33 : decode b_D_glue 33 = .ok (.ifCond .lt 8, 3) := by decide +kernel
theorem d_D_glue_36 : decode b_D_glue 36 = .ok (.iload_n 3, 1) := by decide +kernel
theorem d_D_glue_37 : decode b_D_glue 37 = .ok (.iconst 4, 1) := by decide +kernel
theorem d_D_glue_38 : decode b_D_glue 38 = .ok (.if_icmp .lt 5, 3) := by decide +kernel
theorem d_D_glue_41 : decode b_D_glue 41 = .ok (.iconst 0, 1) := by decide +kernel
theorem d_D_glue_42 : decode b_D_glue 42 = .ok (.ireturn, 1) := by decide +kernel
theorem d_D_glue_43 : decode b_D_glue 43 = .ok (.aload_n 0, 1) := by decide +kernel
theorem d_D_glue_44 : decode b_D_glue 44 = .ok (.aload 5, 2) := by decide +kernel
theorem d_D_glue_46 : decode b_D_glue 46 = .ok (.iload_n 1, 1) := by decide +kernel
theorem d_D_glue_47 : decode b_D_glue 47 = .ok (.iload_n 2, 1) := by decide +kernel
theorem d_D_glue_48 : decode b_D_glue 48 = .ok (.iload_n 3, 1) := by decide +kernel
theorem d_D_glue_49 : decode b_D_glue 49 = .ok (.iload 4, 2) := by decide +kernel
theorem d_D_glue_51 : decode b_D_glue 51 = .ok (.invokestatic 53, 3) := by decide +kernel
theorem d_D_glue_54 : decode b_D_glue 54 = .ok (.invokevirtual 45, 3) := by decide +kernel
theorem d_D_glue_57 : decode b_D_glue 57 = .ok (.ireturn, 1) := by decide +kernel
abbrev b_D_init : ByteArray := prog_1_method_1_code
def y_D_init : MethodName := ⟨"BoxDesk", "<init>", "()V"⟩
theorem d_D_init_0 : decode b_D_init 0 = .ok (.aload_n 0, 1) := by decide +kernel
theorem d_D_init_1 : decode b_D_init 1 = .ok (.invokespecial 1, 3) := by decide +kernel
theorem d_D_init_4 : decode b_D_init 4 = .ok (.aload_n 0, 1) := by decide +kernel
theorem d_D_init_5 : decode b_D_init 5 = .ok (.bipush 100, 2) := by decide +kernel
theorem d_D_init_7 : decode b_D_init 7 = .ok (.anewarray 9, 3) := by decide +kernel
theorem d_D_init_10 : decode b_D_init 10 = .ok (.putfield 11, 3) := by decide +kernel
theorem d_D_init_13 : decode b_D_init 13 = .ok (.aload_n 0, 1) := by decide +kernel
theorem d_D_init_14 : decode b_D_init 14 = .ok (.bipush 16, 2) := by decide +kernel
theorem d_D_init_16 : decode b_D_init 16 = .ok (.anewarray 15, 3) := by decide +kernel
theorem d_D_init_19 : decode b_D_init 19 = .ok (.putfield 17, 3) := by decide +kernel
theorem d_D_init_22 : decode b_D_init 22 = .ok (.return_, 1) := by decide +kernel
abbrev b_D_innermost : ByteArray := prog_1_method_15_code
def y_D_innermost : MethodName := ⟨"BoxDesk", "innermost", "()LBoxDesk$ItemList;"⟩
theorem d_D_innermost_0 : decode b_D_innermost 0 = .ok (.aload_n 0, 1) := by decide +kernel
theorem d_D_innermost_1 : decode b_D_innermost 1 = .ok (.getfield 21, 3) := by decide +kernel
theorem d_D_innermost_4 : decode b_D_innermost 4 = .ok (.ifCond .le 17, 3) := by decide +kernel
theorem d_D_innermost_7 : decode b_D_innermost 7 = .ok (.aload_n 0, 1) := by decide +kernel
theorem d_D_innermost_8 : decode b_D_innermost 8 = .ok (.getfield 11, 3) := by decide +kernel
theorem d_D_innermost_11 : decode b_D_innermost 11 = .ok (.aload_n 0, 1) := by decide +kernel
theorem d_D_innermost_12 : decode b_D_innermost 12 = .ok (.getfield 21, 3) := by decide +kernel
theorem d_D_innermost_15 : decode b_D_innermost 15 = .ok (.iconst 1, 1) := by decide +kernel
theorem d_D_innermost_16 : decode b_D_innermost 16 = .ok (.isub, 1) := by decide +kernel
theorem d_D_innermost_17 : decode b_D_innermost 17 = .ok (.aaload, 1) := by decide +kernel
theorem d_D_innermost_18 : decode b_D_innermost 18 = .ok (.goto 4, 3) := by decide +kernel
theorem d_D_innermost_21 : decode b_D_innermost 21 = .ok (.aconst_null, 1) := by decide +kernel
theorem d_D_innermost_22 : decode b_D_innermost 22 = .ok (.areturn, 1) := by decide +kernel
abbrev b_D_isRegister : ByteArray := prog_1_method_19_code
def y_D_isRegister : MethodName := ⟨"BoxDesk", "isRegister", "(I)Z"⟩
theorem d_D_isRegister_0 : decode b_D_isRegister 0 = .ok (.iload_n 0, 1) := by decide +kernel
theorem d_D_isRegister_1 : decode b_D_isRegister 1 = .ok (.ifCond .lt 13, 3) := by decide +kernel
theorem d_D_isRegister_4 : decode b_D_isRegister 4 = .ok (.iload_n 0, 1) := by decide +kernel
theorem d_D_isRegister_5 : decode b_D_isRegister 5 = .ok (.bipush 16, 2) := by decide +kernel
theorem d_D_isRegister_7 : decode b_D_isRegister 7 = .ok (.if_icmp .ge 7, 3) := by decide +kernel
theorem d_D_isRegister_10 : decode b_D_isRegister 10 = .ok (.iconst 1, 1) := by decide +kernel
theorem d_D_isRegister_11 : decode b_D_isRegister 11 = .ok (.goto 4, 3) := by decide +kernel
theorem d_D_isRegister_14 : decode b_D_isRegister 14 = .ok (.iconst 0, 1) := by decide +kernel
theorem d_D_isRegister_15 : decode b_D_isRegister 15 = .ok (.ireturn, 1) := by decide +kernel
abbrev b_D_isSize : ByteArray := prog_1_method_20_code
def y_D_isSize : MethodName := ⟨"BoxDesk", "isSize", "(J)Z"⟩
theorem d_D_isSize_0 : decode b_D_isSize 0 = .ok (.lload_n 0, 1) := by decide +kernel
theorem d_D_isSize_1 : decode b_D_isSize 1 = .ok (.ldc2_w 174, 3) := by decide +kernel
theorem d_D_isSize_4 : decode b_D_isSize 4 = .ok (.lcmp, 1) := by decide +kernel
theorem d_D_isSize_5 : decode b_D_isSize 5 = .ok (.ifCond .lt 15, 3) := by decide +kernel
theorem d_D_isSize_8 : decode b_D_isSize 8 = .ok (.lload_n 0, 1) := by decide +kernel
theorem d_D_isSize_9 : decode b_D_isSize 9 = .ok (.ldc2_w 176, 3) := by decide +kernel
theorem d_D_isSize_12 : decode b_D_isSize 12 = .ok (.lcmp, 1) := by decide +kernel
theorem d_D_isSize_13 : decode b_D_isSize 13 = .ok (.ifCond .gt 7, 3) := by decide +kernel
theorem d_D_isSize_16 : decode b_D_isSize 16 = .ok (.iconst 1, 1) := by decide +kernel
theorem d_D_isSize_17 : decode b_D_isSize 17 = .ok (.goto 4, 3) := by decide +kernel
theorem d_D_isSize_20 : decode b_D_isSize 20 = .ok (.iconst 0, 1) := by decide +kernel
theorem d_D_isSize_21 : decode b_D_isSize 21 = .ok (.ireturn, 1) := by decide +kernel
abbrev b_D_item : ByteArray := prog_1_method_13_code
def y_D_item : MethodName := ⟨"BoxDesk", "item", "(III)I"⟩
theorem d_D_item_0 : decode b_D_item 0 = .ok (.aload_n 0, 1) := by decide +kernel
theorem d_D_item_1 : decode b_D_item 1 = .ok (.iload_n 1, 1) := by decide +kernel
theorem d_D_item_2 : decode b_D_item 2 = .ok (.invokevirtual 113, 3) := by decide +kernel
theorem d_D_item_5 : decode b_D_item 5 = .ok (.astore 4, 2) := by decide +kernel
theorem d_D_item_7 : decode b_D_item 7 = .ok (.aload 4, 2) := by decide +kernel
theorem d_D_item_9 : decode b_D_item 9 = .ok (.ifnull 31, 3) := by decide +kernel
theorem d_D_item_12 : decode b_D_item 12 = .ok (.iload_n 2, 1) := by decide +kernel
theorem d_D_item_13 : decode b_D_item 13 = .ok (.ifCond .lt 27, 3) := by decide +kernel
theorem d_D_item_16 : decode b_D_item 16 = .ok (.iload_n 2, 1) := by decide +kernel
theorem d_D_item_17 : decode b_D_item 17 = .ok (.aload 4, 2) := by decide +kernel
theorem d_D_item_19 : decode b_D_item 19 = .ok (.getfield 131, 3) := by decide +kernel
theorem d_D_item_22 : decode b_D_item 22 = .ok (.getfield 117, 3) := by decide +kernel
theorem d_D_item_25 : decode b_D_item 25 = .ok (.invokevirtual 135, 3) := by decide +kernel
theorem d_D_item_28 : decode b_D_item 28 = .ok (.if_icmp .ge 12, 3) := by decide +kernel
theorem d_D_item_31 : decode b_D_item 31 = .ok (.iload_n 3, 1) := by decide +kernel
theorem d_D_item_32 : decode b_D_item 32 = .ok (.ifCond .lt 8, 3) := by decide +kernel
theorem d_D_item_35 : decode b_D_item 35 = .ok (.iload_n 3, 1) := by decide +kernel
theorem d_D_item_36 : decode b_D_item 36 = .ok (.iconst 5, 1) := by decide +kernel
theorem d_D_item_37 : decode b_D_item 37 = .ok (.if_icmp .le 13, 3) := by decide +kernel
theorem d_D_item_40 : decode b_D_item 40 = .ok (.new 152, 3) := by decide +kernel
theorem d_D_item_43 : decode b_D_item 43 = .ok (.dup, 1) := by decide +kernel
theorem d_D_item_44 : decode b_D_item 44 = .ok (.ldc 161, 2) := by decide +kernel
theorem d_D_item_46 : decode b_D_item 46 = .ok (.invokespecial 156, 3) := by decide +kernel
theorem d_D_item_49 : decode b_D_item 49 = .ok (.athrow, 1) := by decide +kernel
theorem d_D_item_50 : decode b_D_item 50 = .ok (.aload 4, 2) := by decide +kernel
theorem d_D_item_52 : decode b_D_item 52 = .ok (.getfield 131, 3) := by decide +kernel
theorem d_D_item_55 : decode b_D_item 55 = .ok (.getfield 117, 3) := by decide +kernel
theorem d_D_item_58 : decode b_D_item 58 = .ok (.iload_n 2, 1) := by decide +kernel
theorem d_D_item_59 : decode b_D_item 59 = .ok (.invokevirtual 139, 3) := by decide +kernel
theorem d_D_item_62 : decode b_D_item 62 = .ok (.checkcast 40, 3) := by decide +kernel
theorem d_D_item_65 : decode b_D_item 65 = .ok (.astore 5, 2) := by decide +kernel
theorem d_D_item_67 : decode b_D_item 67 = .ok (.aload 5, 2) := by decide +kernel
theorem d_D_item_69 : decode b_D_item 69 = .ok (.getfield 163, 3) := by decide +kernel
theorem d_D_item_72 : decode b_D_item 72 = .ok (.iconst 5, 1) := by decide +kernel
theorem d_D_item_73 : decode b_D_item 73 = .ok (.if_icmp .ne 22, 3) := by decide +kernel
theorem d_D_item_76 : decode b_D_item 76 = .ok (.iload_n 3, 1) := by decide +kernel
theorem d_D_item_77 : decode b_D_item 77 = .ok (.iconst 1, 1) := by decide +kernel
theorem d_D_item_78 : decode b_D_item 78 = .ok (.if_icmp .ne 17, 3) := by decide +kernel
theorem d_D_item_81 : decode b_D_item 81 = .ok (.iload_n 2, 1) := by decide +kernel
theorem d_D_item_82 : decode b_D_item 82 = .ok (.aload 4, 2) := by decide +kernel
theorem d_D_item_84 : decode b_D_item 84 = .ok (.getfield 166, 3) := by decide +kernel
theorem d_D_item_87 : decode b_D_item 87 = .ok (.arraylength, 1) := by decide +kernel
theorem d_D_item_88 : decode b_D_item 88 = .ok (.if_icmp .ge 7, 3) := by decide +kernel
theorem d_D_item_91 : decode b_D_item 91 = .ok (.iconst 1, 1) := by decide +kernel
theorem d_D_item_92 : decode b_D_item 92 = .ok (.goto 4, 3) := by decide +kernel
theorem d_D_item_95 : decode b_D_item 95 = .ok (.iconst 0, 1) := by decide +kernel
theorem d_D_item_96 : decode b_D_item 96 = .ok (.istore 6, 2) := by decide +kernel
theorem d_D_item_98 : decode b_D_item 98 = .ok (.iload 6, 2) := by decide +kernel
theorem d_D_item_100 : decode b_D_item 100 = .ok (.ifCond .eq 13, 3) := by decide +kernel
theorem d_D_item_103 : decode b_D_item 103 = .ok (.aload 4, 2) := by decide +kernel
theorem d_D_item_105 : decode b_D_item 105 = .ok (.getfield 166, 3) := by decide +kernel
theorem d_D_item_108 : decode b_D_item 108 = .ok (.iload_n 2, 1) := by decide +kernel
theorem d_D_item_109 : decode b_D_item 109 = .ok (.iaload, 1) := by decide +kernel
theorem d_D_item_110 : decode b_D_item 110 = .ok (.goto 9, 3) := by decide +kernel
theorem d_D_item_113 : decode b_D_item 113 = .ok (.aload 5, 2) := by decide +kernel
theorem d_D_item_115 : decode b_D_item 115 = .ok (.iload_n 3, 1) := by decide +kernel
theorem d_D_item_116 : decode b_D_item 116 = .ok (.invokevirtual 170, 3) := by decide +kernel
theorem d_D_item_119 : decode b_D_item 119 = .ok (.ireturn, 1) := by decide +kernel
abbrev b_D_itemsOf : ByteArray := prog_1_method_18_code
def y_D_itemsOf : MethodName := ⟨"BoxDesk", "itemsOf", "(LBoxDesk$Box;)I"⟩
theorem d_D_itemsOf_0 : decode b_D_itemsOf 0 = .ok (.aload_n 0, 1) := by decide +kernel
theorem d_D_itemsOf_1 : decode b_D_itemsOf 1 = .ok (.ifnonnull 7, 3) := by decide +kernel
theorem d_D_itemsOf_4 : decode b_D_itemsOf 4 = .ok (.iconst 0, 1) := by decide +kernel
theorem d_D_itemsOf_5 : decode b_D_itemsOf 5 = .ok (.goto 9, 3) := by decide +kernel
theorem d_D_itemsOf_8 : decode b_D_itemsOf 8 = .ok (.iconst 1, 1) := by decide +kernel
theorem d_D_itemsOf_9 : decode b_D_itemsOf 9 = .ok (.aload_n 0, 1) := by decide +kernel
theorem d_D_itemsOf_10 : decode b_D_itemsOf 10 = .ok (.getfield 171, 3) := by decide +kernel
theorem d_D_itemsOf_13 : decode b_D_itemsOf 13 = .ok (.iadd, 1) := by decide +kernel
theorem d_D_itemsOf_14 : decode b_D_itemsOf 14 = .ok (.ireturn, 1) := by decide +kernel
abbrev b_D_join : ByteArray := prog_1_method_17_code
def y_D_join : MethodName := ⟨"BoxDesk", "join", "(LBoxDesk$ItemList;LBoxDesk$Item;)Z"⟩
theorem d_D_join_0 : decode b_D_join 0 = .ok (.aload_n 0, 1) := by decide +kernel
theorem d_D_join_1 : decode b_D_join 1 = .ok (.getfield 94, 3) := by decide +kernel
theorem d_D_join_4 : decode b_D_join 4 = .ok (.sipush 4000, 3) := by decide +kernel
theorem d_D_join_7 : decode b_D_join 7 = .ok (.if_icmp .lt 5, 3) := by decide +kernel
theorem d_D_join_10 : decode b_D_join 10 = .ok (.iconst 0, 1) := by decide +kernel
theorem d_D_join_11 : decode b_D_join 11 = .ok (.ireturn, 1) := by decide +kernel
theorem d_D_join_12 : decode b_D_join 12 = .ok (.aload_n 1, 1) := by decide +kernel
theorem d_D_join_13 : decode b_D_join 13 = .ok (.getfield 117, 3) := by decide +kernel
theorem d_D_join_16 : decode b_D_join 16 = .ok (.aload_n 2, 1) := by decide +kernel
theorem d_D_join_17 : decode b_D_join 17 = .ok (.invokevirtual 125, 3) := by decide +kernel
theorem d_D_join_20 : decode b_D_join 20 = .ok (.pop, 1) := by decide +kernel
theorem d_D_join_21 : decode b_D_join 21 = .ok (.aload_n 0, 1) := by decide +kernel
theorem d_D_join_22 : decode b_D_join 22 = .ok (.dup, 1) := by decide +kernel
theorem d_D_join_23 : decode b_D_join 23 = .ok (.getfield 94, 3) := by decide +kernel
theorem d_D_join_26 : decode b_D_join 26 = .ok (.iconst 1, 1) := by decide +kernel
theorem d_D_join_27 : decode b_D_join 27 = .ok (.iadd, 1) := by decide +kernel
theorem d_D_join_28 : decode b_D_join 28 = .ok (.putfield 94, 3) := by decide +kernel
theorem d_D_join_31 : decode b_D_join 31 = .ok (.iconst 1, 1) := by decide +kernel
theorem d_D_join_32 : decode b_D_join 32 = .ok (.ireturn, 1) := by decide +kernel
abbrev b_D_kern : ByteArray := prog_1_method_6_code
def y_D_kern : MethodName := ⟨"BoxDesk", "kern", "(I)Z"⟩
theorem d_D_kern_0 : decode b_D_kern 0 = .ok (.aload_n 0, 1) := by decide +kernel
theorem d_D_kern_1 : decode b_D_kern 1 = .ok (.invokevirtual 28, 3) := by decide +kernel
theorem d_D_kern_4 : decode b_D_kern 4 = .ok (.astore_n 2, 1) := by decide +kernel
theorem d_D_kern_5 : decode b_D_kern 5 = .ok (.aload_n 2, 1) := by decide +kernel
theorem d_D_kern_6 : decode b_D_kern 6 = .ok (.ifnull 11, 3) := by decide +kernel
theorem d_D_kern_9 : decode b_D_kern 9 = .ok (.iload_n 1, 1) := by decide +kernel
theorem d_D_kern_10 : decode b_D_kern 10 = .ok (.i2l, 1) := by decide +kernel
theorem d_D_kern_11 : decode b_D_kern 11 = .ok (.invokestatic 56, 3) := by decide +kernel
theorem d_D_kern_14 : decode b_D_kern 14 = .ok (.ifCond .ne 5, 3) := by decide +kernel
theorem d_D_kern_17 : decode b_D_kern 17 = .ok (.iconst 0, 1) := by decide +kernel
theorem d_D_kern_18 : decode b_D_kern 18 = .ok (.ireturn, 1) := by decide +kernel
theorem d_D_kern_19 : decode b_D_kern 19 = .ok (.aload_n 0, 1) := by decide +kernel
theorem d_D_kern_20 : decode b_D_kern 20 = .ok (.aload_n 2, 1) := by decide +kernel
theorem d_D_kern_21 : decode b_D_kern 21 = .ok (.new 40, 3) := by decide +kernel
theorem d_D_kern_24 : decode b_D_kern 24 = .ok (.dup, 1) := by decide +kernel
theorem d_D_kern_25 : decode b_D_kern 25 = .ok (.bipush 6, 2) := by decide +kernel
theorem d_D_kern_27 : decode b_D_kern 27 = .ok (.iload_n 1, 1) := by decide +kernel
theorem d_D_kern_28 : decode b_D_kern 28 = .ok (.iconst 0, 1) := by decide +kernel
theorem d_D_kern_29 : decode b_D_kern 29 = .ok (.iconst 0, 1) := by decide +kernel
theorem d_D_kern_30 : decode b_D_kern 30 = .ok (.invokespecial 42, 3) := by decide +kernel
theorem d_D_kern_33 : decode b_D_kern 33 = .ok (.invokevirtual 45, 3) := by decide +kernel
theorem d_D_kern_36 : decode b_D_kern 36 = .ok (.ireturn, 1) := by decide +kernel
abbrev b_D_measured : ByteArray := prog_1_method_23_code
def y_D_measured : MethodName := ⟨"BoxDesk", "measured", "(LBoxDesk$ItemList;I)LBoxDesk$Measure;"⟩
theorem d_D_measured_0 : decode b_D_measured 0 = .ok (.new 85, 3) := by decide +kernel
theorem d_D_measured_3 : decode b_D_measured 3 = .ok (.dup, 1) := by decide +kernel
theorem d_D_measured_4 : decode b_D_measured 4 = .ok (.invokespecial 178, 3) := by decide +kernel
theorem d_D_measured_7 : decode b_D_measured 7 = .ok (.astore_n 2, 1) := by decide +kernel
theorem d_D_measured_8 : decode b_D_measured 8 = .ok (.iconst 0, 1) := by decide +kernel
theorem d_D_measured_9 : decode b_D_measured 9 = .ok (.istore_n 3, 1) := by decide +kernel
theorem d_D_measured_10 : decode b_D_measured 10 = .ok (.iload_n 3, 1) := by decide +kernel
theorem d_D_measured_11 : decode b_D_measured 11 = .ok (.aload_n 0, 1) := by decide +kernel
theorem d_D_measured_12 : decode b_D_measured 12 = .ok (.getfield 117, 3) := by decide +kernel
theorem d_D_measured_15 : decode b_D_measured 15 = .ok (.invokevirtual 135, 3) := by decide +kernel
theorem d_D_measured_18 : decode b_D_measured 18 = .ok (.if_icmp .ge 50, 3) := by decide +kernel
theorem d_D_measured_21 : decode b_D_measured 21 = .ok (.aload_n 0, 1) := by decide +kernel
theorem d_D_measured_22 : decode b_D_measured 22 = .ok (.getfield 117, 3) := by decide +kernel
theorem d_D_measured_25 : decode b_D_measured 25 = .ok (.iload_n 3, 1) := by decide +kernel
theorem d_D_measured_26 : decode b_D_measured 26 = .ok (.invokevirtual 139, 3) := by decide +kernel
theorem d_D_measured_29 : decode b_D_measured 29 = .ok (.checkcast 40, 3) := by decide +kernel
theorem d_D_measured_32 : decode b_D_measured 32 = .ok (.astore 4, 2) := by decide +kernel
theorem d_D_measured_34 : decode b_D_measured 34 = .ok (.aload_n 2, 1) := by decide +kernel
theorem d_D_measured_35 : decode b_D_measured 35 = .ok (.aload 4, 2) := by decide +kernel
theorem d_D_measured_37 : decode b_D_measured 37 = .ok (.invokevirtual 179, 3) := by decide +kernel
theorem d_D_measured_40 : decode b_D_measured 40 = .ok (.aload_n 0, 1) := by decide +kernel
theorem d_D_measured_41 : decode b_D_measured 41 = .ok (.getfield 32, 3) := by decide +kernel
theorem d_D_measured_44 : decode b_D_measured 44 = .ok (.ifCond .eq 12, 3) := by decide +kernel
theorem d_D_measured_47 : decode b_D_measured 47 = .ok (.aload_n 2, 1) := by decide +kernel
theorem d_D_measured_48 : decode b_D_measured 48 = .ok (.aload 4, 2) := by decide +kernel
theorem d_D_measured_50 : decode b_D_measured 50 = .ok (.invokevirtual 183, 3) := by decide +kernel
theorem d_D_measured_53 : decode b_D_measured 53 = .ok (.goto 9, 3) := by decide +kernel
theorem d_D_measured_56 : decode b_D_measured 56 = .ok (.aload_n 2, 1) := by decide +kernel
theorem d_D_measured_57 : decode b_D_measured 57 = .ok (.aload 4, 2) := by decide +kernel
theorem d_D_measured_59 : decode b_D_measured 59 = .ok (.invokevirtual 186, 3) := by decide +kernel
theorem d_D_measured_62 : decode b_D_measured 62 = .ok (.iinc 3 1, 3) := by decide +kernel
theorem d_D_measured_65 : decode b_D_measured 65 = .ok (.goto (-55), 3) := by decide +kernel
theorem d_D_measured_68 : decode b_D_measured 68 = .ok (.aload_n 0, 1) := by decide +kernel
theorem d_D_measured_69 : decode b_D_measured 69 = .ok (.getfield 32, 3) := by decide +kernel
theorem d_D_measured_72 : decode b_D_measured 72 = .ok (.ifCond .eq 8, 3) := by decide +kernel
theorem d_D_measured_75 : decode b_D_measured 75 = .ok (.aload_n 2, 1) := by decide +kernel
theorem d_D_measured_76 : decode b_D_measured 76 = .ok (.iload_n 1, 1) := by decide +kernel
theorem d_D_measured_77 : decode b_D_measured 77 = .ok (.invokevirtual 189, 3) := by decide +kernel
theorem d_D_measured_80 : decode b_D_measured 80 = .ok (.aload_n 2, 1) := by decide +kernel
theorem d_D_measured_81 : decode b_D_measured 81 = .ok (.areturn, 1) := by decide +kernel
abbrev b_D_near : ByteArray := prog_1_method_26_code
def y_D_near : MethodName := ⟨"BoxDesk", "near", "(JJ)J"⟩
theorem d_D_near_0 : decode b_D_near 0 = .ok (.lload_n 2, 1) := by decide +kernel
theorem d_D_near_1 : decode b_D_near 1 = .ok (.lconst 0, 1) := by decide +kernel
theorem d_D_near_2 : decode b_D_near 2 = .ok (.lcmp, 1) := by decide +kernel
theorem d_D_near_3 : decode b_D_near 3 = .ok (.ifCond .gt 5, 3) := by decide +kernel
theorem d_D_near_6 : decode b_D_near 6 = .ok (.lconst 0, 1) := by decide +kernel
theorem d_D_near_7 : decode b_D_near 7 = .ok (.lreturn, 1) := by decide +kernel
theorem d_D_near_8 : decode b_D_near 8 = .ok (.ldc2_w 230, 3) := by decide +kernel
theorem d_D_near_11 : decode b_D_near 11 = .ok (.lload_n 0, 1) := by decide +kernel
theorem d_D_near_12 : decode b_D_near 12 = .ok (.invokestatic 232, 3) := by decide +kernel
theorem d_D_near_15 : decode b_D_near 15 = .ok (.lmul, 1) := by decide +kernel
theorem d_D_near_16 : decode b_D_near 16 = .ok (.lload_n 2, 1) := by decide +kernel
theorem d_D_near_17 : decode b_D_near 17 = .ok (.ladd, 1) := by decide +kernel
theorem d_D_near_18 : decode b_D_near 18 = .ok (.ldc2_w 230, 3) := by decide +kernel
theorem d_D_near_21 : decode b_D_near 21 = .ok (.lload_n 2, 1) := by decide +kernel
theorem d_D_near_22 : decode b_D_near 22 = .ok (.lmul, 1) := by decide +kernel
theorem d_D_near_23 : decode b_D_near 23 = .ok (.ldiv, 1) := by decide +kernel
theorem d_D_near_24 : decode b_D_near 24 = .ok (.lstore 4, 2) := by decide +kernel
theorem d_D_near_26 : decode b_D_near 26 = .ok (.lload_n 0, 1) := by decide +kernel
theorem d_D_near_27 : decode b_D_near 27 = .ok (.lconst 0, 1) := by decide +kernel
theorem d_D_near_28 : decode b_D_near 28 = .ok (.lcmp, 1) := by decide +kernel
theorem d_D_near_29 : decode b_D_near 29 = .ok (.ifCond .ge 9, 3) := by decide +kernel
theorem d_D_near_32 : decode b_D_near 32 = .ok (.lload 4, 2) := by decide +kernel
theorem d_D_near_34 : decode b_D_near 34 = .ok (.lneg, 1) := by decide +kernel
theorem d_D_near_35 : decode b_D_near 35 = .ok (.goto 5, 3) := by decide +kernel
theorem d_D_near_38 : decode b_D_near 38 = .ok (.lload 4, 2) := by decide +kernel
theorem d_D_near_40 : decode b_D_near 40 = .ok (.lreturn, 1) := by decide +kernel
abbrev b_D_open : ByteArray := prog_1_method_2_code
def y_D_open : MethodName := ⟨"BoxDesk", "open", "(Z)Z"⟩
theorem d_D_open_0 : decode b_D_open 0 = .ok (.aload_n 0, 1) := by decide +kernel
theorem d_D_open_1 : decode b_D_open 1 = .ok (.getfield 21, 3) := by decide +kernel
theorem d_D_open_4 : decode b_D_open 4 = .ok (.bipush 100, 2) := by decide +kernel
theorem d_D_open_6 : decode b_D_open 6 = .ok (.if_icmp .lt 5, 3) := by decide +kernel
theorem d_D_open_9 : decode b_D_open 9 = .ok (.iconst 0, 1) := by decide +kernel
theorem d_D_open_10 : decode b_D_open 10 = .ok (.ireturn, 1) := by decide +kernel
theorem d_D_open_11 : decode b_D_open 11 = .ok (.aload_n 0, 1) := by decide +kernel
theorem d_D_open_12 : decode b_D_open 12 = .ok (.getfield 11, 3) := by decide +kernel
theorem d_D_open_15 : decode b_D_open 15 = .ok (.aload_n 0, 1) := by decide +kernel
theorem d_D_open_16 : decode b_D_open 16 = .ok (.getfield 21, 3) := by decide +kernel
theorem d_D_open_19 : decode b_D_open 19 = .ok (.new 9, 3) := by decide +kernel
theorem d_D_open_22 : decode b_D_open 22 = .ok (.dup, 1) := by decide +kernel
theorem d_D_open_23 : decode b_D_open 23 = .ok (.iload_n 1, 1) := by decide +kernel
theorem d_D_open_24 : decode b_D_open 24 = .ok (.invokespecial 25, 3) := by decide +kernel
theorem d_D_open_27 : decode b_D_open 27 = .ok (.aastore, 1) := by decide +kernel
theorem d_D_open_28 : decode b_D_open 28 = .ok (.aload_n 0, 1) := by decide +kernel
theorem d_D_open_29 : decode b_D_open 29 = .ok (.dup, 1) := by decide +kernel
theorem d_D_open_30 : decode b_D_open 30 = .ok (.getfield 21, 3) := by decide +kernel
theorem d_D_open_33 : decode b_D_open 33 = .ok (.iconst 1, 1) := by decide +kernel
theorem d_D_open_34 : decode b_D_open 34 = .ok (.iadd, 1) := by decide +kernel
theorem d_D_open_35 : decode b_D_open 35 = .ok (.putfield 21, 3) := by decide +kernel
theorem d_D_open_38 : decode b_D_open 38 = .ok (.iconst 1, 1) := by decide +kernel
theorem d_D_open_39 : decode b_D_open 39 = .ok (.ireturn, 1) := by decide +kernel
abbrev b_D_penalty : ByteArray := prog_1_method_7_code
def y_D_penalty : MethodName := ⟨"BoxDesk", "penalty", "(I)Z"⟩
theorem d_D_penalty_0 : decode b_D_penalty 0 = .ok (.aload_n 0, 1) := by decide +kernel
theorem d_D_penalty_1 : decode b_D_penalty 1 = .ok (.invokevirtual 28, 3) := by decide +kernel
theorem d_D_penalty_4 : decode b_D_penalty 4 = .ok (.astore_n 2, 1) := by decide +kernel
theorem d_D_penalty_5 : decode b_D_penalty 5 = .ok (.aload_n 2, 1) := by decide +kernel
theorem d_D_penalty_6 : decode b_D_penalty 6 = .ok (.ifnonnull 5, 3) := by decide +kernel
theorem d_D_penalty_9 : decode b_D_penalty 9 = .ok (.iconst 0, 1) := by decide +kernel
theorem d_D_penalty_10 : decode b_D_penalty 10 = .ok (.ireturn, 1) := by decide +kernel
theorem d_D_penalty_11 : decode b_D_penalty 11 = .ok (.aload_n 0, 1) := by decide +kernel
theorem d_D_penalty_12 : decode b_D_penalty 12 = .ok (.aload_n 2, 1) := by decide +kernel
theorem d_D_penalty_13 : decode b_D_penalty 13 = .ok (.iload_n 1, 1) := by decide +kernel
theorem d_D_penalty_14 : decode b_D_penalty 14 = .ok (.invokestatic 60, 3) := by decide +kernel
theorem d_D_penalty_17 : decode b_D_penalty 17 = .ok (.invokevirtual 45, 3) := by decide +kernel
theorem d_D_penalty_20 : decode b_D_penalty 20 = .ok (.ireturn, 1) := by decide +kernel
abbrev b_D_put : ByteArray := prog_1_method_9_code
def y_D_put : MethodName := ⟨"BoxDesk", "put", "(IIZ)Z"⟩
theorem d_D_put_0 : decode b_D_put 0 = .ok (.aload_n 0, 1) := by decide +kernel
theorem d_D_put_1 : decode b_D_put 1 = .ok (.invokevirtual 28, 3) := by decide +kernel
theorem d_D_put_4 : decode b_D_put 4 = .ok (.astore 4, 2) := by decide +kernel
theorem d_D_put_6 : decode b_D_put 6 = .ok (.aload_n 0, 1) := by decide +kernel
theorem d_D_put_7 : decode b_D_put 7 = .ok (.iload_n 1, 1) := by decide +kernel
theorem d_D_put_8 : decode b_D_put 8 = .ok (.invokevirtual 113, 3) := by decide +kernel
theorem d_D_put_11 : decode b_D_put 11 = .ok (.astore 5, 2) := by decide +kernel
theorem d_D_put_13 : decode b_D_put 13 = .ok (.aload 4, 2) := by decide +kernel
theorem d_D_put_15 : decode b_D_put 15 = .ok (.ifnull 16, 3) := by decide +kernel
theorem d_D_put_18 : decode b_D_put 18 = .ok (.aload 5, 2) := by decide +kernel
theorem d_D_put_20 : decode b_D_put 20 = .ok (.ifnull 11, 3) := by decide +kernel
theorem d_D_put_23 : decode b_D_put 23 = .ok (.iload_n 2, 1) := by decide +kernel
theorem d_D_put_24 : decode b_D_put 24 = .ok (.i2l, 1) := by decide +kernel
theorem d_D_put_25 : decode b_D_put 25 = .ok (.invokestatic 56, 3) := by decide +kernel
theorem d_D_put_28 : decode b_D_put 28 = .ok (.ifCond .ne 5, 3) := by decide +kernel
theorem d_D_put_31 : decode b_D_put 31 = .ok (.iconst 0, 1) := by decide +kernel
theorem d_D_put_32 : decode b_D_put 32 = .ok (.ireturn, 1) := by decide +kernel
theorem d_D_put_33 : decode b_D_put 33 = .ok (.iload_n 3, 1) := by decide +kernel
theorem d_D_put_34 : decode b_D_put 34 = .ok (.ifCond .eq 11, 3) := by decide +kernel
theorem d_D_put_37 : decode b_D_put 37 = .ok (.aload 5, 2) := by decide +kernel
theorem d_D_put_39 : decode b_D_put 39 = .ok (.invokestatic 109, 3) := by decide +kernel
theorem d_D_put_42 : decode b_D_put 42 = .ok (.goto 4, 3) := by decide +kernel
theorem d_D_put_45 : decode b_D_put 45 = .ok (.iconst 0, 1) := by decide +kernel
theorem d_D_put_46 : decode b_D_put 46 = .ok (.istore 6, 2) := by decide +kernel
theorem d_D_put_48 : decode b_D_put 48 = .ok (.aload_n 0, 1) := by decide +kernel
theorem d_D_put_49 : decode b_D_put 49 = .ok (.getfield 94, 3) := by decide +kernel
theorem d_D_put_52 : decode b_D_put 52 = .ok (.iload 6, 2) := by decide +kernel
theorem d_D_put_54 : decode b_D_put 54 = .ok (.iadd, 1) := by decide +kernel
theorem d_D_put_55 : decode b_D_put 55 = .ok (.sipush 4000, 3) := by decide +kernel
theorem d_D_put_58 : decode b_D_put 58 = .ok (.if_icmp .le 5, 3) := by decide +kernel
theorem d_D_put_61 : decode b_D_put 61 = .ok (.iconst 0, 1) := by decide +kernel
theorem d_D_put_62 : decode b_D_put 62 = .ok (.ireturn, 1) := by decide +kernel
theorem d_D_put_63 : decode b_D_put 63 = .ok (.aload 4, 2) := by decide +kernel
theorem d_D_put_65 : decode b_D_put 65 = .ok (.getfield 117, 3) := by decide +kernel
theorem d_D_put_68 : decode b_D_put 68 = .ok (.aload 5, 2) := by decide +kernel
theorem d_D_put_70 : decode b_D_put 70 = .ok (.iload_n 2, 1) := by decide +kernel
theorem d_D_put_71 : decode b_D_put 71 = .ok (.invokestatic 121, 3) := by decide +kernel
theorem d_D_put_74 : decode b_D_put 74 = .ok (.invokevirtual 125, 3) := by decide +kernel
theorem d_D_put_77 : decode b_D_put 77 = .ok (.pop, 1) := by decide +kernel
theorem d_D_put_78 : decode b_D_put 78 = .ok (.aload_n 0, 1) := by decide +kernel
theorem d_D_put_79 : decode b_D_put 79 = .ok (.dup, 1) := by decide +kernel
theorem d_D_put_80 : decode b_D_put 80 = .ok (.getfield 94, 3) := by decide +kernel
theorem d_D_put_83 : decode b_D_put 83 = .ok (.iload 6, 2) := by decide +kernel
theorem d_D_put_85 : decode b_D_put 85 = .ok (.iadd, 1) := by decide +kernel
theorem d_D_put_86 : decode b_D_put 86 = .ok (.putfield 94, 3) := by decide +kernel
theorem d_D_put_89 : decode b_D_put 89 = .ok (.iload_n 3, 1) := by decide +kernel
theorem d_D_put_90 : decode b_D_put 90 = .ok (.ifCond .ne 10, 3) := by decide +kernel
theorem d_D_put_93 : decode b_D_put 93 = .ok (.aload_n 0, 1) := by decide +kernel
theorem d_D_put_94 : decode b_D_put 94 = .ok (.getfield 17, 3) := by decide +kernel
theorem d_D_put_97 : decode b_D_put 97 = .ok (.iload_n 1, 1) := by decide +kernel
theorem d_D_put_98 : decode b_D_put 98 = .ok (.aconst_null, 1) := by decide +kernel
theorem d_D_put_99 : decode b_D_put 99 = .ok (.aastore, 1) := by decide +kernel
theorem d_D_put_100 : decode b_D_put 100 = .ok (.iconst 1, 1) := by decide +kernel
theorem d_D_put_101 : decode b_D_put 101 = .ok (.ireturn, 1) := by decide +kernel
abbrev b_D_rule : ByteArray := prog_1_method_4_code
def y_D_rule : MethodName := ⟨"BoxDesk", "rule", "(IIII)Z"⟩
theorem d_D_rule_0 : decode b_D_rule 0 = .ok (.aload_n 0, 1) := by decide +kernel
theorem d_D_rule_1 : decode b_D_rule 1 = .ok (.invokevirtual 28, 3) := by decide +kernel
theorem d_D_rule_4 : decode b_D_rule 4 = .ok (.astore 5, 2) := by decide +kernel
theorem d_D_rule_6 : decode b_D_rule 6 = .ok (.aload 5, 2) := by decide +kernel
theorem d_D_rule_8 : decode b_D_rule 8 = .ok (.ifnull 12, 3) := by decide +kernel
theorem d_D_rule_11 : decode b_D_rule 11 = .ok (.iload_n 1, 1) := by decide +kernel
theorem d_D_rule_12 : decode b_D_rule 12 = .ok (.iload_n 2, 1) := by decide +kernel
theorem d_D_rule_13 : decode b_D_rule 13 = .ok (.iload_n 3, 1) := by decide +kernel
theorem d_D_rule_14 : decode b_D_rule 14 = .ok (.invokestatic 36, 3) := by decide +kernel
theorem d_D_rule_17 : decode b_D_rule 17 = .ok (.ifCond .ne 5, 3) := by decide +kernel
theorem d_D_rule_20 : decode b_D_rule 20 = .ok (.iconst 0, 1) := by decide +kernel
theorem d_D_rule_21 : decode b_D_rule 21 = .ok (.ireturn, 1) := by decide +kernel
theorem d_D_rule_22 : decode b_D_rule 22 = .ok (.aload 5, 2) := by decide +kernel
theorem d_D_rule_24 : decode b_D_rule 24 = .ok (.getfield 32, 3) := by decide +kernel
theorem d_D_rule_27 : decode b_D_rule 27 = .ok (.ifCond .eq 7, 3) := by decide +kernel
theorem d_D_rule_30 : decode b_D_rule 30 = .ok (.iconst 1, 1) := by decide +kernel
theorem d_D_rule_31 : decode b_D_rule 31 = .ok (.goto 5, 3) := by decide +kernel
theorem d_D_rule_34 : decode b_D_rule 34 = .ok (.bipush 6, 2) := by decide +kernel
theorem d_D_rule_36 : decode b_D_rule 36 = .ok (.istore 6, 2) := by decide +kernel
theorem d_D_rule_38 : decode b_D_rule 38 = .ok (.iload 4, 2) := by decide +kernel
theorem d_D_rule_40 : decode b_D_rule 40 = .ok (.iload 6, 2) := by decide +kernel
theorem d_D_rule_42 : decode b_D_rule 42 = .ok (.iconst (-1), 1) := by decide +kernel
theorem d_D_rule_43 : decode b_D_rule 43 = .ok (.ixor, 1) := by decide +kernel
theorem d_D_rule_44 : decode b_D_rule 44 = .ok (.iand, 1) := by decide +kernel
theorem d_D_rule_45 : decode b_D_rule 45 = .ok (.ifCond .eq 5, 3) := by decide +kernel
theorem d_D_rule_48 : decode b_D_rule 48 = .ok (.iconst 0, 1) := by decide +kernel
theorem d_D_rule_49 : decode b_D_rule 49 = .ok (.ireturn, 1) := by decide +kernel
theorem d_D_rule_50 : decode b_D_rule 50 = .ok (.aload_n 0, 1) := by decide +kernel
theorem d_D_rule_51 : decode b_D_rule 51 = .ok (.aload 5, 2) := by decide +kernel
theorem d_D_rule_53 : decode b_D_rule 53 = .ok (.iload_n 1, 1) := by decide +kernel
theorem d_D_rule_54 : decode b_D_rule 54 = .ok (.iload_n 2, 1) := by decide +kernel
theorem d_D_rule_55 : decode b_D_rule 55 = .ok (.iload_n 3, 1) := by decide +kernel
theorem d_D_rule_56 : decode b_D_rule 56 = .ok (.iload 4, 2) := by decide +kernel
theorem d_D_rule_58 : decode b_D_rule 58 = .ok (.invokestatic 49, 3) := by decide +kernel
theorem d_D_rule_61 : decode b_D_rule 61 = .ok (.invokevirtual 45, 3) := by decide +kernel
theorem d_D_rule_64 : decode b_D_rule 64 = .ok (.ireturn, 1) := by decide +kernel
abbrev b_D_setGlue : ByteArray := prog_1_method_24_code
def y_D_setGlue : MethodName := ⟨"BoxDesk", "setGlue", "(LBoxDesk$ItemList;LBoxDesk$Measure;J)[I"⟩
theorem d_D_setGlue_0 : decode b_D_setGlue 0 = .ok (.aload_n 0, 1) := by decide +kernel
theorem d_D_setGlue_1 : decode b_D_setGlue 1 = .ok (.getfield 117, 3) := by decide +kernel
theorem d_D_setGlue_4 : decode b_D_setGlue 4 = .ok (.invokevirtual 135, 3) := by decide +kernel
theorem d_D_setGlue_7 : decode b_D_setGlue 7 = .ok (.newarray .int, 2) := by decide +kernel
theorem d_D_setGlue_9 : decode b_D_setGlue 9 = .ok (.astore 4, 2) := by decide +kernel
theorem d_D_setGlue_11 : decode b_D_setGlue 11 = .ok (.aload_n 1, 1) := by decide +kernel
theorem d_D_setGlue_12 : decode b_D_setGlue 12 = .ok (.invokevirtual 193, 3) := by decide +kernel
theorem d_D_setGlue_15 : decode b_D_setGlue 15 = .ok (.istore 5, 2) := by decide +kernel
theorem d_D_setGlue_17 : decode b_D_setGlue 17 = .ok (.lload_n 2, 1) := by decide +kernel
theorem d_D_setGlue_18 : decode b_D_setGlue 18 = .ok (.lconst 0, 1) := by decide +kernel
theorem d_D_setGlue_19 : decode b_D_setGlue 19 = .ok (.lcmp, 1) := by decide +kernel
theorem d_D_setGlue_20 : decode b_D_setGlue 20 = .ok (.ifCond .ge 10, 3) := by decide +kernel
theorem d_D_setGlue_23 : decode b_D_setGlue 23 = .ok (.aload_n 1, 1) := by decide +kernel
theorem d_D_setGlue_24 : decode b_D_setGlue 24 = .ok (.getfield 196, 3) := by decide +kernel
theorem d_D_setGlue_27 : decode b_D_setGlue 27 = .ok (.goto 10, 3) := by decide +kernel
theorem d_D_setGlue_30 : decode b_D_setGlue 30 = .ok (.aload_n 1, 1) := by decide +kernel
theorem d_D_setGlue_31 : decode b_D_setGlue 31 = .ok (.getfield 199, 3) := by decide +kernel
theorem d_D_setGlue_34 : decode b_D_setGlue 34 = .ok (.iload 5, 2) := by decide +kernel
theorem d_D_setGlue_36 : decode b_D_setGlue 36 = .ok (.laload, 1) := by decide +kernel
theorem d_D_setGlue_37 : decode b_D_setGlue 37 = .ok (.lstore 6, 2) := by decide +kernel
theorem d_D_setGlue_39 : decode b_D_setGlue 39 = .ok (.lload_n 2, 1) := by decide +kernel
theorem d_D_setGlue_40 : decode b_D_setGlue 40 = .ok (.lload 6, 2) := by decide +kernel
theorem d_D_setGlue_42 : decode b_D_setGlue 42 = .ok (.lneg, 1) := by decide +kernel
theorem d_D_setGlue_43 : decode b_D_setGlue 43 = .ok (.invokestatic 203, 3) := by decide +kernel
theorem d_D_setGlue_46 : decode b_D_setGlue 46 = .ok (.lstore 8, 2) := by decide +kernel
theorem d_D_setGlue_48 : decode b_D_setGlue 48 = .ok (.lconst 0, 1) := by decide +kernel
theorem d_D_setGlue_49 : decode b_D_setGlue 49 = .ok (.lstore 10, 2) := by decide +kernel
theorem d_D_setGlue_51 : decode b_D_setGlue 51 = .ok (.lconst 0, 1) := by decide +kernel
theorem d_D_setGlue_52 : decode b_D_setGlue 52 = .ok (.lstore 12, 2) := by decide +kernel
theorem d_D_setGlue_54 : decode b_D_setGlue 54 = .ok (.iconst 0, 1) := by decide +kernel
theorem d_D_setGlue_55 : decode b_D_setGlue 55 = .ok (.istore 14, 2) := by decide +kernel
theorem d_D_setGlue_57 : decode b_D_setGlue 57 = .ok (.iload 14, 2) := by decide +kernel
theorem d_D_setGlue_59 : decode b_D_setGlue 59 = .ok (.aload 4, 2) := by decide +kernel
theorem d_D_setGlue_61 : decode b_D_setGlue 61 = .ok (.arraylength, 1) := by decide +kernel
theorem d_D_setGlue_62 : decode b_D_setGlue 62 = .ok (.if_icmp .ge 87, 3) := by decide +kernel
theorem d_D_setGlue_65 : decode b_D_setGlue 65 = .ok (.aload_n 0, 1) := by decide +kernel
theorem d_D_setGlue_66 : decode b_D_setGlue 66 = .ok (.getfield 117, 3) := by decide +kernel
theorem d_D_setGlue_69 : decode b_D_setGlue 69 = .ok (.iload 14, 2) := by decide +kernel
theorem d_D_setGlue_71 : decode b_D_setGlue 71 = .ok (.invokevirtual 139, 3) := by decide +kernel
theorem d_D_setGlue_74 : decode b_D_setGlue 74 = .ok (.checkcast 40, 3) := by decide +kernel
theorem d_D_setGlue_77 : decode b_D_setGlue 77 = .ok (.astore 15, 2) := by decide +kernel
theorem d_D_setGlue_79 : decode b_D_setGlue 79 = .ok (.lload 10, 2) := by decide +kernel
theorem d_D_setGlue_81 : decode b_D_setGlue 81 = .ok (.lload_n 2, 1) := by decide +kernel
theorem d_D_setGlue_82 : decode b_D_setGlue 82 = .ok (.lconst 0, 1) := by decide +kernel
theorem d_D_setGlue_83 : decode b_D_setGlue 83 = .ok (.lcmp, 1) := by decide +kernel
theorem d_D_setGlue_84 : decode b_D_setGlue 84 = .ok (.ifCond .ge 12, 3) := by decide +kernel
theorem d_D_setGlue_87 : decode b_D_setGlue 87 = .ok (.aload 15, 2) := by decide +kernel
theorem d_D_setGlue_89 : decode b_D_setGlue 89 = .ok (.getfield 209, 3) := by decide +kernel
theorem d_D_setGlue_92 : decode b_D_setGlue 92 = .ok (.i2l, 1) := by decide +kernel
theorem d_D_setGlue_93 : decode b_D_setGlue 93 = .ok (.goto 11, 3) := by decide +kernel
theorem d_D_setGlue_96 : decode b_D_setGlue 96 = .ok (.aload 15, 2) := by decide +kernel
theorem d_D_setGlue_98 : decode b_D_setGlue 98 = .ok (.iload 5, 2) := by decide +kernel
theorem d_D_setGlue_100 : decode b_D_setGlue 100 = .ok (.invokevirtual 212, 3) := by decide +kernel
theorem d_D_setGlue_103 : decode b_D_setGlue 103 = .ok (.i2l, 1) := by decide +kernel
theorem d_D_setGlue_104 : decode b_D_setGlue 104 = .ok (.ladd, 1) := by decide +kernel
theorem d_D_setGlue_105 : decode b_D_setGlue 105 = .ok (.lstore 10, 2) := by decide +kernel
theorem d_D_setGlue_107 : decode b_D_setGlue 107 = .ok (.lload 8, 2) := by decide +kernel
theorem d_D_setGlue_109 : decode b_D_setGlue 109 = .ok (.lload 10, 2) := by decide +kernel
theorem d_D_setGlue_111 : decode b_D_setGlue 111 = .ok (.lmul, 1) := by decide +kernel
theorem d_D_setGlue_112 : decode b_D_setGlue 112 = .ok (.lload 6, 2) := by decide +kernel
theorem d_D_setGlue_114 : decode b_D_setGlue 114 = .ok (.invokestatic 215, 3) := by decide +kernel
theorem d_D_setGlue_117 : decode b_D_setGlue 117 = .ok (.lstore 16, 2) := by decide +kernel
theorem d_D_setGlue_119 : decode b_D_setGlue 119 = .ok (.aload 4, 2) := by decide +kernel
theorem d_D_setGlue_121 : decode b_D_setGlue 121 = .ok (.iload 14, 2) := by decide +kernel
theorem d_D_setGlue_123 : decode b_D_setGlue 123 = .ok (.aload 15, 2) := by decide +kernel
theorem d_D_setGlue_125 : decode b_D_setGlue 125 = .ok (.getfield 218, 3) := by decide +kernel
theorem d_D_setGlue_128 : decode b_D_setGlue 128 = .ok (.i2l, 1) := by decide +kernel
theorem d_D_setGlue_129 : decode b_D_setGlue 129 = .ok (.lload 16, 2) := by decide +kernel
theorem d_D_setGlue_131 : decode b_D_setGlue 131 = .ok (.ladd, 1) := by decide +kernel
theorem d_D_setGlue_132 : decode b_D_setGlue 132 = .ok (.lload 12, 2) := by decide +kernel
theorem d_D_setGlue_134 : decode b_D_setGlue 134 = .ok (.lsub, 1) := by decide +kernel
theorem d_D_setGlue_135 : decode b_D_setGlue 135 = .ok (.invokestatic 219, 3) := by decide +kernel
theorem d_D_setGlue_138 : decode b_D_setGlue 138 = .ok (.iastore, 1) := by decide +kernel
theorem d_D_setGlue_139 : decode b_D_setGlue 139 = .ok (.lload 16, 2) := by decide +kernel
theorem d_D_setGlue_141 : decode b_D_setGlue 141 = .ok (.lstore 12, 2) := by decide +kernel
theorem d_D_setGlue_143 : decode b_D_setGlue 143 = .ok (.iinc 14 1, 3) := by decide +kernel
theorem d_D_setGlue_146 : decode b_D_setGlue 146 = .ok (.goto (-89), 3) := by decide +kernel
theorem d_D_setGlue_149 : decode b_D_setGlue 149 = .ok (.aload 4, 2) := by decide +kernel
theorem d_D_setGlue_151 : decode b_D_setGlue 151 = .ok (.areturn, 1) := by decide +kernel
abbrev b_D_size : ByteArray := prog_1_method_11_code
def y_D_size : MethodName := ⟨"BoxDesk", "size", "(III)Z"⟩
theorem d_D_size_0 : decode b_D_size 0 = .ok (.aload_n 0, 1) := by decide +kernel
theorem d_D_size_1 : decode b_D_size 1 = .ok (.iload_n 1, 1) := by decide +kernel
theorem d_D_size_2 : decode b_D_size 2 = .ok (.invokevirtual 113, 3) := by decide +kernel
theorem d_D_size_5 : decode b_D_size 5 = .ok (.astore 4, 2) := by decide +kernel
theorem d_D_size_7 : decode b_D_size 7 = .ok (.aload 4, 2) := by decide +kernel
theorem d_D_size_9 : decode b_D_size 9 = .ok (.ifnull 11, 3) := by decide +kernel
theorem d_D_size_12 : decode b_D_size 12 = .ok (.iload_n 3, 1) := by decide +kernel
theorem d_D_size_13 : decode b_D_size 13 = .ok (.i2l, 1) := by decide +kernel
theorem d_D_size_14 : decode b_D_size 14 = .ok (.invokestatic 56, 3) := by decide +kernel
theorem d_D_size_17 : decode b_D_size 17 = .ok (.ifCond .ne 5, 3) := by decide +kernel
theorem d_D_size_20 : decode b_D_size 20 = .ok (.iconst 0, 1) := by decide +kernel
theorem d_D_size_21 : decode b_D_size 21 = .ok (.ireturn, 1) := by decide +kernel
theorem d_D_size_22 : decode b_D_size 22 = .ok (.iload_n 2, 1) := by decide +kernel
theorem d_D_size_23 : decode b_D_size 23 = .ok (.tableswitch 49 0 2 #[25, 33, 41], 25) := by decide +kernel
theorem d_D_size_48 : decode b_D_size 48 = .ok (.aload 4, 2) := by decide +kernel
theorem d_D_size_50 : decode b_D_size 50 = .ok (.iload_n 3, 1) := by decide +kernel
theorem d_D_size_51 : decode b_D_size 51 = .ok (.putfield 143, 3) := by decide +kernel
theorem d_D_size_54 : decode b_D_size 54 = .ok (.iconst 1, 1) := by decide +kernel
theorem d_D_size_55 : decode b_D_size 55 = .ok (.ireturn, 1) := by decide +kernel
theorem d_D_size_56 : decode b_D_size 56 = .ok (.aload 4, 2) := by decide +kernel
theorem d_D_size_58 : decode b_D_size 58 = .ok (.iload_n 3, 1) := by decide +kernel
theorem d_D_size_59 : decode b_D_size 59 = .ok (.putfield 146, 3) := by decide +kernel
theorem d_D_size_62 : decode b_D_size 62 = .ok (.iconst 1, 1) := by decide +kernel
theorem d_D_size_63 : decode b_D_size 63 = .ok (.ireturn, 1) := by decide +kernel
theorem d_D_size_64 : decode b_D_size 64 = .ok (.aload 4, 2) := by decide +kernel
theorem d_D_size_66 : decode b_D_size 66 = .ok (.iload_n 3, 1) := by decide +kernel
theorem d_D_size_67 : decode b_D_size 67 = .ok (.putfield 149, 3) := by decide +kernel
theorem d_D_size_70 : decode b_D_size 70 = .ok (.iconst 1, 1) := by decide +kernel
theorem d_D_size_71 : decode b_D_size 71 = .ok (.ireturn, 1) := by decide +kernel
theorem d_D_size_72 : decode b_D_size 72 = .ok (.iconst 0, 1) := by decide +kernel
theorem d_D_size_73 : decode b_D_size 73 = .ok (.ireturn, 1) := by decide +kernel
abbrev b_D_unbox : ByteArray := prog_1_method_10_code
def y_D_unbox : MethodName := ⟨"BoxDesk", "unbox", "(I)Z"⟩
theorem d_D_unbox_0 : decode b_D_unbox 0 = .ok (.aload_n 0, 1) := by decide +kernel
theorem d_D_unbox_1 : decode b_D_unbox 1 = .ok (.invokevirtual 28, 3) := by decide +kernel
theorem d_D_unbox_4 : decode b_D_unbox 4 = .ok (.astore_n 2, 1) := by decide +kernel
theorem d_D_unbox_5 : decode b_D_unbox 5 = .ok (.aload_n 0, 1) := by decide +kernel
theorem d_D_unbox_6 : decode b_D_unbox 6 = .ok (.iload_n 1, 1) := by decide +kernel
theorem d_D_unbox_7 : decode b_D_unbox 7 = .ok (.invokevirtual 113, 3) := by decide +kernel
theorem d_D_unbox_10 : decode b_D_unbox 10 = .ok (.astore_n 3, 1) := by decide +kernel
theorem d_D_unbox_11 : decode b_D_unbox 11 = .ok (.aload_n 2, 1) := by decide +kernel
theorem d_D_unbox_12 : decode b_D_unbox 12 = .ok (.ifnull 21, 3) := by decide +kernel
theorem d_D_unbox_15 : decode b_D_unbox 15 = .ok (.aload_n 3, 1) := by decide +kernel
theorem d_D_unbox_16 : decode b_D_unbox 16 = .ok (.ifnull 17, 3) := by decide +kernel
theorem d_D_unbox_19 : decode b_D_unbox 19 = .ok (.aload_n 3, 1) := by decide +kernel
theorem d_D_unbox_20 : decode b_D_unbox 20 = .ok (.getfield 131, 3) := by decide +kernel
theorem d_D_unbox_23 : decode b_D_unbox 23 = .ok (.getfield 32, 3) := by decide +kernel
theorem d_D_unbox_26 : decode b_D_unbox 26 = .ok (.aload_n 2, 1) := by decide +kernel
theorem d_D_unbox_27 : decode b_D_unbox 27 = .ok (.getfield 32, 3) := by decide +kernel
theorem d_D_unbox_30 : decode b_D_unbox 30 = .ok (.if_icmp .eq 5, 3) := by decide +kernel
theorem d_D_unbox_33 : decode b_D_unbox 33 = .ok (.iconst 0, 1) := by decide +kernel
theorem d_D_unbox_34 : decode b_D_unbox 34 = .ok (.ireturn, 1) := by decide +kernel
theorem d_D_unbox_35 : decode b_D_unbox 35 = .ok (.aload_n 3, 1) := by decide +kernel
theorem d_D_unbox_36 : decode b_D_unbox 36 = .ok (.getfield 131, 3) := by decide +kernel
theorem d_D_unbox_39 : decode b_D_unbox 39 = .ok (.getfield 117, 3) := by decide +kernel
theorem d_D_unbox_42 : decode b_D_unbox 42 = .ok (.astore 4, 2) := by decide +kernel
theorem d_D_unbox_44 : decode b_D_unbox 44 = .ok (.iconst 0, 1) := by decide +kernel
theorem d_D_unbox_45 : decode b_D_unbox 45 = .ok (.istore 5, 2) := by decide +kernel
theorem d_D_unbox_47 : decode b_D_unbox 47 = .ok (.iload 5, 2) := by decide +kernel
theorem d_D_unbox_49 : decode b_D_unbox 49 = .ok (.aload 4, 2) := by decide +kernel
theorem d_D_unbox_51 : decode b_D_unbox 51 = .ok (.invokevirtual 135, 3) := by decide +kernel
theorem d_D_unbox_54 : decode b_D_unbox 54 = .ok (.if_icmp .ge 27, 3) := by decide +kernel
theorem d_D_unbox_57 : decode b_D_unbox 57 = .ok (.aload_n 2, 1) := by decide +kernel
theorem d_D_unbox_58 : decode b_D_unbox 58 = .ok (.getfield 117, 3) := by decide +kernel
theorem d_D_unbox_61 : decode b_D_unbox 61 = .ok (.aload 4, 2) := by decide +kernel
theorem d_D_unbox_63 : decode b_D_unbox 63 = .ok (.iload 5, 2) := by decide +kernel
theorem d_D_unbox_65 : decode b_D_unbox 65 = .ok (.invokevirtual 139, 3) := by decide +kernel
theorem d_D_unbox_68 : decode b_D_unbox 68 = .ok (.checkcast 40, 3) := by decide +kernel
theorem d_D_unbox_71 : decode b_D_unbox 71 = .ok (.invokevirtual 125, 3) := by decide +kernel
theorem d_D_unbox_74 : decode b_D_unbox 74 = .ok (.pop, 1) := by decide +kernel
theorem d_D_unbox_75 : decode b_D_unbox 75 = .ok (.iinc 5 1, 3) := by decide +kernel
theorem d_D_unbox_78 : decode b_D_unbox 78 = .ok (.goto (-31), 3) := by decide +kernel
theorem d_D_unbox_81 : decode b_D_unbox 81 = .ok (.aload_n 0, 1) := by decide +kernel
theorem d_D_unbox_82 : decode b_D_unbox 82 = .ok (.dup, 1) := by decide +kernel
theorem d_D_unbox_83 : decode b_D_unbox 83 = .ok (.getfield 94, 3) := by decide +kernel
theorem d_D_unbox_86 : decode b_D_unbox 86 = .ok (.iconst 1, 1) := by decide +kernel
theorem d_D_unbox_87 : decode b_D_unbox 87 = .ok (.isub, 1) := by decide +kernel
theorem d_D_unbox_88 : decode b_D_unbox 88 = .ok (.putfield 94, 3) := by decide +kernel
theorem d_D_unbox_91 : decode b_D_unbox 91 = .ok (.aload_n 0, 1) := by decide +kernel
theorem d_D_unbox_92 : decode b_D_unbox 92 = .ok (.getfield 17, 3) := by decide +kernel
theorem d_D_unbox_95 : decode b_D_unbox 95 = .ok (.iload_n 1, 1) := by decide +kernel
theorem d_D_unbox_96 : decode b_D_unbox 96 = .ok (.aconst_null, 1) := by decide +kernel
theorem d_D_unbox_97 : decode b_D_unbox 97 = .ok (.aastore, 1) := by decide +kernel
theorem d_D_unbox_98 : decode b_D_unbox 98 = .ok (.iconst 1, 1) := by decide +kernel
theorem d_D_unbox_99 : decode b_D_unbox 99 = .ok (.ireturn, 1) := by decide +kernel
abbrev b_D_wanted : ByteArray := prog_1_method_22_code
def y_D_wanted : MethodName := ⟨"BoxDesk", "wanted", "(IIJ)J"⟩
theorem d_D_wanted_0 : decode b_D_wanted 0 = .ok (.iload_n 0, 1) := by decide +kernel
theorem d_D_wanted_1 : decode b_D_wanted 1 = .ok (.iconst 2, 1) := by decide +kernel
theorem d_D_wanted_2 : decode b_D_wanted 2 = .ok (.if_icmp .ne 6, 3) := by decide +kernel
theorem d_D_wanted_5 : decode b_D_wanted 5 = .ok (.iload_n 1, 1) := by decide +kernel
theorem d_D_wanted_6 : decode b_D_wanted 6 = .ok (.i2l, 1) := by decide +kernel
theorem d_D_wanted_7 : decode b_D_wanted 7 = .ok (.lreturn, 1) := by decide +kernel
theorem d_D_wanted_8 : decode b_D_wanted 8 = .ok (.iload_n 0, 1) := by decide +kernel
theorem d_D_wanted_9 : decode b_D_wanted 9 = .ok (.iconst 1, 1) := by decide +kernel
theorem d_D_wanted_10 : decode b_D_wanted 10 = .ok (.if_icmp .ne 10, 3) := by decide +kernel
theorem d_D_wanted_13 : decode b_D_wanted 13 = .ok (.lload_n 2, 1) := by decide +kernel
theorem d_D_wanted_14 : decode b_D_wanted 14 = .ok (.iload_n 1, 1) := by decide +kernel
theorem d_D_wanted_15 : decode b_D_wanted 15 = .ok (.i2l, 1) := by decide +kernel
theorem d_D_wanted_16 : decode b_D_wanted 16 = .ok (.ladd, 1) := by decide +kernel
theorem d_D_wanted_17 : decode b_D_wanted 17 = .ok (.goto 4, 3) := by decide +kernel
theorem d_D_wanted_20 : decode b_D_wanted 20 = .ok (.lload_n 2, 1) := by decide +kernel
theorem d_D_wanted_21 : decode b_D_wanted 21 = .ok (.lreturn, 1) := by decide +kernel
abbrev b_I_init : ByteArray := prog_3_method_1_code
def y_I_init : MethodName := ⟨"BoxDesk$Item", "<init>", "(IIII)V"⟩
theorem d_I_init_0 : decode b_I_init 0 = .ok (.aload_n 0, 1) := by decide +kernel
theorem d_I_init_1 : decode b_I_init 1 = .ok (.invokespecial 3, 3) := by decide +kernel
theorem d_I_init_4 : decode b_I_init 4 = .ok (.aload_n 0, 1) := by decide +kernel
theorem d_I_init_5 : decode b_I_init 5 = .ok (.iload_n 1, 1) := by decide +kernel
theorem d_I_init_6 : decode b_I_init 6 = .ok (.putfield 9, 3) := by decide +kernel
theorem d_I_init_9 : decode b_I_init 9 = .ok (.aload_n 0, 1) := by decide +kernel
theorem d_I_init_10 : decode b_I_init 10 = .ok (.iload_n 2, 1) := by decide +kernel
theorem d_I_init_11 : decode b_I_init 11 = .ok (.putfield 15, 3) := by decide +kernel
theorem d_I_init_14 : decode b_I_init 14 = .ok (.aload_n 0, 1) := by decide +kernel
theorem d_I_init_15 : decode b_I_init 15 = .ok (.iload_n 3, 1) := by decide +kernel
theorem d_I_init_16 : decode b_I_init 16 = .ok (.putfield 18, 3) := by decide +kernel
theorem d_I_init_19 : decode b_I_init 19 = .ok (.aload_n 0, 1) := by decide +kernel
theorem d_I_init_20 : decode b_I_init 20 = .ok (.iload 4, 2) := by decide +kernel
theorem d_I_init_22 : decode b_I_init 22 = .ok (.putfield 21, 3) := by decide +kernel
theorem d_I_init_25 : decode b_I_init 25 = .ok (.return_, 1) := by decide +kernel
abbrev b_I_isBoxOrRule : ByteArray := prog_3_method_6_code
def y_I_isBoxOrRule : MethodName := ⟨"BoxDesk$Item", "isBoxOrRule", "()Z"⟩
theorem d_I_isBoxOrRule_0 : decode b_I_isBoxOrRule 0 = .ok (.aload_n 0, 1) := by decide +kernel
theorem d_I_isBoxOrRule_1 : decode b_I_isBoxOrRule 1 = .ok (.getfield 9, 3) := by decide +kernel
theorem d_I_isBoxOrRule_4 : decode b_I_isBoxOrRule 4 = .ok (.iconst 2, 1) := by decide +kernel
theorem d_I_isBoxOrRule_5 : decode b_I_isBoxOrRule 5 = .ok (.if_icmp .eq 19, 3) := by decide +kernel
theorem d_I_isBoxOrRule_8 : decode b_I_isBoxOrRule 8 = .ok (.aload_n 0, 1) := by decide +kernel
theorem d_I_isBoxOrRule_9 : decode b_I_isBoxOrRule 9 = .ok (.getfield 9, 3) := by decide +kernel
theorem d_I_isBoxOrRule_12 : decode b_I_isBoxOrRule 12 = .ok (.iconst 3, 1) := by decide +kernel
theorem d_I_isBoxOrRule_13 : decode b_I_isBoxOrRule 13 = .ok (.if_icmp .eq 11, 3) := by decide +kernel
theorem d_I_isBoxOrRule_16 : decode b_I_isBoxOrRule 16 = .ok (.aload_n 0, 1) := by decide +kernel
theorem d_I_isBoxOrRule_17 : decode b_I_isBoxOrRule 17 = .ok (.getfield 9, 3) := by decide +kernel
theorem d_I_isBoxOrRule_20 : decode b_I_isBoxOrRule 20 = .ok (.iconst 4, 1) := by decide +kernel
theorem d_I_isBoxOrRule_21 : decode b_I_isBoxOrRule 21 = .ok (.if_icmp .ne 7, 3) := by decide +kernel
theorem d_I_isBoxOrRule_24 : decode b_I_isBoxOrRule 24 = .ok (.iconst 1, 1) := by decide +kernel
theorem d_I_isBoxOrRule_25 : decode b_I_isBoxOrRule 25 = .ok (.goto 4, 3) := by decide +kernel
theorem d_I_isBoxOrRule_28 : decode b_I_isBoxOrRule 28 = .ok (.iconst 0, 1) := by decide +kernel
theorem d_I_isBoxOrRule_29 : decode b_I_isBoxOrRule 29 = .ok (.ireturn, 1) := by decide +kernel
abbrev b_I_ofBox : ByteArray := prog_3_method_5_code
def y_I_ofBox : MethodName := ⟨"BoxDesk$Item", "ofBox", "(LBoxDesk$Box;I)LBoxDesk$Item;"⟩
theorem d_I_ofBox_0 : decode b_I_ofBox 0 = .ok (.new 10, 3) := by decide +kernel
theorem d_I_ofBox_3 : decode b_I_ofBox 3 = .ok (.dup, 1) := by decide +kernel
theorem d_I_ofBox_4 : decode b_I_ofBox 4 = .ok (.aload_n 0, 1) := by decide +kernel
theorem d_I_ofBox_5 : decode b_I_ofBox 5 = .ok (.getfield 42, 3) := by decide +kernel
theorem d_I_ofBox_8 : decode b_I_ofBox 8 = .ok (.getfield 48, 3) := by decide +kernel
theorem d_I_ofBox_11 : decode b_I_ofBox 11 = .ok (.ifCond .eq 7, 3) := by decide +kernel
theorem d_I_ofBox_14 : decode b_I_ofBox 14 = .ok (.iconst 3, 1) := by decide +kernel
theorem d_I_ofBox_15 : decode b_I_ofBox 15 = .ok (.goto 4, 3) := by decide +kernel
theorem d_I_ofBox_18 : decode b_I_ofBox 18 = .ok (.iconst 2, 1) := by decide +kernel
theorem d_I_ofBox_19 : decode b_I_ofBox 19 = .ok (.aload_n 0, 1) := by decide +kernel
theorem d_I_ofBox_20 : decode b_I_ofBox 20 = .ok (.getfield 54, 3) := by decide +kernel
theorem d_I_ofBox_23 : decode b_I_ofBox 23 = .ok (.aload_n 0, 1) := by decide +kernel
theorem d_I_ofBox_24 : decode b_I_ofBox 24 = .ok (.getfield 55, 3) := by decide +kernel
theorem d_I_ofBox_27 : decode b_I_ofBox 27 = .ok (.aload_n 0, 1) := by decide +kernel
theorem d_I_ofBox_28 : decode b_I_ofBox 28 = .ok (.getfield 56, 3) := by decide +kernel
theorem d_I_ofBox_31 : decode b_I_ofBox 31 = .ok (.invokespecial 24, 3) := by decide +kernel
theorem d_I_ofBox_34 : decode b_I_ofBox 34 = .ok (.astore_n 2, 1) := by decide +kernel
theorem d_I_ofBox_35 : decode b_I_ofBox 35 = .ok (.aload_n 2, 1) := by decide +kernel
theorem d_I_ofBox_36 : decode b_I_ofBox 36 = .ok (.iload_n 1, 1) := by decide +kernel
theorem d_I_ofBox_37 : decode b_I_ofBox 37 = .ok (.putfield 57, 3) := by decide +kernel
theorem d_I_ofBox_40 : decode b_I_ofBox 40 = .ok (.aload_n 2, 1) := by decide +kernel
theorem d_I_ofBox_41 : decode b_I_ofBox 41 = .ok (.aload_n 0, 1) := by decide +kernel
theorem d_I_ofBox_42 : decode b_I_ofBox 42 = .ok (.getfield 60, 3) := by decide +kernel
theorem d_I_ofBox_45 : decode b_I_ofBox 45 = .ok (.putfield 63, 3) := by decide +kernel
theorem d_I_ofBox_48 : decode b_I_ofBox 48 = .ok (.aload_n 2, 1) := by decide +kernel
theorem d_I_ofBox_49 : decode b_I_ofBox 49 = .ok (.aload_n 0, 1) := by decide +kernel
theorem d_I_ofBox_50 : decode b_I_ofBox 50 = .ok (.getfield 64, 3) := by decide +kernel
theorem d_I_ofBox_53 : decode b_I_ofBox 53 = .ok (.putfield 67, 3) := by decide +kernel
theorem d_I_ofBox_56 : decode b_I_ofBox 56 = .ok (.aload_n 2, 1) := by decide +kernel
theorem d_I_ofBox_57 : decode b_I_ofBox 57 = .ok (.areturn, 1) := by decide +kernel
abbrev b_I_ofGlue : ByteArray := prog_3_method_3_code
def y_I_ofGlue : MethodName := ⟨"BoxDesk$Item", "ofGlue", "(IIII)LBoxDesk$Item;"⟩
theorem d_I_ofGlue_0 : decode b_I_ofGlue 0 = .ok (.new 10, 3) := by decide +kernel
theorem d_I_ofGlue_3 : decode b_I_ofGlue 3 = .ok (.dup, 1) := by decide +kernel
theorem d_I_ofGlue_4 : decode b_I_ofGlue 4 = .ok (.iconst 5, 1) := by decide +kernel
theorem d_I_ofGlue_5 : decode b_I_ofGlue 5 = .ok (.iload_n 0, 1) := by decide +kernel
theorem d_I_ofGlue_6 : decode b_I_ofGlue 6 = .ok (.iconst 0, 1) := by decide +kernel
theorem d_I_ofGlue_7 : decode b_I_ofGlue 7 = .ok (.iconst 0, 1) := by decide +kernel
theorem d_I_ofGlue_8 : decode b_I_ofGlue 8 = .ok (.invokespecial 24, 3) := by decide +kernel
theorem d_I_ofGlue_11 : decode b_I_ofGlue 11 = .ok (.astore 4, 2) := by decide +kernel
theorem d_I_ofGlue_13 : decode b_I_ofGlue 13 = .ok (.aload 4, 2) := by decide +kernel
theorem d_I_ofGlue_15 : decode b_I_ofGlue 15 = .ok (.iload_n 1, 1) := by decide +kernel
theorem d_I_ofGlue_16 : decode b_I_ofGlue 16 = .ok (.putfield 30, 3) := by decide +kernel
theorem d_I_ofGlue_19 : decode b_I_ofGlue 19 = .ok (.aload 4, 2) := by decide +kernel
theorem d_I_ofGlue_21 : decode b_I_ofGlue 21 = .ok (.iload_n 2, 1) := by decide +kernel
theorem d_I_ofGlue_22 : decode b_I_ofGlue 22 = .ok (.putfield 33, 3) := by decide +kernel
theorem d_I_ofGlue_25 : decode b_I_ofGlue 25 = .ok (.aload 4, 2) := by decide +kernel
theorem d_I_ofGlue_27 : decode b_I_ofGlue 27 = .ok (.iload_n 3, 1) := by decide +kernel
theorem d_I_ofGlue_28 : decode b_I_ofGlue 28 = .ok (.putfield 36, 3) := by decide +kernel
theorem d_I_ofGlue_31 : decode b_I_ofGlue 31 = .ok (.aload 4, 2) := by decide +kernel
theorem d_I_ofGlue_33 : decode b_I_ofGlue 33 = .ok (.areturn, 1) := by decide +kernel
abbrev b_I_ofPenalty : ByteArray := prog_3_method_4_code
def y_I_ofPenalty : MethodName := ⟨"BoxDesk$Item", "ofPenalty", "(I)LBoxDesk$Item;"⟩
theorem d_I_ofPenalty_0 : decode b_I_ofPenalty 0 = .ok (.new 10, 3) := by decide +kernel
theorem d_I_ofPenalty_3 : decode b_I_ofPenalty 3 = .ok (.dup, 1) := by decide +kernel
theorem d_I_ofPenalty_4 : decode b_I_ofPenalty 4 = .ok (.bipush 7, 2) := by decide +kernel
theorem d_I_ofPenalty_6 : decode b_I_ofPenalty 6 = .ok (.iconst 0, 1) := by decide +kernel
theorem d_I_ofPenalty_7 : decode b_I_ofPenalty 7 = .ok (.iconst 0, 1) := by decide +kernel
theorem d_I_ofPenalty_8 : decode b_I_ofPenalty 8 = .ok (.iconst 0, 1) := by decide +kernel
theorem d_I_ofPenalty_9 : decode b_I_ofPenalty 9 = .ok (.invokespecial 24, 3) := by decide +kernel
theorem d_I_ofPenalty_12 : decode b_I_ofPenalty 12 = .ok (.astore_n 1, 1) := by decide +kernel
theorem d_I_ofPenalty_13 : decode b_I_ofPenalty 13 = .ok (.aload_n 1, 1) := by decide +kernel
theorem d_I_ofPenalty_14 : decode b_I_ofPenalty 14 = .ok (.iload_n 0, 1) := by decide +kernel
theorem d_I_ofPenalty_15 : decode b_I_ofPenalty 15 = .ok (.putfield 39, 3) := by decide +kernel
theorem d_I_ofPenalty_18 : decode b_I_ofPenalty 18 = .ok (.aload_n 1, 1) := by decide +kernel
theorem d_I_ofPenalty_19 : decode b_I_ofPenalty 19 = .ok (.areturn, 1) := by decide +kernel
abbrev b_I_ofRule : ByteArray := prog_3_method_2_code
def y_I_ofRule : MethodName := ⟨"BoxDesk$Item", "ofRule", "(IIII)LBoxDesk$Item;"⟩
theorem d_I_ofRule_0 : decode b_I_ofRule 0 = .ok (.new 10, 3) := by decide +kernel
theorem d_I_ofRule_3 : decode b_I_ofRule 3 = .ok (.dup, 1) := by decide +kernel
theorem d_I_ofRule_4 : decode b_I_ofRule 4 = .ok (.iconst 4, 1) := by decide +kernel
theorem d_I_ofRule_5 : decode b_I_ofRule 5 = .ok (.iload_n 0, 1) := by decide +kernel
theorem d_I_ofRule_6 : decode b_I_ofRule 6 = .ok (.iload_n 1, 1) := by decide +kernel
theorem d_I_ofRule_7 : decode b_I_ofRule 7 = .ok (.iload_n 2, 1) := by decide +kernel
theorem d_I_ofRule_8 : decode b_I_ofRule 8 = .ok (.invokespecial 24, 3) := by decide +kernel
theorem d_I_ofRule_11 : decode b_I_ofRule 11 = .ok (.astore 4, 2) := by decide +kernel
theorem d_I_ofRule_13 : decode b_I_ofRule 13 = .ok (.aload 4, 2) := by decide +kernel
theorem d_I_ofRule_15 : decode b_I_ofRule 15 = .ok (.iload_n 3, 1) := by decide +kernel
theorem d_I_ofRule_16 : decode b_I_ofRule 16 = .ok (.putfield 27, 3) := by decide +kernel
theorem d_I_ofRule_19 : decode b_I_ofRule 19 = .ok (.aload 4, 2) := by decide +kernel
theorem d_I_ofRule_21 : decode b_I_ofRule 21 = .ok (.areturn, 1) := by decide +kernel
abbrev b_I_runs : ByteArray := prog_3_method_7_code
def y_I_runs : MethodName := ⟨"BoxDesk$Item", "runs", "(I)Z"⟩
theorem d_I_runs_0 : decode b_I_runs 0 = .ok (.aload_n 0, 1) := by decide +kernel
theorem d_I_runs_1 : decode b_I_runs 1 = .ok (.getfield 27, 3) := by decide +kernel
theorem d_I_runs_4 : decode b_I_runs 4 = .ok (.iload_n 1, 1) := by decide +kernel
theorem d_I_runs_5 : decode b_I_runs 5 = .ok (.iand, 1) := by decide +kernel
theorem d_I_runs_6 : decode b_I_runs 6 = .ok (.ifCond .eq 7, 3) := by decide +kernel
theorem d_I_runs_9 : decode b_I_runs 9 = .ok (.iconst 1, 1) := by decide +kernel
theorem d_I_runs_10 : decode b_I_runs 10 = .ok (.goto 4, 3) := by decide +kernel
theorem d_I_runs_13 : decode b_I_runs 13 = .ok (.iconst 0, 1) := by decide +kernel
theorem d_I_runs_14 : decode b_I_runs 14 = .ok (.ireturn, 1) := by decide +kernel
abbrev b_I_stretchOf : ByteArray := prog_3_method_8_code
def y_I_stretchOf : MethodName := ⟨"BoxDesk$Item", "stretchOf", "(I)I"⟩
theorem d_I_stretchOf_0 : decode b_I_stretchOf 0 = .ok (.aload_n 0, 1) := by decide +kernel
theorem d_I_stretchOf_1 : decode b_I_stretchOf 1 = .ok (.getfield 33, 3) := by decide +kernel
theorem d_I_stretchOf_4 : decode b_I_stretchOf 4 = .ok (.iload_n 1, 1) := by decide +kernel
theorem d_I_stretchOf_5 : decode b_I_stretchOf 5 = .ok (.if_icmp .ne 10, 3) := by decide +kernel
theorem d_I_stretchOf_8 : decode b_I_stretchOf 8 = .ok (.aload_n 0, 1) := by decide +kernel
theorem d_I_stretchOf_9 : decode b_I_stretchOf 9 = .ok (.getfield 30, 3) := by decide +kernel
theorem d_I_stretchOf_12 : decode b_I_stretchOf 12 = .ok (.goto 4, 3) := by decide +kernel
theorem d_I_stretchOf_15 : decode b_I_stretchOf 15 = .ok (.iconst 0, 1) := by decide +kernel
theorem d_I_stretchOf_16 : decode b_I_stretchOf 16 = .ok (.ireturn, 1) := by decide +kernel
abbrev b_I_tell : ByteArray := prog_3_method_10_code
def y_I_tell : MethodName := ⟨"BoxDesk$Item", "tell", "(I)I"⟩
theorem d_I_tell_0 : decode b_I_tell 0 = .ok (.iload_n 1, 1) := by decide +kernel
theorem d_I_tell_1 : decode b_I_tell 1 = .ok (.tableswitch 114 0 4 #[35, 40, 58, 76, 94], 35) := by decide +kernel
theorem d_I_tell_36 : decode b_I_tell 36 = .ok (.aload_n 0, 1) := by decide +kernel
theorem d_I_tell_37 : decode b_I_tell 37 = .ok (.getfield 9, 3) := by decide +kernel
theorem d_I_tell_40 : decode b_I_tell 40 = .ok (.ireturn, 1) := by decide +kernel
theorem d_I_tell_41 : decode b_I_tell 41 = .ok (.aload_n 0, 1) := by decide +kernel
theorem d_I_tell_42 : decode b_I_tell 42 = .ok (.iconst 1, 1) := by decide +kernel
theorem d_I_tell_43 : decode b_I_tell 43 = .ok (.invokevirtual 68, 3) := by decide +kernel
theorem d_I_tell_46 : decode b_I_tell 46 = .ok (.ifCond .eq 8, 3) := by decide +kernel
theorem d_I_tell_49 : decode b_I_tell 49 = .ok (.ldc 72, 2) := by decide +kernel
theorem d_I_tell_51 : decode b_I_tell 51 = .ok (.goto 7, 3) := by decide +kernel
theorem d_I_tell_54 : decode b_I_tell 54 = .ok (.aload_n 0, 1) := by decide +kernel
theorem d_I_tell_55 : decode b_I_tell 55 = .ok (.invokevirtual 73, 3) := by decide +kernel
theorem d_I_tell_58 : decode b_I_tell 58 = .ok (.ireturn, 1) := by decide +kernel
theorem d_I_tell_59 : decode b_I_tell 59 = .ok (.aload_n 0, 1) := by decide +kernel
theorem d_I_tell_60 : decode b_I_tell 60 = .ok (.iconst 2, 1) := by decide +kernel
theorem d_I_tell_61 : decode b_I_tell 61 = .ok (.invokevirtual 68, 3) := by decide +kernel
theorem d_I_tell_64 : decode b_I_tell 64 = .ok (.ifCond .eq 8, 3) := by decide +kernel
theorem d_I_tell_67 : decode b_I_tell 67 = .ok (.ldc 72, 2) := by decide +kernel
theorem d_I_tell_69 : decode b_I_tell 69 = .ok (.goto 7, 3) := by decide +kernel
theorem d_I_tell_72 : decode b_I_tell 72 = .ok (.aload_n 0, 1) := by decide +kernel
theorem d_I_tell_73 : decode b_I_tell 73 = .ok (.getfield 18, 3) := by decide +kernel
theorem d_I_tell_76 : decode b_I_tell 76 = .ok (.ireturn, 1) := by decide +kernel
theorem d_I_tell_77 : decode b_I_tell 77 = .ok (.aload_n 0, 1) := by decide +kernel
theorem d_I_tell_78 : decode b_I_tell 78 = .ok (.iconst 4, 1) := by decide +kernel
theorem d_I_tell_79 : decode b_I_tell 79 = .ok (.invokevirtual 68, 3) := by decide +kernel
theorem d_I_tell_82 : decode b_I_tell 82 = .ok (.ifCond .eq 8, 3) := by decide +kernel
theorem d_I_tell_85 : decode b_I_tell 85 = .ok (.ldc 72, 2) := by decide +kernel
theorem d_I_tell_87 : decode b_I_tell 87 = .ok (.goto 7, 3) := by decide +kernel
theorem d_I_tell_90 : decode b_I_tell 90 = .ok (.aload_n 0, 1) := by decide +kernel
theorem d_I_tell_91 : decode b_I_tell 91 = .ok (.getfield 21, 3) := by decide +kernel
theorem d_I_tell_94 : decode b_I_tell 94 = .ok (.ireturn, 1) := by decide +kernel
theorem d_I_tell_95 : decode b_I_tell 95 = .ok (.aload_n 0, 1) := by decide +kernel
theorem d_I_tell_96 : decode b_I_tell 96 = .ok (.getfield 9, 3) := by decide +kernel
theorem d_I_tell_99 : decode b_I_tell 99 = .ok (.iconst 5, 1) := by decide +kernel
theorem d_I_tell_100 : decode b_I_tell 100 = .ok (.if_icmp .ne 10, 3) := by decide +kernel
theorem d_I_tell_103 : decode b_I_tell 103 = .ok (.aload_n 0, 1) := by decide +kernel
theorem d_I_tell_104 : decode b_I_tell 104 = .ok (.getfield 30, 3) := by decide +kernel
theorem d_I_tell_107 : decode b_I_tell 107 = .ok (.goto 7, 3) := by decide +kernel
theorem d_I_tell_110 : decode b_I_tell 110 = .ok (.aload_n 0, 1) := by decide +kernel
theorem d_I_tell_111 : decode b_I_tell 111 = .ok (.getfield 57, 3) := by decide +kernel
theorem d_I_tell_114 : decode b_I_tell 114 = .ok (.ireturn, 1) := by decide +kernel
theorem d_I_tell_115 : decode b_I_tell 115 = .ok (.aload_n 0, 1) := by decide +kernel
theorem d_I_tell_116 : decode b_I_tell 116 = .ok (.getfield 36, 3) := by decide +kernel
theorem d_I_tell_119 : decode b_I_tell 119 = .ok (.ireturn, 1) := by decide +kernel
abbrev b_I_widthOrNumber : ByteArray := prog_3_method_9_code
def y_I_widthOrNumber : MethodName := ⟨"BoxDesk$Item", "widthOrNumber", "()I"⟩
theorem d_I_widthOrNumber_0 : decode b_I_widthOrNumber 0 = .ok (.aload_n 0, 1) := by decide +kernel
theorem d_I_widthOrNumber_1 : decode b_I_widthOrNumber 1 = .ok (.getfield 9, 3) := by decide +kernel
theorem d_I_widthOrNumber_4 : decode b_I_widthOrNumber 4 = .ok (.bipush 7, 2) := by decide +kernel
theorem d_I_widthOrNumber_6 : decode b_I_widthOrNumber 6 = .ok (.if_icmp .ne 10, 3) := by decide +kernel
theorem d_I_widthOrNumber_9 : decode b_I_widthOrNumber 9 = .ok (.aload_n 0, 1) := by decide +kernel
theorem d_I_widthOrNumber_10 : decode b_I_widthOrNumber 10 = .ok (.getfield 39, 3) := by decide +kernel
theorem d_I_widthOrNumber_13 : decode b_I_widthOrNumber 13 = .ok (.goto 7, 3) := by decide +kernel
theorem d_I_widthOrNumber_16 : decode b_I_widthOrNumber 16 = .ok (.aload_n 0, 1) := by decide +kernel
theorem d_I_widthOrNumber_17 : decode b_I_widthOrNumber 17 = .ok (.getfield 15, 3) := by decide +kernel
theorem d_I_widthOrNumber_20 : decode b_I_widthOrNumber 20 = .ok (.ireturn, 1) := by decide +kernel
abbrev b_L_init : ByteArray := prog_4_method_1_code
def y_L_init : MethodName := ⟨"BoxDesk$ItemList", "<init>", "(Z)V"⟩
theorem d_L_init_0 : decode b_L_init 0 = .ok (.aload_n 0, 1) := by decide +kernel
theorem d_L_init_1 : decode b_L_init 1 = .ok (.invokespecial 1, 3) := by decide +kernel
theorem d_L_init_4 : decode b_L_init 4 = .ok (.aload_n 0, 1) := by decide +kernel
theorem d_L_init_5 : decode b_L_init 5 = .ok (.iload_n 1, 1) := by decide +kernel
theorem d_L_init_6 : decode b_L_init 6 = .ok (.putfield 7, 3) := by decide +kernel
theorem d_L_init_9 : decode b_L_init 9 = .ok (.aload_n 0, 1) := by decide +kernel
theorem d_L_init_10 : decode b_L_init 10 = .ok (.new 13, 3) := by decide +kernel
theorem d_L_init_13 : decode b_L_init 13 = .ok (.dup, 1) := by decide +kernel
theorem d_L_init_14 : decode b_L_init 14 = .ok (.invokespecial 15, 3) := by decide +kernel
theorem d_L_init_17 : decode b_L_init 17 = .ok (.putfield 16, 3) := by decide +kernel
theorem d_L_init_20 : decode b_L_init 20 = .ok (.return_, 1) := by decide +kernel
abbrev b_M_canBeBoxed : ByteArray := prog_5_method_7_code
def y_M_canBeBoxed : MethodName := ⟨"BoxDesk$Measure", "canBeBoxed", "()Z"⟩
theorem d_M_canBeBoxed_0 : decode b_M_canBeBoxed 0 = .ok (.iconst 0, 1) := by decide +kernel
theorem d_M_canBeBoxed_1 : decode b_M_canBeBoxed 1 = .ok (.istore_n 1, 1) := by decide +kernel
theorem d_M_canBeBoxed_2 : decode b_M_canBeBoxed 2 = .ok (.iload_n 1, 1) := by decide +kernel
theorem d_M_canBeBoxed_3 : decode b_M_canBeBoxed 3 = .ok (.iconst 4, 1) := by decide +kernel
theorem d_M_canBeBoxed_4 : decode b_M_canBeBoxed 4 = .ok (.if_icmp .ge 23, 3) := by decide +kernel
theorem d_M_canBeBoxed_7 : decode b_M_canBeBoxed 7 = .ok (.aload_n 0, 1) := by decide +kernel
theorem d_M_canBeBoxed_8 : decode b_M_canBeBoxed 8 = .ok (.getfield 9, 3) := by decide +kernel
theorem d_M_canBeBoxed_11 : decode b_M_canBeBoxed 11 = .ok (.iload_n 1, 1) := by decide +kernel
theorem d_M_canBeBoxed_12 : decode b_M_canBeBoxed 12 = .ok (.laload, 1) := by decide +kernel
theorem d_M_canBeBoxed_13 : decode b_M_canBeBoxed 13 = .ok (.invokestatic 80, 3) := by decide +kernel
theorem d_M_canBeBoxed_16 : decode b_M_canBeBoxed 16 = .ok (.ifCond .ne 5, 3) := by decide +kernel
theorem d_M_canBeBoxed_19 : decode b_M_canBeBoxed 19 = .ok (.iconst 0, 1) := by decide +kernel
theorem d_M_canBeBoxed_20 : decode b_M_canBeBoxed 20 = .ok (.ireturn, 1) := by decide +kernel
theorem d_M_canBeBoxed_21 : decode b_M_canBeBoxed 21 = .ok (.iinc 1 1, 3) := by decide +kernel
theorem d_M_canBeBoxed_24 : decode b_M_canBeBoxed 24 = .ok (.goto (-22), 3) := by decide +kernel
theorem d_M_canBeBoxed_27 : decode b_M_canBeBoxed 27 = .ok (.aload_n 0, 1) := by decide +kernel
theorem d_M_canBeBoxed_28 : decode b_M_canBeBoxed 28 = .ok (.getfield 47, 3) := by decide +kernel
theorem d_M_canBeBoxed_31 : decode b_M_canBeBoxed 31 = .ok (.invokestatic 80, 3) := by decide +kernel
theorem d_M_canBeBoxed_34 : decode b_M_canBeBoxed 34 = .ok (.ifCond .eq 56, 3) := by decide +kernel
theorem d_M_canBeBoxed_37 : decode b_M_canBeBoxed 37 = .ok (.aload_n 0, 1) := by decide +kernel
theorem d_M_canBeBoxed_38 : decode b_M_canBeBoxed 38 = .ok (.getfield 24, 3) := by decide +kernel
theorem d_M_canBeBoxed_41 : decode b_M_canBeBoxed 41 = .ok (.invokestatic 80, 3) := by decide +kernel
theorem d_M_canBeBoxed_44 : decode b_M_canBeBoxed 44 = .ok (.ifCond .eq 46, 3) := by decide +kernel
theorem d_M_canBeBoxed_47 : decode b_M_canBeBoxed 47 = .ok (.aload_n 0, 1) := by decide +kernel
theorem d_M_canBeBoxed_48 : decode b_M_canBeBoxed 48 = .ok (.getfield 35, 3) := by decide +kernel
theorem d_M_canBeBoxed_51 : decode b_M_canBeBoxed 51 = .ok (.bipush 100, 2) := by decide +kernel
theorem d_M_canBeBoxed_53 : decode b_M_canBeBoxed 53 = .ok (.if_icmp .ge 37, 3) := by decide +kernel
theorem d_M_canBeBoxed_56 : decode b_M_canBeBoxed 56 = .ok (.aload_n 0, 1) := by decide +kernel
theorem d_M_canBeBoxed_57 : decode b_M_canBeBoxed 57 = .ok (.getfield 77, 3) := by decide +kernel
theorem d_M_canBeBoxed_60 : decode b_M_canBeBoxed 60 = .ok (.invokestatic 80, 3) := by decide +kernel
theorem d_M_canBeBoxed_63 : decode b_M_canBeBoxed 63 = .ok (.ifCond .eq 27, 3) := by decide +kernel
theorem d_M_canBeBoxed_66 : decode b_M_canBeBoxed 66 = .ok (.aload_n 0, 1) := by decide +kernel
theorem d_M_canBeBoxed_67 : decode b_M_canBeBoxed 67 = .ok (.getfield 57, 3) := by decide +kernel
theorem d_M_canBeBoxed_70 : decode b_M_canBeBoxed 70 = .ok (.invokestatic 80, 3) := by decide +kernel
theorem d_M_canBeBoxed_73 : decode b_M_canBeBoxed 73 = .ok (.ifCond .eq 17, 3) := by decide +kernel
theorem d_M_canBeBoxed_76 : decode b_M_canBeBoxed 76 = .ok (.aload_n 0, 1) := by decide +kernel
theorem d_M_canBeBoxed_77 : decode b_M_canBeBoxed 77 = .ok (.getfield 68, 3) := by decide +kernel
theorem d_M_canBeBoxed_80 : decode b_M_canBeBoxed 80 = .ok (.invokestatic 80, 3) := by decide +kernel
theorem d_M_canBeBoxed_83 : decode b_M_canBeBoxed 83 = .ok (.ifCond .eq 7, 3) := by decide +kernel
theorem d_M_canBeBoxed_86 : decode b_M_canBeBoxed 86 = .ok (.iconst 1, 1) := by decide +kernel
theorem d_M_canBeBoxed_87 : decode b_M_canBeBoxed 87 = .ok (.goto 4, 3) := by decide +kernel
theorem d_M_canBeBoxed_90 : decode b_M_canBeBoxed 90 = .ok (.iconst 0, 1) := by decide +kernel
theorem d_M_canBeBoxed_91 : decode b_M_canBeBoxed 91 = .ok (.ireturn, 1) := by decide +kernel
abbrev b_M_highestOrder : ByteArray := prog_5_method_6_code
def y_M_highestOrder : MethodName := ⟨"BoxDesk$Measure", "highestOrder", "()I"⟩
theorem d_M_highestOrder_0 : decode b_M_highestOrder 0 = .ok (.iconst 3, 1) := by decide +kernel
theorem d_M_highestOrder_1 : decode b_M_highestOrder 1 = .ok (.istore_n 1, 1) := by decide +kernel
theorem d_M_highestOrder_2 : decode b_M_highestOrder 2 = .ok (.iload_n 1, 1) := by decide +kernel
theorem d_M_highestOrder_3 : decode b_M_highestOrder 3 = .ok (.ifCond .le 20, 3) := by decide +kernel
theorem d_M_highestOrder_6 : decode b_M_highestOrder 6 = .ok (.aload_n 0, 1) := by decide +kernel
theorem d_M_highestOrder_7 : decode b_M_highestOrder 7 = .ok (.getfield 9, 3) := by decide +kernel
theorem d_M_highestOrder_10 : decode b_M_highestOrder 10 = .ok (.iload_n 1, 1) := by decide +kernel
theorem d_M_highestOrder_11 : decode b_M_highestOrder 11 = .ok (.laload, 1) := by decide +kernel
theorem d_M_highestOrder_12 : decode b_M_highestOrder 12 = .ok (.lconst 0, 1) := by decide +kernel
theorem d_M_highestOrder_13 : decode b_M_highestOrder 13 = .ok (.lcmp, 1) := by decide +kernel
theorem d_M_highestOrder_14 : decode b_M_highestOrder 14 = .ok (.ifCond .ne 9, 3) := by decide +kernel
theorem d_M_highestOrder_17 : decode b_M_highestOrder 17 = .ok (.iinc 1 (-1), 3) := by decide +kernel
theorem d_M_highestOrder_20 : decode b_M_highestOrder 20 = .ok (.goto (-18), 3) := by decide +kernel
theorem d_M_highestOrder_23 : decode b_M_highestOrder 23 = .ok (.iload_n 1, 1) := by decide +kernel
theorem d_M_highestOrder_24 : decode b_M_highestOrder 24 = .ok (.ireturn, 1) := by decide +kernel
abbrev b_M_init : ByteArray := prog_5_method_1_code
def y_M_init : MethodName := ⟨"BoxDesk$Measure", "<init>", "()V"⟩
theorem d_M_init_0 : decode b_M_init 0 = .ok (.aload_n 0, 1) := by decide +kernel
theorem d_M_init_1 : decode b_M_init 1 = .ok (.invokespecial 3, 3) := by decide +kernel
theorem d_M_init_4 : decode b_M_init 4 = .ok (.aload_n 0, 1) := by decide +kernel
theorem d_M_init_5 : decode b_M_init 5 = .ok (.iconst 4, 1) := by decide +kernel
theorem d_M_init_6 : decode b_M_init 6 = .ok (.newarray .long, 2) := by decide +kernel
theorem d_M_init_8 : decode b_M_init 8 = .ok (.putfield 9, 3) := by decide +kernel
theorem d_M_init_11 : decode b_M_init 11 = .ok (.return_, 1) := by decide +kernel
abbrev b_M_limitDepth : ByteArray := prog_5_method_5_code
def y_M_limitDepth : MethodName := ⟨"BoxDesk$Measure", "limitDepth", "(I)V"⟩
theorem d_M_limitDepth_0 : decode b_M_limitDepth 0 = .ok (.aload_n 0, 1) := by decide +kernel
theorem d_M_limitDepth_1 : decode b_M_limitDepth 1 = .ok (.getfield 68, 3) := by decide +kernel
theorem d_M_limitDepth_4 : decode b_M_limitDepth 4 = .ok (.iload_n 1, 1) := by decide +kernel
theorem d_M_limitDepth_5 : decode b_M_limitDepth 5 = .ok (.i2l, 1) := by decide +kernel
theorem d_M_limitDepth_6 : decode b_M_limitDepth 6 = .ok (.lcmp, 1) := by decide +kernel
theorem d_M_limitDepth_7 : decode b_M_limitDepth 7 = .ok (.ifCond .le 25, 3) := by decide +kernel
theorem d_M_limitDepth_10 : decode b_M_limitDepth 10 = .ok (.aload_n 0, 1) := by decide +kernel
theorem d_M_limitDepth_11 : decode b_M_limitDepth 11 = .ok (.dup, 1) := by decide +kernel
theorem d_M_limitDepth_12 : decode b_M_limitDepth 12 = .ok (.getfield 47, 3) := by decide +kernel
theorem d_M_limitDepth_15 : decode b_M_limitDepth 15 = .ok (.aload_n 0, 1) := by decide +kernel
theorem d_M_limitDepth_16 : decode b_M_limitDepth 16 = .ok (.getfield 68, 3) := by decide +kernel
theorem d_M_limitDepth_19 : decode b_M_limitDepth 19 = .ok (.iload_n 1, 1) := by decide +kernel
theorem d_M_limitDepth_20 : decode b_M_limitDepth 20 = .ok (.i2l, 1) := by decide +kernel
theorem d_M_limitDepth_21 : decode b_M_limitDepth 21 = .ok (.lsub, 1) := by decide +kernel
theorem d_M_limitDepth_22 : decode b_M_limitDepth 22 = .ok (.ladd, 1) := by decide +kernel
theorem d_M_limitDepth_23 : decode b_M_limitDepth 23 = .ok (.putfield 47, 3) := by decide +kernel
theorem d_M_limitDepth_26 : decode b_M_limitDepth 26 = .ok (.aload_n 0, 1) := by decide +kernel
theorem d_M_limitDepth_27 : decode b_M_limitDepth 27 = .ok (.iload_n 1, 1) := by decide +kernel
theorem d_M_limitDepth_28 : decode b_M_limitDepth 28 = .ok (.i2l, 1) := by decide +kernel
theorem d_M_limitDepth_29 : decode b_M_limitDepth 29 = .ok (.putfield 68, 3) := by decide +kernel
theorem d_M_limitDepth_32 : decode b_M_limitDepth 32 = .ok (.return_, 1) := by decide +kernel
abbrev b_M_takeAcross : ByteArray := prog_5_method_3_code
def y_M_takeAcross : MethodName := ⟨"BoxDesk$Measure", "takeAcross", "(LBoxDesk$Item;)V"⟩
theorem d_M_takeAcross_0 : decode b_M_takeAcross 0 = .ok (.aload_n 0, 1) := by decide +kernel
theorem d_M_takeAcross_1 : decode b_M_takeAcross 1 = .ok (.dup, 1) := by decide +kernel
theorem d_M_takeAcross_2 : decode b_M_takeAcross 2 = .ok (.getfield 47, 3) := by decide +kernel
theorem d_M_takeAcross_5 : decode b_M_takeAcross 5 = .ok (.aload_n 1, 1) := by decide +kernel
theorem d_M_takeAcross_6 : decode b_M_takeAcross 6 = .ok (.getfield 50, 3) := by decide +kernel
theorem d_M_takeAcross_9 : decode b_M_takeAcross 9 = .ok (.i2l, 1) := by decide +kernel
theorem d_M_takeAcross_10 : decode b_M_takeAcross 10 = .ok (.ladd, 1) := by decide +kernel
theorem d_M_takeAcross_11 : decode b_M_takeAcross 11 = .ok (.putfield 47, 3) := by decide +kernel
theorem d_M_takeAcross_14 : decode b_M_takeAcross 14 = .ok (.aload_n 1, 1) := by decide +kernel
theorem d_M_takeAcross_15 : decode b_M_takeAcross 15 = .ok (.iconst 2, 1) := by decide +kernel
theorem d_M_takeAcross_16 : decode b_M_takeAcross 16 = .ok (.invokevirtual 53, 3) := by decide +kernel
theorem d_M_takeAcross_19 : decode b_M_takeAcross 19 = .ok (.ifCond .ne 25, 3) := by decide +kernel
theorem d_M_takeAcross_22 : decode b_M_takeAcross 22 = .ok (.aload_n 0, 1) := by decide +kernel
theorem d_M_takeAcross_23 : decode b_M_takeAcross 23 = .ok (.aload_n 0, 1) := by decide +kernel
theorem d_M_takeAcross_24 : decode b_M_takeAcross 24 = .ok (.getfield 57, 3) := by decide +kernel
theorem d_M_takeAcross_27 : decode b_M_takeAcross 27 = .ok (.aload_n 1, 1) := by decide +kernel
theorem d_M_takeAcross_28 : decode b_M_takeAcross 28 = .ok (.getfield 60, 3) := by decide +kernel
theorem d_M_takeAcross_31 : decode b_M_takeAcross 31 = .ok (.i2l, 1) := by decide +kernel
theorem d_M_takeAcross_32 : decode b_M_takeAcross 32 = .ok (.aload_n 1, 1) := by decide +kernel
theorem d_M_takeAcross_33 : decode b_M_takeAcross 33 = .ok (.getfield 62, 3) := by decide +kernel
theorem d_M_takeAcross_36 : decode b_M_takeAcross 36 = .ok (.i2l, 1) := by decide +kernel
theorem d_M_takeAcross_37 : decode b_M_takeAcross 37 = .ok (.lsub, 1) := by decide +kernel
theorem d_M_takeAcross_38 : decode b_M_takeAcross 38 = .ok (.invokestatic 65, 3) := by decide +kernel
theorem d_M_takeAcross_41 : decode b_M_takeAcross 41 = .ok (.putfield 57, 3) := by decide +kernel
theorem d_M_takeAcross_44 : decode b_M_takeAcross 44 = .ok (.aload_n 1, 1) := by decide +kernel
theorem d_M_takeAcross_45 : decode b_M_takeAcross 45 = .ok (.iconst 4, 1) := by decide +kernel
theorem d_M_takeAcross_46 : decode b_M_takeAcross 46 = .ok (.invokevirtual 53, 3) := by decide +kernel
theorem d_M_takeAcross_49 : decode b_M_takeAcross 49 = .ok (.ifCond .ne 25, 3) := by decide +kernel
theorem d_M_takeAcross_52 : decode b_M_takeAcross 52 = .ok (.aload_n 0, 1) := by decide +kernel
theorem d_M_takeAcross_53 : decode b_M_takeAcross 53 = .ok (.aload_n 0, 1) := by decide +kernel
theorem d_M_takeAcross_54 : decode b_M_takeAcross 54 = .ok (.getfield 68, 3) := by decide +kernel
theorem d_M_takeAcross_57 : decode b_M_takeAcross 57 = .ok (.aload_n 1, 1) := by decide +kernel
theorem d_M_takeAcross_58 : decode b_M_takeAcross 58 = .ok (.getfield 71, 3) := by decide +kernel
theorem d_M_takeAcross_61 : decode b_M_takeAcross 61 = .ok (.i2l, 1) := by decide +kernel
theorem d_M_takeAcross_62 : decode b_M_takeAcross 62 = .ok (.aload_n 1, 1) := by decide +kernel
theorem d_M_takeAcross_63 : decode b_M_takeAcross 63 = .ok (.getfield 62, 3) := by decide +kernel
theorem d_M_takeAcross_66 : decode b_M_takeAcross 66 = .ok (.i2l, 1) := by decide +kernel
theorem d_M_takeAcross_67 : decode b_M_takeAcross 67 = .ok (.ladd, 1) := by decide +kernel
theorem d_M_takeAcross_68 : decode b_M_takeAcross 68 = .ok (.invokestatic 65, 3) := by decide +kernel
theorem d_M_takeAcross_71 : decode b_M_takeAcross 71 = .ok (.putfield 68, 3) := by decide +kernel
theorem d_M_takeAcross_74 : decode b_M_takeAcross 74 = .ok (.return_, 1) := by decide +kernel
abbrev b_M_takeDownwards : ByteArray := prog_5_method_4_code
def y_M_takeDownwards : MethodName := ⟨"BoxDesk$Measure", "takeDownwards", "(LBoxDesk$Item;)V"⟩
theorem d_M_takeDownwards_0 : decode b_M_takeDownwards 0 = .ok (.aload_n 0, 1) := by decide +kernel
theorem d_M_takeDownwards_1 : decode b_M_takeDownwards 1 = .ok (.dup, 1) := by decide +kernel
theorem d_M_takeDownwards_2 : decode b_M_takeDownwards 2 = .ok (.getfield 47, 3) := by decide +kernel
theorem d_M_takeDownwards_5 : decode b_M_takeDownwards 5 = .ok (.aload_n 0, 1) := by decide +kernel
theorem d_M_takeDownwards_6 : decode b_M_takeDownwards 6 = .ok (.getfield 68, 3) := by decide +kernel
theorem d_M_takeDownwards_9 : decode b_M_takeDownwards 9 = .ok (.ladd, 1) := by decide +kernel
theorem d_M_takeDownwards_10 : decode b_M_takeDownwards 10 = .ok (.putfield 47, 3) := by decide +kernel
theorem d_M_takeDownwards_13 : decode b_M_takeDownwards 13 = .ok (.aload_n 0, 1) := by decide +kernel
theorem d_M_takeDownwards_14 : decode b_M_takeDownwards 14 = .ok (.lconst 0, 1) := by decide +kernel
theorem d_M_takeDownwards_15 : decode b_M_takeDownwards 15 = .ok (.putfield 68, 3) := by decide +kernel
theorem d_M_takeDownwards_18 : decode b_M_takeDownwards 18 = .ok (.aload_n 1, 1) := by decide +kernel
theorem d_M_takeDownwards_19 : decode b_M_takeDownwards 19 = .ok (.invokevirtual 73, 3) := by decide +kernel
theorem d_M_takeDownwards_22 : decode b_M_takeDownwards 22 = .ok (.ifCond .ne 18, 3) := by decide +kernel
theorem d_M_takeDownwards_25 : decode b_M_takeDownwards 25 = .ok (.aload_n 0, 1) := by decide +kernel
theorem d_M_takeDownwards_26 : decode b_M_takeDownwards 26 = .ok (.dup, 1) := by decide +kernel
theorem d_M_takeDownwards_27 : decode b_M_takeDownwards 27 = .ok (.getfield 47, 3) := by decide +kernel
theorem d_M_takeDownwards_30 : decode b_M_takeDownwards 30 = .ok (.aload_n 1, 1) := by decide +kernel
theorem d_M_takeDownwards_31 : decode b_M_takeDownwards 31 = .ok (.getfield 50, 3) := by decide +kernel
theorem d_M_takeDownwards_34 : decode b_M_takeDownwards 34 = .ok (.i2l, 1) := by decide +kernel
theorem d_M_takeDownwards_35 : decode b_M_takeDownwards 35 = .ok (.ladd, 1) := by decide +kernel
theorem d_M_takeDownwards_36 : decode b_M_takeDownwards 36 = .ok (.putfield 47, 3) := by decide +kernel
theorem d_M_takeDownwards_39 : decode b_M_takeDownwards 39 = .ok (.return_, 1) := by decide +kernel
theorem d_M_takeDownwards_40 : decode b_M_takeDownwards 40 = .ok (.aload_n 0, 1) := by decide +kernel
theorem d_M_takeDownwards_41 : decode b_M_takeDownwards 41 = .ok (.dup, 1) := by decide +kernel
theorem d_M_takeDownwards_42 : decode b_M_takeDownwards 42 = .ok (.getfield 47, 3) := by decide +kernel
theorem d_M_takeDownwards_45 : decode b_M_takeDownwards 45 = .ok (.aload_n 1, 1) := by decide +kernel
theorem d_M_takeDownwards_46 : decode b_M_takeDownwards 46 = .ok (.getfield 60, 3) := by decide +kernel
theorem d_M_takeDownwards_49 : decode b_M_takeDownwards 49 = .ok (.i2l, 1) := by decide +kernel
theorem d_M_takeDownwards_50 : decode b_M_takeDownwards 50 = .ok (.ladd, 1) := by decide +kernel
theorem d_M_takeDownwards_51 : decode b_M_takeDownwards 51 = .ok (.putfield 47, 3) := by decide +kernel
theorem d_M_takeDownwards_54 : decode b_M_takeDownwards 54 = .ok (.aload_n 0, 1) := by decide +kernel
theorem d_M_takeDownwards_55 : decode b_M_takeDownwards 55 = .ok (.aload_n 1, 1) := by decide +kernel
theorem d_M_takeDownwards_56 : decode b_M_takeDownwards 56 = .ok (.getfield 71, 3) := by decide +kernel
theorem d_M_takeDownwards_59 : decode b_M_takeDownwards 59 = .ok (.i2l, 1) := by decide +kernel
theorem d_M_takeDownwards_60 : decode b_M_takeDownwards 60 = .ok (.putfield 68, 3) := by decide +kernel
theorem d_M_takeDownwards_63 : decode b_M_takeDownwards 63 = .ok (.aload_n 1, 1) := by decide +kernel
theorem d_M_takeDownwards_64 : decode b_M_takeDownwards 64 = .ok (.iconst 1, 1) := by decide +kernel
theorem d_M_takeDownwards_65 : decode b_M_takeDownwards 65 = .ok (.invokevirtual 53, 3) := by decide +kernel
theorem d_M_takeDownwards_68 : decode b_M_takeDownwards 68 = .ok (.ifCond .ne 25, 3) := by decide +kernel
theorem d_M_takeDownwards_71 : decode b_M_takeDownwards 71 = .ok (.aload_n 0, 1) := by decide +kernel
theorem d_M_takeDownwards_72 : decode b_M_takeDownwards 72 = .ok (.aload_n 0, 1) := by decide +kernel
theorem d_M_takeDownwards_73 : decode b_M_takeDownwards 73 = .ok (.getfield 77, 3) := by decide +kernel
theorem d_M_takeDownwards_76 : decode b_M_takeDownwards 76 = .ok (.aload_n 1, 1) := by decide +kernel
theorem d_M_takeDownwards_77 : decode b_M_takeDownwards 77 = .ok (.getfield 50, 3) := by decide +kernel
theorem d_M_takeDownwards_80 : decode b_M_takeDownwards 80 = .ok (.i2l, 1) := by decide +kernel
theorem d_M_takeDownwards_81 : decode b_M_takeDownwards 81 = .ok (.aload_n 1, 1) := by decide +kernel
theorem d_M_takeDownwards_82 : decode b_M_takeDownwards 82 = .ok (.getfield 62, 3) := by decide +kernel
theorem d_M_takeDownwards_85 : decode b_M_takeDownwards 85 = .ok (.i2l, 1) := by decide +kernel
theorem d_M_takeDownwards_86 : decode b_M_takeDownwards 86 = .ok (.ladd, 1) := by decide +kernel
theorem d_M_takeDownwards_87 : decode b_M_takeDownwards 87 = .ok (.invokestatic 65, 3) := by decide +kernel
theorem d_M_takeDownwards_90 : decode b_M_takeDownwards 90 = .ok (.putfield 77, 3) := by decide +kernel
theorem d_M_takeDownwards_93 : decode b_M_takeDownwards 93 = .ok (.return_, 1) := by decide +kernel
abbrev b_M_takeGlueAndBoxes : ByteArray := prog_5_method_2_code
def y_M_takeGlueAndBoxes : MethodName := ⟨"BoxDesk$Measure", "takeGlueAndBoxes", "(LBoxDesk$Item;)V"⟩
theorem d_M_takeGlueAndBoxes_0 : decode b_M_takeGlueAndBoxes 0 = .ok (.aload_n 1, 1) := by decide +kernel
theorem d_M_takeGlueAndBoxes_1 : decode b_M_takeGlueAndBoxes 1 = .ok (.getfield 15, 3) := by decide +kernel
theorem d_M_takeGlueAndBoxes_4 : decode b_M_takeGlueAndBoxes 4 = .ok (.ifCond .lt 28, 3) := by decide +kernel
theorem d_M_takeGlueAndBoxes_7 : decode b_M_takeGlueAndBoxes 7 = .ok (.aload_n 1, 1) := by decide +kernel
theorem d_M_takeGlueAndBoxes_8 : decode b_M_takeGlueAndBoxes 8 = .ok (.getfield 15, 3) := by decide +kernel
theorem d_M_takeGlueAndBoxes_11 : decode b_M_takeGlueAndBoxes 11 = .ok (.iconst 4, 1) := by decide +kernel
theorem d_M_takeGlueAndBoxes_12 : decode b_M_takeGlueAndBoxes 12 = .ok (.if_icmp .ge 20, 3) := by decide +kernel
theorem d_M_takeGlueAndBoxes_15 : decode b_M_takeGlueAndBoxes 15 = .ok (.aload_n 0, 1) := by decide +kernel
theorem d_M_takeGlueAndBoxes_16 : decode b_M_takeGlueAndBoxes 16 = .ok (.getfield 9, 3) := by decide +kernel
theorem d_M_takeGlueAndBoxes_19 : decode b_M_takeGlueAndBoxes 19 = .ok (.aload_n 1, 1) := by decide +kernel
theorem d_M_takeGlueAndBoxes_20 : decode b_M_takeGlueAndBoxes 20 = .ok (.getfield 15, 3) := by decide +kernel
theorem d_M_takeGlueAndBoxes_23 : decode b_M_takeGlueAndBoxes 23 = .ok (.dup2, 1) := by decide +kernel
theorem d_M_takeGlueAndBoxes_24 : decode b_M_takeGlueAndBoxes 24 = .ok (.laload, 1) := by decide +kernel
theorem d_M_takeGlueAndBoxes_25 : decode b_M_takeGlueAndBoxes 25 = .ok (.aload_n 1, 1) := by decide +kernel
theorem d_M_takeGlueAndBoxes_26 : decode b_M_takeGlueAndBoxes 26 = .ok (.getfield 21, 3) := by decide +kernel
theorem d_M_takeGlueAndBoxes_29 : decode b_M_takeGlueAndBoxes 29 = .ok (.i2l, 1) := by decide +kernel
theorem d_M_takeGlueAndBoxes_30 : decode b_M_takeGlueAndBoxes 30 = .ok (.ladd, 1) := by decide +kernel
theorem d_M_takeGlueAndBoxes_31 : decode b_M_takeGlueAndBoxes 31 = .ok (.lastore, 1) := by decide +kernel
theorem d_M_takeGlueAndBoxes_32 : decode b_M_takeGlueAndBoxes 32 = .ok (.aload_n 0, 1) := by decide +kernel
theorem d_M_takeGlueAndBoxes_33 : decode b_M_takeGlueAndBoxes 33 = .ok (.dup, 1) := by decide +kernel
theorem d_M_takeGlueAndBoxes_34 : decode b_M_takeGlueAndBoxes 34 = .ok (.getfield 24, 3) := by decide +kernel
theorem d_M_takeGlueAndBoxes_37 : decode b_M_takeGlueAndBoxes 37 = .ok (.aload_n 1, 1) := by decide +kernel
theorem d_M_takeGlueAndBoxes_38 : decode b_M_takeGlueAndBoxes 38 = .ok (.getfield 28, 3) := by decide +kernel
theorem d_M_takeGlueAndBoxes_41 : decode b_M_takeGlueAndBoxes 41 = .ok (.i2l, 1) := by decide +kernel
theorem d_M_takeGlueAndBoxes_42 : decode b_M_takeGlueAndBoxes 42 = .ok (.ladd, 1) := by decide +kernel
theorem d_M_takeGlueAndBoxes_43 : decode b_M_takeGlueAndBoxes 43 = .ok (.putfield 24, 3) := by decide +kernel
theorem d_M_takeGlueAndBoxes_46 : decode b_M_takeGlueAndBoxes 46 = .ok (.aload_n 0, 1) := by decide +kernel
theorem d_M_takeGlueAndBoxes_47 : decode b_M_takeGlueAndBoxes 47 = .ok (.dup, 1) := by decide +kernel
theorem d_M_takeGlueAndBoxes_48 : decode b_M_takeGlueAndBoxes 48 = .ok (.getfield 31, 3) := by decide +kernel
theorem d_M_takeGlueAndBoxes_51 : decode b_M_takeGlueAndBoxes 51 = .ok (.iconst 1, 1) := by decide +kernel
theorem d_M_takeGlueAndBoxes_52 : decode b_M_takeGlueAndBoxes 52 = .ok (.aload_n 1, 1) := by decide +kernel
theorem d_M_takeGlueAndBoxes_53 : decode b_M_takeGlueAndBoxes 53 = .ok (.getfield 34, 3) := by decide +kernel
theorem d_M_takeGlueAndBoxes_56 : decode b_M_takeGlueAndBoxes 56 = .ok (.iadd, 1) := by decide +kernel
theorem d_M_takeGlueAndBoxes_57 : decode b_M_takeGlueAndBoxes 57 = .ok (.iadd, 1) := by decide +kernel
theorem d_M_takeGlueAndBoxes_58 : decode b_M_takeGlueAndBoxes 58 = .ok (.putfield 31, 3) := by decide +kernel
theorem d_M_takeGlueAndBoxes_61 : decode b_M_takeGlueAndBoxes 61 = .ok (.aload_n 0, 1) := by decide +kernel
theorem d_M_takeGlueAndBoxes_62 : decode b_M_takeGlueAndBoxes 62 = .ok (.aload_n 0, 1) := by decide +kernel
theorem d_M_takeGlueAndBoxes_63 : decode b_M_takeGlueAndBoxes 63 = .ok (.getfield 35, 3) := by decide +kernel
theorem d_M_takeGlueAndBoxes_66 : decode b_M_takeGlueAndBoxes 66 = .ok (.aload_n 1, 1) := by decide +kernel
theorem d_M_takeGlueAndBoxes_67 : decode b_M_takeGlueAndBoxes 67 = .ok (.getfield 38, 3) := by decide +kernel
theorem d_M_takeGlueAndBoxes_70 : decode b_M_takeGlueAndBoxes 70 = .ok (.invokestatic 41, 3) := by decide +kernel
theorem d_M_takeGlueAndBoxes_73 : decode b_M_takeGlueAndBoxes 73 = .ok (.putfield 35, 3) := by decide +kernel
theorem d_M_takeGlueAndBoxes_76 : decode b_M_takeGlueAndBoxes 76 = .ok (.return_, 1) := by decide +kernel
end
section
/-! printed: methods and their instructions -/
abbrev b_R_about : ByteArray := prog_7_method_35_code
def y_R_about : MethodName := ⟨"BoxDeskModel", "about", "(II)I"⟩
theorem d_R_about_0 : decode b_R_about 0 = .ok (.iload_n 1, 1) := by decide +kernel
theorem d_R_about_1 : decode b_R_about 1 = .ok (.ifCond .lt 18, 3) := by decide +kernel
theorem d_R_about_4 : decode b_R_about 4 = .ok (.iload_n 1, 1) := by decide +kernel
theorem d_R_about_5 : decode b_R_about 5 = .ok (.bipush 15, 2) := by decide +kernel
theorem d_R_about_7 : decode b_R_about 7 = .ok (.if_icmp .gt 12, 3) := by decide +kernel
theorem d_R_about_10 : decode b_R_about 10 = .ok (.iload_n 2, 1) := by decide +kernel
theorem d_R_about_11 : decode b_R_about 11 = .ok (.ifCond .lt 8, 3) := by decide +kernel
theorem d_R_about_14 : decode b_R_about 14 = .ok (.iload_n 2, 1) := by decide +kernel
theorem d_R_about_15 : decode b_R_about 15 = .ok (.iconst 5, 1) := by decide +kernel
theorem d_R_about_16 : decode b_R_about 16 = .ok (.if_icmp .le 9, 3) := by decide +kernel
theorem d_R_about_19 : decode b_R_about 19 = .ok (.aload_n 0, 1) := by decide +kernel
theorem d_R_about_20 : decode b_R_about 20 = .ok (.iconst 1, 1) := by decide +kernel
theorem d_R_about_21 : decode b_R_about 21 = .ok (.invokevirtual 130, 3) := by decide +kernel
theorem d_R_about_24 : decode b_R_about 24 = .ok (.ireturn, 1) := by decide +kernel
theorem d_R_about_25 : decode b_R_about 25 = .ok (.aload_n 0, 1) := by decide +kernel
theorem d_R_about_26 : decode b_R_about 26 = .ok (.iconst 0, 1) := by decide +kernel
theorem d_R_about_27 : decode b_R_about 27 = .ok (.putfield 51, 3) := by decide +kernel
theorem d_R_about_30 : decode b_R_about 30 = .ok (.aload_n 0, 1) := by decide +kernel
theorem d_R_about_31 : decode b_R_about 31 = .ok (.getfield 45, 3) := by decide +kernel
theorem d_R_about_34 : decode b_R_about 34 = .ok (.iload_n 1, 1) := by decide +kernel
theorem d_R_about_35 : decode b_R_about 35 = .ok (.iaload, 1) := by decide +kernel
theorem d_R_about_36 : decode b_R_about 36 = .ok (.ifCond .ne 5, 3) := by decide +kernel
theorem d_R_about_39 : decode b_R_about 39 = .ok (.iconst 0, 1) := by decide +kernel
theorem d_R_about_40 : decode b_R_about 40 = .ok (.ireturn, 1) := by decide +kernel
theorem d_R_about_41 : decode b_R_about 41 = .ok (.aload_n 0, 1) := by decide +kernel
theorem d_R_about_42 : decode b_R_about 42 = .ok (.iload_n 1, 1) := by decide +kernel
theorem d_R_about_43 : decode b_R_about 43 = .ok (.invokevirtual 122, 3) := by decide +kernel
theorem d_R_about_46 : decode b_R_about 46 = .ok (.istore_n 3, 1) := by decide +kernel
theorem d_R_about_47 : decode b_R_about 47 = .ok (.iload_n 2, 1) := by decide +kernel
theorem d_R_about_48 : decode b_R_about 48 = .ok (.ifCond .ne 14, 3) := by decide +kernel
theorem d_R_about_51 : decode b_R_about 51 = .ok (.aload_n 0, 1) := by decide +kernel
theorem d_R_about_52 : decode b_R_about 52 = .ok (.getfield 7, 3) := by decide +kernel
theorem d_R_about_55 : decode b_R_about 55 = .ok (.iload_n 3, 1) := by decide +kernel
theorem d_R_about_56 : decode b_R_about 56 = .ok (.iaload, 1) := by decide +kernel
theorem d_R_about_57 : decode b_R_about 57 = .ok (.iconst 1, 1) := by decide +kernel
theorem d_R_about_58 : decode b_R_about 58 = .ok (.isub, 1) := by decide +kernel
theorem d_R_about_59 : decode b_R_about 59 = .ok (.goto 66, 3) := by decide +kernel
theorem d_R_about_62 : decode b_R_about 62 = .ok (.iload_n 2, 1) := by decide +kernel
theorem d_R_about_63 : decode b_R_about 63 = .ok (.iconst 1, 1) := by decide +kernel
theorem d_R_about_64 : decode b_R_about 64 = .ok (.if_icmp .ne 12, 3) := by decide +kernel
theorem d_R_about_67 : decode b_R_about 67 = .ok (.aload_n 0, 1) := by decide +kernel
theorem d_R_about_68 : decode b_R_about 68 = .ok (.getfield 13, 3) := by decide +kernel
theorem d_R_about_71 : decode b_R_about 71 = .ok (.iload_n 3, 1) := by decide +kernel
theorem d_R_about_72 : decode b_R_about 72 = .ok (.iaload, 1) := by decide +kernel
theorem d_R_about_73 : decode b_R_about 73 = .ok (.goto 52, 3) := by decide +kernel
theorem d_R_about_76 : decode b_R_about 76 = .ok (.iload_n 2, 1) := by decide +kernel
theorem d_R_about_77 : decode b_R_about 77 = .ok (.iconst 2, 1) := by decide +kernel
theorem d_R_about_78 : decode b_R_about 78 = .ok (.if_icmp .ne 12, 3) := by decide +kernel
theorem d_R_about_81 : decode b_R_about 81 = .ok (.aload_n 0, 1) := by decide +kernel
theorem d_R_about_82 : decode b_R_about 82 = .ok (.getfield 16, 3) := by decide +kernel
theorem d_R_about_85 : decode b_R_about 85 = .ok (.iload_n 3, 1) := by decide +kernel
theorem d_R_about_86 : decode b_R_about 86 = .ok (.iaload, 1) := by decide +kernel
theorem d_R_about_87 : decode b_R_about 87 = .ok (.goto 38, 3) := by decide +kernel
theorem d_R_about_90 : decode b_R_about 90 = .ok (.iload_n 2, 1) := by decide +kernel
theorem d_R_about_91 : decode b_R_about 91 = .ok (.iconst 3, 1) := by decide +kernel
theorem d_R_about_92 : decode b_R_about 92 = .ok (.if_icmp .ne 12, 3) := by decide +kernel
theorem d_R_about_95 : decode b_R_about 95 = .ok (.aload_n 0, 1) := by decide +kernel
theorem d_R_about_96 : decode b_R_about 96 = .ok (.getfield 19, 3) := by decide +kernel
theorem d_R_about_99 : decode b_R_about 99 = .ok (.iload_n 3, 1) := by decide +kernel
theorem d_R_about_100 : decode b_R_about 100 = .ok (.iaload, 1) := by decide +kernel
theorem d_R_about_101 : decode b_R_about 101 = .ok (.goto 24, 3) := by decide +kernel
theorem d_R_about_104 : decode b_R_about 104 = .ok (.iload_n 2, 1) := by decide +kernel
theorem d_R_about_105 : decode b_R_about 105 = .ok (.iconst 4, 1) := by decide +kernel
theorem d_R_about_106 : decode b_R_about 106 = .ok (.if_icmp .ne 11, 3) := by decide +kernel
theorem d_R_about_109 : decode b_R_about 109 = .ok (.aload_n 0, 1) := by decide +kernel
theorem d_R_about_110 : decode b_R_about 110 = .ok (.iload_n 3, 1) := by decide +kernel
theorem d_R_about_111 : decode b_R_about 111 = .ok (.invokevirtual 160, 3) := by decide +kernel
theorem d_R_about_114 : decode b_R_about 114 = .ok (.goto 11, 3) := by decide +kernel
theorem d_R_about_117 : decode b_R_about 117 = .ok (.aload_n 0, 1) := by decide +kernel
theorem d_R_about_118 : decode b_R_about 118 = .ok (.getfield 45, 3) := by decide +kernel
theorem d_R_about_121 : decode b_R_about 121 = .ok (.iload_n 1, 1) := by decide +kernel
theorem d_R_about_122 : decode b_R_about 122 = .ok (.iaload, 1) := by decide +kernel
theorem d_R_about_123 : decode b_R_about 123 = .ok (.iconst 1, 1) := by decide +kernel
theorem d_R_about_124 : decode b_R_about 124 = .ok (.isub, 1) := by decide +kernel
theorem d_R_about_125 : decode b_R_about 125 = .ok (.ireturn, 1) := by decide +kernel
abbrev b_R_add : ByteArray := prog_7_method_11_code
def y_R_add : MethodName := ⟨"BoxDeskModel", "add", "(ZIIIIIII)Z"⟩
theorem d_R_add_0 : decode b_R_add 0 = .ok (.aload_n 0, 1) := by decide +kernel
theorem d_R_add_1 : decode b_R_add 1 = .ok (.iconst 0, 1) := by decide +kernel
theorem d_R_add_2 : decode b_R_add 2 = .ok (.putfield 51, 3) := by decide +kernel
theorem d_R_add_5 : decode b_R_add 5 = .ok (.iload_n 1, 1) := by decide +kernel
theorem d_R_add_6 : decode b_R_add 6 = .ok (.ifCond .eq 18, 3) := by decide +kernel
theorem d_R_add_9 : decode b_R_add 9 = .ok (.aload_n 0, 1) := by decide +kernel
theorem d_R_add_10 : decode b_R_add 10 = .ok (.getfield 68, 3) := by decide +kernel
theorem d_R_add_13 : decode b_R_add 13 = .ok (.ifCond .eq 11, 3) := by decide +kernel
theorem d_R_add_16 : decode b_R_add 16 = .ok (.aload_n 0, 1) := by decide +kernel
theorem d_R_add_17 : decode b_R_add 17 = .ok (.iconst 1, 1) := by decide +kernel
theorem d_R_add_18 : decode b_R_add 18 = .ok (.invokevirtual 71, 3) := by decide +kernel
theorem d_R_add_21 : decode b_R_add 21 = .ok (.ifCond .ne 5, 3) := by decide +kernel
theorem d_R_add_24 : decode b_R_add 24 = .ok (.iconst 0, 1) := by decide +kernel
theorem d_R_add_25 : decode b_R_add 25 = .ok (.ireturn, 1) := by decide +kernel
theorem d_R_add_26 : decode b_R_add 26 = .ok (.aload_n 0, 1) := by decide +kernel
theorem d_R_add_27 : decode b_R_add 27 = .ok (.getfield 7, 3) := by decide +kernel
theorem d_R_add_30 : decode b_R_add 30 = .ok (.aload_n 0, 1) := by decide +kernel
theorem d_R_add_31 : decode b_R_add 31 = .ok (.getfield 61, 3) := by decide +kernel
theorem d_R_add_34 : decode b_R_add 34 = .ok (.iload_n 2, 1) := by decide +kernel
theorem d_R_add_35 : decode b_R_add 35 = .ok (.iastore, 1) := by decide +kernel
theorem d_R_add_36 : decode b_R_add 36 = .ok (.aload_n 0, 1) := by decide +kernel
theorem d_R_add_37 : decode b_R_add 37 = .ok (.getfield 13, 3) := by decide +kernel
theorem d_R_add_40 : decode b_R_add 40 = .ok (.aload_n 0, 1) := by decide +kernel
theorem d_R_add_41 : decode b_R_add 41 = .ok (.getfield 61, 3) := by decide +kernel
theorem d_R_add_44 : decode b_R_add 44 = .ok (.iload_n 3, 1) := by decide +kernel
theorem d_R_add_45 : decode b_R_add 45 = .ok (.iastore, 1) := by decide +kernel
theorem d_R_add_46 : decode b_R_add 46 = .ok (.aload_n 0, 1) := by decide +kernel
theorem d_R_add_47 : decode b_R_add 47 = .ok (.getfield 16, 3) := by decide +kernel
theorem d_R_add_50 : decode b_R_add 50 = .ok (.aload_n 0, 1) := by decide +kernel
theorem d_R_add_51 : decode b_R_add 51 = .ok (.getfield 61, 3) := by decide +kernel
theorem d_R_add_54 : decode b_R_add 54 = .ok (.iload 4, 2) := by decide +kernel
theorem d_R_add_56 : decode b_R_add 56 = .ok (.iastore, 1) := by decide +kernel
theorem d_R_add_57 : decode b_R_add 57 = .ok (.aload_n 0, 1) := by decide +kernel
theorem d_R_add_58 : decode b_R_add 58 = .ok (.getfield 19, 3) := by decide +kernel
theorem d_R_add_61 : decode b_R_add 61 = .ok (.aload_n 0, 1) := by decide +kernel
theorem d_R_add_62 : decode b_R_add 62 = .ok (.getfield 61, 3) := by decide +kernel
theorem d_R_add_65 : decode b_R_add 65 = .ok (.iload 5, 2) := by decide +kernel
theorem d_R_add_67 : decode b_R_add 67 = .ok (.iastore, 1) := by decide +kernel
theorem d_R_add_68 : decode b_R_add 68 = .ok (.aload_n 0, 1) := by decide +kernel
theorem d_R_add_69 : decode b_R_add 69 = .ok (.getfield 22, 3) := by decide +kernel
theorem d_R_add_72 : decode b_R_add 72 = .ok (.aload_n 0, 1) := by decide +kernel
theorem d_R_add_73 : decode b_R_add 73 = .ok (.getfield 61, 3) := by decide +kernel
theorem d_R_add_76 : decode b_R_add 76 = .ok (.iload 6, 2) := by decide +kernel
theorem d_R_add_78 : decode b_R_add 78 = .ok (.iastore, 1) := by decide +kernel
theorem d_R_add_79 : decode b_R_add 79 = .ok (.aload_n 0, 1) := by decide +kernel
theorem d_R_add_80 : decode b_R_add 80 = .ok (.getfield 25, 3) := by decide +kernel
theorem d_R_add_83 : decode b_R_add 83 = .ok (.aload_n 0, 1) := by decide +kernel
theorem d_R_add_84 : decode b_R_add 84 = .ok (.getfield 61, 3) := by decide +kernel
theorem d_R_add_87 : decode b_R_add 87 = .ok (.iload 7, 2) := by decide +kernel
theorem d_R_add_89 : decode b_R_add 89 = .ok (.iastore, 1) := by decide +kernel
theorem d_R_add_90 : decode b_R_add 90 = .ok (.aload_n 0, 1) := by decide +kernel
theorem d_R_add_91 : decode b_R_add 91 = .ok (.getfield 28, 3) := by decide +kernel
theorem d_R_add_94 : decode b_R_add 94 = .ok (.aload_n 0, 1) := by decide +kernel
theorem d_R_add_95 : decode b_R_add 95 = .ok (.getfield 61, 3) := by decide +kernel
theorem d_R_add_98 : decode b_R_add 98 = .ok (.iload 8, 2) := by decide +kernel
theorem d_R_add_100 : decode b_R_add 100 = .ok (.iastore, 1) := by decide +kernel
theorem d_R_add_101 : decode b_R_add 101 = .ok (.aload_n 0, 1) := by decide +kernel
theorem d_R_add_102 : decode b_R_add 102 = .ok (.getfield 31, 3) := by decide +kernel
theorem d_R_add_105 : decode b_R_add 105 = .ok (.aload_n 0, 1) := by decide +kernel
theorem d_R_add_106 : decode b_R_add 106 = .ok (.getfield 61, 3) := by decide +kernel
theorem d_R_add_109 : decode b_R_add 109 = .ok (.lconst 0, 1) := by decide +kernel
theorem d_R_add_110 : decode b_R_add 110 = .ok (.lastore, 1) := by decide +kernel
theorem d_R_add_111 : decode b_R_add 111 = .ok (.aload_n 0, 1) := by decide +kernel
theorem d_R_add_112 : decode b_R_add 112 = .ok (.getfield 35, 3) := by decide +kernel
theorem d_R_add_115 : decode b_R_add 115 = .ok (.aload_n 0, 1) := by decide +kernel
theorem d_R_add_116 : decode b_R_add 116 = .ok (.getfield 61, 3) := by decide +kernel
theorem d_R_add_119 : decode b_R_add 119 = .ok (.iconst 1, 1) := by decide +kernel
theorem d_R_add_120 : decode b_R_add 120 = .ok (.iastore, 1) := by decide +kernel
theorem d_R_add_121 : decode b_R_add 121 = .ok (.aload_n 0, 1) := by decide +kernel
theorem d_R_add_122 : decode b_R_add 122 = .ok (.dup, 1) := by decide +kernel
theorem d_R_add_123 : decode b_R_add 123 = .ok (.getfield 61, 3) := by decide +kernel
theorem d_R_add_126 : decode b_R_add 126 = .ok (.iconst 1, 1) := by decide +kernel
theorem d_R_add_127 : decode b_R_add 127 = .ok (.iadd, 1) := by decide +kernel
theorem d_R_add_128 : decode b_R_add 128 = .ok (.putfield 61, 3) := by decide +kernel
theorem d_R_add_131 : decode b_R_add 131 = .ok (.iconst 1, 1) := by decide +kernel
theorem d_R_add_132 : decode b_R_add 132 = .ok (.ireturn, 1) := by decide +kernel
abbrev b_R_character : ByteArray := prog_7_method_13_code
def y_R_character : MethodName := ⟨"BoxDeskModel", "character", "(III)Z"⟩
theorem d_R_character_0 : decode b_R_character 0 = .ok (.aload_n 0, 1) := by decide +kernel
theorem d_R_character_1 : decode b_R_character 1 = .ok (.aload_n 0, 1) := by decide +kernel
theorem d_R_character_2 : decode b_R_character 2 = .ok (.invokevirtual 75, 3) := by decide +kernel
theorem d_R_character_5 : decode b_R_character 5 = .ok (.ifCond .ne 28, 3) := by decide +kernel
theorem d_R_character_8 : decode b_R_character 8 = .ok (.iload_n 1, 1) := by decide +kernel
theorem d_R_character_9 : decode b_R_character 9 = .ok (.invokestatic 79, 3) := by decide +kernel
theorem d_R_character_12 : decode b_R_character 12 = .ok (.ifCond .eq 21, 3) := by decide +kernel
theorem d_R_character_15 : decode b_R_character 15 = .ok (.iload_n 2, 1) := by decide +kernel
theorem d_R_character_16 : decode b_R_character 16 = .ok (.invokestatic 79, 3) := by decide +kernel
theorem d_R_character_19 : decode b_R_character 19 = .ok (.ifCond .eq 14, 3) := by decide +kernel
theorem d_R_character_22 : decode b_R_character 22 = .ok (.iload_n 3, 1) := by decide +kernel
theorem d_R_character_23 : decode b_R_character 23 = .ok (.invokestatic 79, 3) := by decide +kernel
theorem d_R_character_26 : decode b_R_character 26 = .ok (.ifCond .eq 7, 3) := by decide +kernel
theorem d_R_character_29 : decode b_R_character 29 = .ok (.iconst 1, 1) := by decide +kernel
theorem d_R_character_30 : decode b_R_character 30 = .ok (.goto 4, 3) := by decide +kernel
theorem d_R_character_33 : decode b_R_character 33 = .ok (.iconst 0, 1) := by decide +kernel
theorem d_R_character_34 : decode b_R_character 34 = .ok (.iconst 1, 1) := by decide +kernel
theorem d_R_character_35 : decode b_R_character 35 = .ok (.iload_n 1, 1) := by decide +kernel
theorem d_R_character_36 : decode b_R_character 36 = .ok (.iload_n 2, 1) := by decide +kernel
theorem d_R_character_37 : decode b_R_character 37 = .ok (.iload_n 3, 1) := by decide +kernel
theorem d_R_character_38 : decode b_R_character 38 = .ok (.iconst 0, 1) := by decide +kernel
theorem d_R_character_39 : decode b_R_character 39 = .ok (.iconst 0, 1) := by decide +kernel
theorem d_R_character_40 : decode b_R_character 40 = .ok (.iconst 0, 1) := by decide +kernel
theorem d_R_character_41 : decode b_R_character 41 = .ok (.invokevirtual 82, 3) := by decide +kernel
theorem d_R_character_44 : decode b_R_character 44 = .ok (.ireturn, 1) := by decide +kernel
abbrev b_R_close : ByteArray := prog_7_method_29_code
def y_R_close : MethodName := ⟨"BoxDeskModel", "close", "(IIII)I"⟩
theorem d_R_close_0 : decode b_R_close 0 = .ok (.aload_n 0, 1) := by decide +kernel
theorem d_R_close_1 : decode b_R_close 1 = .ok (.getfield 68, 3) := by decide +kernel
theorem d_R_close_4 : decode b_R_close 4 = .ok (.ifCond .ne 9, 3) := by decide +kernel
theorem d_R_close_7 : decode b_R_close 7 = .ok (.aload_n 0, 1) := by decide +kernel
theorem d_R_close_8 : decode b_R_close 8 = .ok (.iconst 1, 1) := by decide +kernel
theorem d_R_close_9 : decode b_R_close 9 = .ok (.invokevirtual 130, 3) := by decide +kernel
theorem d_R_close_12 : decode b_R_close 12 = .ok (.ireturn, 1) := by decide +kernel
theorem d_R_close_13 : decode b_R_close 13 = .ok (.iload_n 1, 1) := by decide +kernel
theorem d_R_close_14 : decode b_R_close 14 = .ok (.ifCond .lt 34, 3) := by decide +kernel
theorem d_R_close_17 : decode b_R_close 17 = .ok (.iload_n 1, 1) := by decide +kernel
theorem d_R_close_18 : decode b_R_close 18 = .ok (.iconst 2, 1) := by decide +kernel
theorem d_R_close_19 : decode b_R_close 19 = .ok (.if_icmp .gt 29, 3) := by decide +kernel
theorem d_R_close_22 : decode b_R_close 22 = .ok (.iload_n 2, 1) := by decide +kernel
theorem d_R_close_23 : decode b_R_close 23 = .ok (.invokestatic 79, 3) := by decide +kernel
theorem d_R_close_26 : decode b_R_close 26 = .ok (.ifCond .eq 22, 3) := by decide +kernel
theorem d_R_close_29 : decode b_R_close 29 = .ok (.iload_n 3, 1) := by decide +kernel
theorem d_R_close_30 : decode b_R_close 30 = .ok (.invokestatic 79, 3) := by decide +kernel
theorem d_R_close_33 : decode b_R_close 33 = .ok (.ifCond .eq 15, 3) := by decide +kernel
theorem d_R_close_36 : decode b_R_close 36 = .ok (.iload 4, 2) := by decide +kernel
theorem d_R_close_38 : decode b_R_close 38 = .ok (.ifCond .lt 10, 3) := by decide +kernel
theorem d_R_close_41 : decode b_R_close 41 = .ok (.iload 4, 2) := by decide +kernel
theorem d_R_close_43 : decode b_R_close 43 = .ok (.bipush 15, 2) := by decide +kernel
theorem d_R_close_45 : decode b_R_close 45 = .ok (.if_icmp .le 9, 3) := by decide +kernel
theorem d_R_close_48 : decode b_R_close 48 = .ok (.aload_n 0, 1) := by decide +kernel
theorem d_R_close_49 : decode b_R_close 49 = .ok (.iconst 2, 1) := by decide +kernel
theorem d_R_close_50 : decode b_R_close 50 = .ok (.invokevirtual 130, 3) := by decide +kernel
theorem d_R_close_53 : decode b_R_close 53 = .ok (.ireturn, 1) := by decide +kernel
theorem d_R_close_54 : decode b_R_close 54 = .ok (.aload_n 0, 1) := by decide +kernel
theorem d_R_close_55 : decode b_R_close 55 = .ok (.getfield 38, 3) := by decide +kernel
theorem d_R_close_58 : decode b_R_close 58 = .ok (.aload_n 0, 1) := by decide +kernel
theorem d_R_close_59 : decode b_R_close 59 = .ok (.getfield 68, 3) := by decide +kernel
theorem d_R_close_62 : decode b_R_close 62 = .ok (.iconst 1, 1) := by decide +kernel
theorem d_R_close_63 : decode b_R_close 63 = .ok (.isub, 1) := by decide +kernel
theorem d_R_close_64 : decode b_R_close 64 = .ok (.iaload, 1) := by decide +kernel
theorem d_R_close_65 : decode b_R_close 65 = .ok (.istore 5, 2) := by decide +kernel
theorem d_R_close_67 : decode b_R_close 67 = .ok (.aload_n 0, 1) := by decide +kernel
theorem d_R_close_68 : decode b_R_close 68 = .ok (.invokevirtual 75, 3) := by decide +kernel
theorem d_R_close_71 : decode b_R_close 71 = .ok (.istore 6, 2) := by decide +kernel
theorem d_R_close_73 : decode b_R_close 73 = .ok (.iload 6, 2) := by decide +kernel
theorem d_R_close_75 : decode b_R_close 75 = .ok (.ifCond .eq 13, 3) := by decide +kernel
theorem d_R_close_78 : decode b_R_close 78 = .ok (.aload_n 0, 1) := by decide +kernel
theorem d_R_close_79 : decode b_R_close 79 = .ok (.iload 5, 2) := by decide +kernel
theorem d_R_close_81 : decode b_R_close 81 = .ok (.iload_n 3, 1) := by decide +kernel
theorem d_R_close_82 : decode b_R_close 82 = .ok (.invokevirtual 133, 3) := by decide +kernel
theorem d_R_close_85 : decode b_R_close 85 = .ok (.goto 9, 3) := by decide +kernel
theorem d_R_close_88 : decode b_R_close 88 = .ok (.aload_n 0, 1) := by decide +kernel
theorem d_R_close_89 : decode b_R_close 89 = .ok (.iload 5, 2) := by decide +kernel
theorem d_R_close_91 : decode b_R_close 91 = .ok (.invokevirtual 136, 3) := by decide +kernel
theorem d_R_close_94 : decode b_R_close 94 = .ok (.iload_n 1, 1) := by decide +kernel
theorem d_R_close_95 : decode b_R_close 95 = .ok (.ifCond .ne 10, 3) := by decide +kernel
theorem d_R_close_98 : decode b_R_close 98 = .ok (.aload_n 0, 1) := by decide +kernel
theorem d_R_close_99 : decode b_R_close 99 = .ok (.getfield 90, 3) := by decide +kernel
theorem d_R_close_102 : decode b_R_close 102 = .ok (.goto 20, 3) := by decide +kernel
theorem d_R_close_105 : decode b_R_close 105 = .ok (.iload_n 1, 1) := by decide +kernel
theorem d_R_close_106 : decode b_R_close 106 = .ok (.iconst 1, 1) := by decide +kernel
theorem d_R_close_107 : decode b_R_close 107 = .ok (.if_icmp .ne 13, 3) := by decide +kernel
theorem d_R_close_110 : decode b_R_close 110 = .ok (.aload_n 0, 1) := by decide +kernel
theorem d_R_close_111 : decode b_R_close 111 = .ok (.getfield 90, 3) := by decide +kernel
theorem d_R_close_114 : decode b_R_close 114 = .ok (.iload_n 2, 1) := by decide +kernel
theorem d_R_close_115 : decode b_R_close 115 = .ok (.i2l, 1) := by decide +kernel
theorem d_R_close_116 : decode b_R_close 116 = .ok (.ladd, 1) := by decide +kernel
theorem d_R_close_117 : decode b_R_close 117 = .ok (.goto 5, 3) := by decide +kernel
theorem d_R_close_120 : decode b_R_close 120 = .ok (.iload_n 2, 1) := by decide +kernel
theorem d_R_close_121 : decode b_R_close 121 = .ok (.i2l, 1) := by decide +kernel
theorem d_R_close_122 : decode b_R_close 122 = .ok (.lstore 7, 2) := by decide +kernel
theorem d_R_close_124 : decode b_R_close 124 = .ok (.aload_n 0, 1) := by decide +kernel
theorem d_R_close_125 : decode b_R_close 125 = .ok (.getfield 90, 3) := by decide +kernel
theorem d_R_close_128 : decode b_R_close 128 = .ok (.invokestatic 139, 3) := by decide +kernel
theorem d_R_close_131 : decode b_R_close 131 = .ok (.ifCond .eq 78, 3) := by decide +kernel
theorem d_R_close_134 : decode b_R_close 134 = .ok (.lload 7, 2) := by decide +kernel
theorem d_R_close_136 : decode b_R_close 136 = .ok (.invokestatic 139, 3) := by decide +kernel
theorem d_R_close_139 : decode b_R_close 139 = .ok (.ifCond .eq 70, 3) := by decide +kernel
theorem d_R_close_142 : decode b_R_close 142 = .ok (.aload_n 0, 1) := by decide +kernel
theorem d_R_close_143 : decode b_R_close 143 = .ok (.getfield 103, 3) := by decide +kernel
theorem d_R_close_146 : decode b_R_close 146 = .ok (.invokestatic 139, 3) := by decide +kernel
theorem d_R_close_149 : decode b_R_close 149 = .ok (.ifCond .eq 60, 3) := by decide +kernel
theorem d_R_close_152 : decode b_R_close 152 = .ok (.aload_n 0, 1) := by decide +kernel
theorem d_R_close_153 : decode b_R_close 153 = .ok (.getfield 100, 3) := by decide +kernel
theorem d_R_close_156 : decode b_R_close 156 = .ok (.invokestatic 139, 3) := by decide +kernel
theorem d_R_close_159 : decode b_R_close 159 = .ok (.ifCond .eq 50, 3) := by decide +kernel
theorem d_R_close_162 : decode b_R_close 162 = .ok (.aload_n 0, 1) := by decide +kernel
theorem d_R_close_163 : decode b_R_close 163 = .ok (.getfield 94, 3) := by decide +kernel
theorem d_R_close_166 : decode b_R_close 166 = .ok (.invokestatic 139, 3) := by decide +kernel
theorem d_R_close_169 : decode b_R_close 169 = .ok (.ifCond .eq 40, 3) := by decide +kernel
theorem d_R_close_172 : decode b_R_close 172 = .ok (.aload_n 0, 1) := by decide +kernel
theorem d_R_close_173 : decode b_R_close 173 = .ok (.getfield 97, 3) := by decide +kernel
theorem d_R_close_176 : decode b_R_close 176 = .ok (.invokestatic 139, 3) := by decide +kernel
theorem d_R_close_179 : decode b_R_close 179 = .ok (.ifCond .eq 30, 3) := by decide +kernel
theorem d_R_close_182 : decode b_R_close 182 = .ok (.aload_n 0, 1) := by decide +kernel
theorem d_R_close_183 : decode b_R_close 183 = .ok (.iload 5, 2) := by decide +kernel
theorem d_R_close_185 : decode b_R_close 185 = .ok (.aload_n 0, 1) := by decide +kernel
theorem d_R_close_186 : decode b_R_close 186 = .ok (.getfield 61, 3) := by decide +kernel
theorem d_R_close_189 : decode b_R_close 189 = .ok (.invokevirtual 143, 3) := by decide +kernel
theorem d_R_close_192 : decode b_R_close 192 = .ok (.bipush 100, 2) := by decide +kernel
theorem d_R_close_194 : decode b_R_close 194 = .ok (.if_icmp .ge 15, 3) := by decide +kernel
theorem d_R_close_197 : decode b_R_close 197 = .ok (.aload_n 0, 1) := by decide +kernel
theorem d_R_close_198 : decode b_R_close 198 = .ok (.iconst 1, 1) := by decide +kernel
theorem d_R_close_199 : decode b_R_close 199 = .ok (.invokevirtual 71, 3) := by decide +kernel
theorem d_R_close_202 : decode b_R_close 202 = .ok (.ifCond .eq 7, 3) := by decide +kernel
theorem d_R_close_205 : decode b_R_close 205 = .ok (.iconst 1, 1) := by decide +kernel
theorem d_R_close_206 : decode b_R_close 206 = .ok (.goto 4, 3) := by decide +kernel
theorem d_R_close_209 : decode b_R_close 209 = .ok (.iconst 0, 1) := by decide +kernel
theorem d_R_close_210 : decode b_R_close 210 = .ok (.istore 9, 2) := by decide +kernel
theorem d_R_close_212 : decode b_R_close 212 = .ok (.iconst 0, 1) := by decide +kernel
theorem d_R_close_213 : decode b_R_close 213 = .ok (.istore 10, 2) := by decide +kernel
theorem d_R_close_215 : decode b_R_close 215 = .ok (.iload 10, 2) := by decide +kernel
theorem d_R_close_217 : decode b_R_close 217 = .ok (.iconst 4, 1) := by decide +kernel
theorem d_R_close_218 : decode b_R_close 218 = .ok (.if_icmp .ge 34, 3) := by decide +kernel
theorem d_R_close_221 : decode b_R_close 221 = .ok (.iload 9, 2) := by decide +kernel
theorem d_R_close_223 : decode b_R_close 223 = .ok (.ifCond .eq 20, 3) := by decide +kernel
theorem d_R_close_226 : decode b_R_close 226 = .ok (.aload_n 0, 1) := by decide +kernel
theorem d_R_close_227 : decode b_R_close 227 = .ok (.getfield 48, 3) := by decide +kernel
theorem d_R_close_230 : decode b_R_close 230 = .ok (.iload 10, 2) := by decide +kernel
theorem d_R_close_232 : decode b_R_close 232 = .ok (.laload, 1) := by decide +kernel
theorem d_R_close_233 : decode b_R_close 233 = .ok (.invokestatic 139, 3) := by decide +kernel
theorem d_R_close_236 : decode b_R_close 236 = .ok (.ifCond .eq 7, 3) := by decide +kernel
theorem d_R_close_239 : decode b_R_close 239 = .ok (.iconst 1, 1) := by decide +kernel
theorem d_R_close_240 : decode b_R_close 240 = .ok (.goto 4, 3) := by decide +kernel
theorem d_R_close_243 : decode b_R_close 243 = .ok (.iconst 0, 1) := by decide +kernel
theorem d_R_close_244 : decode b_R_close 244 = .ok (.istore 9, 2) := by decide +kernel
theorem d_R_close_246 : decode b_R_close 246 = .ok (.iinc 10 1, 3) := by decide +kernel
theorem d_R_close_249 : decode b_R_close 249 = .ok (.goto (-34), 3) := by decide +kernel
theorem d_R_close_252 : decode b_R_close 252 = .ok (.iload 9, 2) := by decide +kernel
theorem d_R_close_254 : decode b_R_close 254 = .ok (.ifCond .ne 9, 3) := by decide +kernel
theorem d_R_close_257 : decode b_R_close 257 = .ok (.aload_n 0, 1) := by decide +kernel
theorem d_R_close_258 : decode b_R_close 258 = .ok (.iconst 3, 1) := by decide +kernel
theorem d_R_close_259 : decode b_R_close 259 = .ok (.invokevirtual 130, 3) := by decide +kernel
theorem d_R_close_262 : decode b_R_close 262 = .ok (.ireturn, 1) := by decide +kernel
theorem d_R_close_263 : decode b_R_close 263 = .ok (.aload_n 0, 1) := by decide +kernel
theorem d_R_close_264 : decode b_R_close 264 = .ok (.iconst 0, 1) := by decide +kernel
theorem d_R_close_265 : decode b_R_close 265 = .ok (.putfield 51, 3) := by decide +kernel
theorem d_R_close_268 : decode b_R_close 268 = .ok (.aload_n 0, 1) := by decide +kernel
theorem d_R_close_269 : decode b_R_close 269 = .ok (.iload 5, 2) := by decide +kernel
theorem d_R_close_271 : decode b_R_close 271 = .ok (.lload 7, 2) := by decide +kernel
theorem d_R_close_273 : decode b_R_close 273 = .ok (.aload_n 0, 1) := by decide +kernel
theorem d_R_close_274 : decode b_R_close 274 = .ok (.getfield 90, 3) := by decide +kernel
theorem d_R_close_277 : decode b_R_close 277 = .ok (.lsub, 1) := by decide +kernel
theorem d_R_close_278 : decode b_R_close 278 = .ok (.invokevirtual 147, 3) := by decide +kernel
theorem d_R_close_281 : decode b_R_close 281 = .ok (.aload_n 0, 1) := by decide +kernel
theorem d_R_close_282 : decode b_R_close 282 = .ok (.iload 4, 2) := by decide +kernel
theorem d_R_close_284 : decode b_R_close 284 = .ok (.invokevirtual 151, 3) := by decide +kernel
theorem d_R_close_287 : decode b_R_close 287 = .ok (.aload_n 0, 1) := by decide +kernel
theorem d_R_close_288 : decode b_R_close 288 = .ok (.getfield 61, 3) := by decide +kernel
theorem d_R_close_291 : decode b_R_close 291 = .ok (.iload 5, 2) := by decide +kernel
theorem d_R_close_293 : decode b_R_close 293 = .ok (.isub, 1) := by decide +kernel
theorem d_R_close_294 : decode b_R_close 294 = .ok (.istore 10, 2) := by decide +kernel
theorem d_R_close_296 : decode b_R_close 296 = .ok (.aload_n 0, 1) := by decide +kernel
theorem d_R_close_297 : decode b_R_close 297 = .ok (.iload 4, 2) := by decide +kernel
theorem d_R_close_299 : decode b_R_close 299 = .ok (.iload 10, 2) := by decide +kernel
theorem d_R_close_301 : decode b_R_close 301 = .ok (.iconst 1, 1) := by decide +kernel
theorem d_R_close_302 : decode b_R_close 302 = .ok (.iadd, 1) := by decide +kernel
theorem d_R_close_303 : decode b_R_close 303 = .ok (.invokevirtual 154, 3) := by decide +kernel
theorem d_R_close_306 : decode b_R_close 306 = .ok (.aload_n 0, 1) := by decide +kernel
theorem d_R_close_307 : decode b_R_close 307 = .ok (.iload 4, 2) := by decide +kernel
theorem d_R_close_309 : decode b_R_close 309 = .ok (.invokevirtual 122, 3) := by decide +kernel
theorem d_R_close_312 : decode b_R_close 312 = .ok (.istore 11, 2) := by decide +kernel
theorem d_R_close_314 : decode b_R_close 314 = .ok (.aload_n 0, 1) := by decide +kernel
theorem d_R_close_315 : decode b_R_close 315 = .ok (.getfield 7, 3) := by decide +kernel
theorem d_R_close_318 : decode b_R_close 318 = .ok (.iload 11, 2) := by decide +kernel
theorem d_R_close_320 : decode b_R_close 320 = .ok (.iload 6, 2) := by decide +kernel
theorem d_R_close_322 : decode b_R_close 322 = .ok (.ifCond .eq 7, 3) := by decide +kernel
theorem d_R_close_325 : decode b_R_close 325 = .ok (.iconst 3, 1) := by decide +kernel
theorem d_R_close_326 : decode b_R_close 326 = .ok (.goto 4, 3) := by decide +kernel
theorem d_R_close_329 : decode b_R_close 329 = .ok (.iconst 2, 1) := by decide +kernel
theorem d_R_close_330 : decode b_R_close 330 = .ok (.iastore, 1) := by decide +kernel
theorem d_R_close_331 : decode b_R_close 331 = .ok (.aload_n 0, 1) := by decide +kernel
theorem d_R_close_332 : decode b_R_close 332 = .ok (.getfield 13, 3) := by decide +kernel
theorem d_R_close_335 : decode b_R_close 335 = .ok (.iload 11, 2) := by decide +kernel
theorem d_R_close_337 : decode b_R_close 337 = .ok (.iload 6, 2) := by decide +kernel
theorem d_R_close_339 : decode b_R_close 339 = .ok (.ifCond .eq 10, 3) := by decide +kernel
theorem d_R_close_342 : decode b_R_close 342 = .ok (.aload_n 0, 1) := by decide +kernel
theorem d_R_close_343 : decode b_R_close 343 = .ok (.getfield 100, 3) := by decide +kernel
theorem d_R_close_346 : decode b_R_close 346 = .ok (.goto 5, 3) := by decide +kernel
theorem d_R_close_349 : decode b_R_close 349 = .ok (.lload 7, 2) := by decide +kernel
theorem d_R_close_351 : decode b_R_close 351 = .ok (.l2i, 1) := by decide +kernel
theorem d_R_close_352 : decode b_R_close 352 = .ok (.iastore, 1) := by decide +kernel
theorem d_R_close_353 : decode b_R_close 353 = .ok (.aload_n 0, 1) := by decide +kernel
theorem d_R_close_354 : decode b_R_close 354 = .ok (.getfield 16, 3) := by decide +kernel
theorem d_R_close_357 : decode b_R_close 357 = .ok (.iload 11, 2) := by decide +kernel
theorem d_R_close_359 : decode b_R_close 359 = .ok (.iload 6, 2) := by decide +kernel
theorem d_R_close_361 : decode b_R_close 361 = .ok (.ifCond .eq 8, 3) := by decide +kernel
theorem d_R_close_364 : decode b_R_close 364 = .ok (.lload 7, 2) := by decide +kernel
theorem d_R_close_366 : decode b_R_close 366 = .ok (.goto 7, 3) := by decide +kernel
theorem d_R_close_369 : decode b_R_close 369 = .ok (.aload_n 0, 1) := by decide +kernel
theorem d_R_close_370 : decode b_R_close 370 = .ok (.getfield 94, 3) := by decide +kernel
theorem d_R_close_373 : decode b_R_close 373 = .ok (.l2i, 1) := by decide +kernel
theorem d_R_close_374 : decode b_R_close 374 = .ok (.iastore, 1) := by decide +kernel
theorem d_R_close_375 : decode b_R_close 375 = .ok (.aload_n 0, 1) := by decide +kernel
theorem d_R_close_376 : decode b_R_close 376 = .ok (.getfield 19, 3) := by decide +kernel
theorem d_R_close_379 : decode b_R_close 379 = .ok (.iload 11, 2) := by decide +kernel
theorem d_R_close_381 : decode b_R_close 381 = .ok (.aload_n 0, 1) := by decide +kernel
theorem d_R_close_382 : decode b_R_close 382 = .ok (.getfield 97, 3) := by decide +kernel
theorem d_R_close_385 : decode b_R_close 385 = .ok (.l2i, 1) := by decide +kernel
theorem d_R_close_386 : decode b_R_close 386 = .ok (.iastore, 1) := by decide +kernel
theorem d_R_close_387 : decode b_R_close 387 = .ok (.aload_n 0, 1) := by decide +kernel
theorem d_R_close_388 : decode b_R_close 388 = .ok (.getfield 22, 3) := by decide +kernel
theorem d_R_close_391 : decode b_R_close 391 = .ok (.iload 11, 2) := by decide +kernel
theorem d_R_close_393 : decode b_R_close 393 = .ok (.iconst 0, 1) := by decide +kernel
theorem d_R_close_394 : decode b_R_close 394 = .ok (.iastore, 1) := by decide +kernel
theorem d_R_close_395 : decode b_R_close 395 = .ok (.aload_n 0, 1) := by decide +kernel
theorem d_R_close_396 : decode b_R_close 396 = .ok (.getfield 35, 3) := by decide +kernel
theorem d_R_close_399 : decode b_R_close 399 = .ok (.iload 11, 2) := by decide +kernel
theorem d_R_close_401 : decode b_R_close 401 = .ok (.iload 10, 2) := by decide +kernel
theorem d_R_close_403 : decode b_R_close 403 = .ok (.iconst 1, 1) := by decide +kernel
theorem d_R_close_404 : decode b_R_close 404 = .ok (.iadd, 1) := by decide +kernel
theorem d_R_close_405 : decode b_R_close 405 = .ok (.iastore, 1) := by decide +kernel
theorem d_R_close_406 : decode b_R_close 406 = .ok (.iconst 0, 1) := by decide +kernel
theorem d_R_close_407 : decode b_R_close 407 = .ok (.istore 12, 2) := by decide +kernel
theorem d_R_close_409 : decode b_R_close 409 = .ok (.iload 12, 2) := by decide +kernel
theorem d_R_close_411 : decode b_R_close 411 = .ok (.iload 10, 2) := by decide +kernel
theorem d_R_close_413 : decode b_R_close 413 = .ok (.if_icmp .ge 25, 3) := by decide +kernel
theorem d_R_close_416 : decode b_R_close 416 = .ok (.aload_n 0, 1) := by decide +kernel
theorem d_R_close_417 : decode b_R_close 417 = .ok (.iload 5, 2) := by decide +kernel
theorem d_R_close_419 : decode b_R_close 419 = .ok (.iload 12, 2) := by decide +kernel
theorem d_R_close_421 : decode b_R_close 421 = .ok (.iadd, 1) := by decide +kernel
theorem d_R_close_422 : decode b_R_close 422 = .ok (.iload 11, 2) := by decide +kernel
theorem d_R_close_424 : decode b_R_close 424 = .ok (.iconst 1, 1) := by decide +kernel
theorem d_R_close_425 : decode b_R_close 425 = .ok (.iadd, 1) := by decide +kernel
theorem d_R_close_426 : decode b_R_close 426 = .ok (.iload 12, 2) := by decide +kernel
theorem d_R_close_428 : decode b_R_close 428 = .ok (.iadd, 1) := by decide +kernel
theorem d_R_close_429 : decode b_R_close 429 = .ok (.invokevirtual 126, 3) := by decide +kernel
theorem d_R_close_432 : decode b_R_close 432 = .ok (.iinc 12 1, 3) := by decide +kernel
theorem d_R_close_435 : decode b_R_close 435 = .ok (.goto (-26), 3) := by decide +kernel
theorem d_R_close_438 : decode b_R_close 438 = .ok (.aload_n 0, 1) := by decide +kernel
theorem d_R_close_439 : decode b_R_close 439 = .ok (.iload 5, 2) := by decide +kernel
theorem d_R_close_441 : decode b_R_close 441 = .ok (.putfield 61, 3) := by decide +kernel
theorem d_R_close_444 : decode b_R_close 444 = .ok (.aload_n 0, 1) := by decide +kernel
theorem d_R_close_445 : decode b_R_close 445 = .ok (.dup, 1) := by decide +kernel
theorem d_R_close_446 : decode b_R_close 446 = .ok (.getfield 68, 3) := by decide +kernel
theorem d_R_close_449 : decode b_R_close 449 = .ok (.iconst 1, 1) := by decide +kernel
theorem d_R_close_450 : decode b_R_close 450 = .ok (.isub, 1) := by decide +kernel
theorem d_R_close_451 : decode b_R_close 451 = .ok (.putfield 68, 3) := by decide +kernel
theorem d_R_close_454 : decode b_R_close 454 = .ok (.lload 7, 2) := by decide +kernel
theorem d_R_close_456 : decode b_R_close 456 = .ok (.l2i, 1) := by decide +kernel
theorem d_R_close_457 : decode b_R_close 457 = .ok (.ireturn, 1) := by decide +kernel
abbrev b_R_count : ByteArray := prog_7_method_37_code
def y_R_count : MethodName := ⟨"BoxDeskModel", "count", "(I)I"⟩
theorem d_R_count_0 : decode b_R_count 0 = .ok (.aload_n 0, 1) := by decide +kernel
theorem d_R_count_1 : decode b_R_count 1 = .ok (.iconst 0, 1) := by decide +kernel
theorem d_R_count_2 : decode b_R_count 2 = .ok (.putfield 51, 3) := by decide +kernel
theorem d_R_count_5 : decode b_R_count 5 = .ok (.iload_n 1, 1) := by decide +kernel
theorem d_R_count_6 : decode b_R_count 6 = .ok (.ifCond .ne 10, 3) := by decide +kernel
theorem d_R_count_9 : decode b_R_count 9 = .ok (.aload_n 0, 1) := by decide +kernel
theorem d_R_count_10 : decode b_R_count 10 = .ok (.getfield 68, 3) := by decide +kernel
theorem d_R_count_13 : decode b_R_count 13 = .ok (.goto 21, 3) := by decide +kernel
theorem d_R_count_16 : decode b_R_count 16 = .ok (.iload_n 1, 1) := by decide +kernel
theorem d_R_count_17 : decode b_R_count 17 = .ok (.iconst 1, 1) := by decide +kernel
theorem d_R_count_18 : decode b_R_count 18 = .ok (.if_icmp .ne 15, 3) := by decide +kernel
theorem d_R_count_21 : decode b_R_count 21 = .ok (.aload_n 0, 1) := by decide +kernel
theorem d_R_count_22 : decode b_R_count 22 = .ok (.getfield 61, 3) := by decide +kernel
theorem d_R_count_25 : decode b_R_count 25 = .ok (.aload_n 0, 1) := by decide +kernel
theorem d_R_count_26 : decode b_R_count 26 = .ok (.invokevirtual 64, 3) := by decide +kernel
theorem d_R_count_29 : decode b_R_count 29 = .ok (.iadd, 1) := by decide +kernel
theorem d_R_count_30 : decode b_R_count 30 = .ok (.goto 4, 3) := by decide +kernel
theorem d_R_count_33 : decode b_R_count 33 = .ok (.iconst (-1), 1) := by decide +kernel
theorem d_R_count_34 : decode b_R_count 34 = .ok (.ireturn, 1) := by decide +kernel
abbrev b_R_empty : ByteArray := prog_7_method_27_code
def y_R_empty : MethodName := ⟨"BoxDeskModel", "empty", "(I)V"⟩
theorem d_R_empty_0 : decode b_R_empty 0 = .ok (.aload_n 0, 1) := by decide +kernel
theorem d_R_empty_1 : decode b_R_empty 1 = .ok (.iload_n 1, 1) := by decide +kernel
theorem d_R_empty_2 : decode b_R_empty 2 = .ok (.invokevirtual 122, 3) := by decide +kernel
theorem d_R_empty_5 : decode b_R_empty 5 = .ok (.istore_n 2, 1) := by decide +kernel
theorem d_R_empty_6 : decode b_R_empty 6 = .ok (.aload_n 0, 1) := by decide +kernel
theorem d_R_empty_7 : decode b_R_empty 7 = .ok (.getfield 45, 3) := by decide +kernel
theorem d_R_empty_10 : decode b_R_empty 10 = .ok (.iload_n 1, 1) := by decide +kernel
theorem d_R_empty_11 : decode b_R_empty 11 = .ok (.iaload, 1) := by decide +kernel
theorem d_R_empty_12 : decode b_R_empty 12 = .ok (.istore_n 3, 1) := by decide +kernel
theorem d_R_empty_13 : decode b_R_empty 13 = .ok (.sipush 4100, 3) := by decide +kernel
theorem d_R_empty_16 : decode b_R_empty 16 = .ok (.aload_n 0, 1) := by decide +kernel
theorem d_R_empty_17 : decode b_R_empty 17 = .ok (.invokevirtual 64, 3) := by decide +kernel
theorem d_R_empty_20 : decode b_R_empty 20 = .ok (.iadd, 1) := by decide +kernel
theorem d_R_empty_21 : decode b_R_empty 21 = .ok (.istore 4, 2) := by decide +kernel
theorem d_R_empty_23 : decode b_R_empty 23 = .ok (.iload_n 2, 1) := by decide +kernel
theorem d_R_empty_24 : decode b_R_empty 24 = .ok (.iload_n 3, 1) := by decide +kernel
theorem d_R_empty_25 : decode b_R_empty 25 = .ok (.iadd, 1) := by decide +kernel
theorem d_R_empty_26 : decode b_R_empty 26 = .ok (.istore 5, 2) := by decide +kernel
theorem d_R_empty_28 : decode b_R_empty 28 = .ok (.iload 5, 2) := by decide +kernel
theorem d_R_empty_30 : decode b_R_empty 30 = .ok (.iload 4, 2) := by decide +kernel
theorem d_R_empty_32 : decode b_R_empty 32 = .ok (.if_icmp .ge 19, 3) := by decide +kernel
theorem d_R_empty_35 : decode b_R_empty 35 = .ok (.aload_n 0, 1) := by decide +kernel
theorem d_R_empty_36 : decode b_R_empty 36 = .ok (.iload 5, 2) := by decide +kernel
theorem d_R_empty_38 : decode b_R_empty 38 = .ok (.iload 5, 2) := by decide +kernel
theorem d_R_empty_40 : decode b_R_empty 40 = .ok (.iload_n 3, 1) := by decide +kernel
theorem d_R_empty_41 : decode b_R_empty 41 = .ok (.isub, 1) := by decide +kernel
theorem d_R_empty_42 : decode b_R_empty 42 = .ok (.invokevirtual 126, 3) := by decide +kernel
theorem d_R_empty_45 : decode b_R_empty 45 = .ok (.iinc 5 1, 3) := by decide +kernel
theorem d_R_empty_48 : decode b_R_empty 48 = .ok (.goto (-20), 3) := by decide +kernel
theorem d_R_empty_51 : decode b_R_empty 51 = .ok (.aload_n 0, 1) := by decide +kernel
theorem d_R_empty_52 : decode b_R_empty 52 = .ok (.getfield 45, 3) := by decide +kernel
theorem d_R_empty_55 : decode b_R_empty 55 = .ok (.iload_n 1, 1) := by decide +kernel
theorem d_R_empty_56 : decode b_R_empty 56 = .ok (.iconst 0, 1) := by decide +kernel
theorem d_R_empty_57 : decode b_R_empty 57 = .ok (.iastore, 1) := by decide +kernel
theorem d_R_empty_58 : decode b_R_empty 58 = .ok (.return_, 1) := by decide +kernel
abbrev b_R_fails : ByteArray := prog_7_method_3_code
def y_R_fails : MethodName := ⟨"BoxDeskModel", "fails", "(I)I"⟩
theorem d_R_fails_0 : decode b_R_fails 0 = .ok (.aload_n 0, 1) := by decide +kernel
theorem d_R_fails_1 : decode b_R_fails 1 = .ok (.iload_n 1, 1) := by decide +kernel
theorem d_R_fails_2 : decode b_R_fails 2 = .ok (.putfield 51, 3) := by decide +kernel
theorem d_R_fails_5 : decode b_R_fails 5 = .ok (.iconst 0, 1) := by decide +kernel
theorem d_R_fails_6 : decode b_R_fails 6 = .ok (.ireturn, 1) := by decide +kernel
abbrev b_R_glue : ByteArray := prog_7_method_15_code
def y_R_glue : MethodName := ⟨"BoxDeskModel", "glue", "(IIII)Z"⟩
theorem d_R_glue_0 : decode b_R_glue 0 = .ok (.aload_n 0, 1) := by decide +kernel
theorem d_R_glue_1 : decode b_R_glue 1 = .ok (.iload_n 1, 1) := by decide +kernel
theorem d_R_glue_2 : decode b_R_glue 2 = .ok (.invokestatic 79, 3) := by decide +kernel
theorem d_R_glue_5 : decode b_R_glue 5 = .ok (.ifCond .eq 40, 3) := by decide +kernel
theorem d_R_glue_8 : decode b_R_glue 8 = .ok (.iload_n 2, 1) := by decide +kernel
theorem d_R_glue_9 : decode b_R_glue 9 = .ok (.invokestatic 79, 3) := by decide +kernel
theorem d_R_glue_12 : decode b_R_glue 12 = .ok (.ifCond .eq 33, 3) := by decide +kernel
theorem d_R_glue_15 : decode b_R_glue 15 = .ok (.iload 4, 2) := by decide +kernel
theorem d_R_glue_17 : decode b_R_glue 17 = .ok (.invokestatic 79, 3) := by decide +kernel
theorem d_R_glue_20 : decode b_R_glue 20 = .ok (.ifCond .eq 25, 3) := by decide +kernel
theorem d_R_glue_23 : decode b_R_glue 23 = .ok (.iload_n 2, 1) := by decide +kernel
theorem d_R_glue_24 : decode b_R_glue 24 = .ok (.ifCond .lt 21, 3) := by decide +kernel
theorem d_R_glue_27 : decode b_R_glue 27 = .ok (.iload 4, 2) := by decide +kernel
theorem d_R_glue_29 : decode b_R_glue 29 = .ok (.ifCond .lt 16, 3) := by decide +kernel
theorem d_R_glue_32 : decode b_R_glue 32 = .ok (.iload_n 3, 1) := by decide +kernel
theorem d_R_glue_33 : decode b_R_glue 33 = .ok (.ifCond .lt 12, 3) := by decide +kernel
theorem d_R_glue_36 : decode b_R_glue 36 = .ok (.iload_n 3, 1) := by decide +kernel
theorem d_R_glue_37 : decode b_R_glue 37 = .ok (.iconst 4, 1) := by decide +kernel
theorem d_R_glue_38 : decode b_R_glue 38 = .ok (.if_icmp .ge 7, 3) := by decide +kernel
theorem d_R_glue_41 : decode b_R_glue 41 = .ok (.iconst 1, 1) := by decide +kernel
theorem d_R_glue_42 : decode b_R_glue 42 = .ok (.goto 4, 3) := by decide +kernel
theorem d_R_glue_45 : decode b_R_glue 45 = .ok (.iconst 0, 1) := by decide +kernel
theorem d_R_glue_46 : decode b_R_glue 46 = .ok (.iconst 5, 1) := by decide +kernel
theorem d_R_glue_47 : decode b_R_glue 47 = .ok (.iload_n 1, 1) := by decide +kernel
theorem d_R_glue_48 : decode b_R_glue 48 = .ok (.iconst 0, 1) := by decide +kernel
theorem d_R_glue_49 : decode b_R_glue 49 = .ok (.iconst 0, 1) := by decide +kernel
theorem d_R_glue_50 : decode b_R_glue 50 = .ok (.iload_n 2, 1) := by decide +kernel
theorem d_R_glue_51 : decode b_R_glue 51 = .ok (.iload_n 3, 1) := by decide +kernel
theorem d_R_glue_52 : decode b_R_glue 52 = .ok (.iload 4, 2) := by decide +kernel
theorem d_R_glue_54 : decode b_R_glue 54 = .ok (.invokevirtual 82, 3) := by decide +kernel
theorem d_R_glue_57 : decode b_R_glue 57 = .ok (.ireturn, 1) := by decide +kernel
abbrev b_R_hasRoom : ByteArray := prog_7_method_7_code
def y_R_hasRoom : MethodName := ⟨"BoxDeskModel", "hasRoom", "(I)Z"⟩
theorem d_R_hasRoom_0 : decode b_R_hasRoom 0 = .ok (.aload_n 0, 1) := by decide +kernel
theorem d_R_hasRoom_1 : decode b_R_hasRoom 1 = .ok (.getfield 61, 3) := by decide +kernel
theorem d_R_hasRoom_4 : decode b_R_hasRoom 4 = .ok (.aload_n 0, 1) := by decide +kernel
theorem d_R_hasRoom_5 : decode b_R_hasRoom 5 = .ok (.invokevirtual 64, 3) := by decide +kernel
theorem d_R_hasRoom_8 : decode b_R_hasRoom 8 = .ok (.iadd, 1) := by decide +kernel
theorem d_R_hasRoom_9 : decode b_R_hasRoom 9 = .ok (.iload_n 1, 1) := by decide +kernel
theorem d_R_hasRoom_10 : decode b_R_hasRoom 10 = .ok (.iadd, 1) := by decide +kernel
theorem d_R_hasRoom_11 : decode b_R_hasRoom 11 = .ok (.sipush 4000, 3) := by decide +kernel
theorem d_R_hasRoom_14 : decode b_R_hasRoom 14 = .ok (.if_icmp .gt 7, 3) := by decide +kernel
theorem d_R_hasRoom_17 : decode b_R_hasRoom 17 = .ok (.iconst 1, 1) := by decide +kernel
theorem d_R_hasRoom_18 : decode b_R_hasRoom 18 = .ok (.goto 4, 3) := by decide +kernel
theorem d_R_hasRoom_21 : decode b_R_hasRoom 21 = .ok (.iconst 0, 1) := by decide +kernel
theorem d_R_hasRoom_22 : decode b_R_hasRoom 22 = .ok (.ireturn, 1) := by decide +kernel
abbrev b_R_init : ByteArray := prog_7_method_1_code
def y_R_init : MethodName := ⟨"BoxDeskModel", "<init>", "()V"⟩
theorem d_R_init_0 : decode b_R_init 0 = .ok (.aload_n 0, 1) := by decide +kernel
theorem d_R_init_1 : decode b_R_init 1 = .ok (.invokespecial 1, 3) := by decide +kernel
theorem d_R_init_4 : decode b_R_init 4 = .ok (.aload_n 0, 1) := by decide +kernel
theorem d_R_init_5 : decode b_R_init 5 = .ok (.sipush 8200, 3) := by decide +kernel
theorem d_R_init_8 : decode b_R_init 8 = .ok (.newarray .int, 2) := by decide +kernel
theorem d_R_init_10 : decode b_R_init 10 = .ok (.putfield 7, 3) := by decide +kernel
theorem d_R_init_13 : decode b_R_init 13 = .ok (.aload_n 0, 1) := by decide +kernel
theorem d_R_init_14 : decode b_R_init 14 = .ok (.sipush 8200, 3) := by decide +kernel
theorem d_R_init_17 : decode b_R_init 17 = .ok (.newarray .int, 2) := by decide +kernel
theorem d_R_init_19 : decode b_R_init 19 = .ok (.putfield 13, 3) := by decide +kernel
theorem d_R_init_22 : decode b_R_init 22 = .ok (.aload_n 0, 1) := by decide +kernel
theorem d_R_init_23 : decode b_R_init 23 = .ok (.sipush 8200, 3) := by decide +kernel
theorem d_R_init_26 : decode b_R_init 26 = .ok (.newarray .int, 2) := by decide +kernel
theorem d_R_init_28 : decode b_R_init 28 = .ok (.putfield 16, 3) := by decide +kernel
theorem d_R_init_31 : decode b_R_init 31 = .ok (.aload_n 0, 1) := by decide +kernel
theorem d_R_init_32 : decode b_R_init 32 = .ok (.sipush 8200, 3) := by decide +kernel
theorem d_R_init_35 : decode b_R_init 35 = .ok (.newarray .int, 2) := by decide +kernel
theorem d_R_init_37 : decode b_R_init 37 = .ok (.putfield 19, 3) := by decide +kernel
theorem d_R_init_40 : decode b_R_init 40 = .ok (.aload_n 0, 1) := by decide +kernel
theorem d_R_init_41 : decode b_R_init 41 = .ok (.sipush 8200, 3) := by decide +kernel
theorem d_R_init_44 : decode b_R_init 44 = .ok (.newarray .int, 2) := by decide +kernel
theorem d_R_init_46 : decode b_R_init 46 = .ok (.putfield 22, 3) := by decide +kernel
theorem d_R_init_49 : decode b_R_init 49 = .ok (.aload_n 0, 1) := by decide +kernel
theorem d_R_init_50 : decode b_R_init 50 = .ok (.sipush 8200, 3) := by decide +kernel
theorem d_R_init_53 : decode b_R_init 53 = .ok (.newarray .int, 2) := by decide +kernel
theorem d_R_init_55 : decode b_R_init 55 = .ok (.putfield 25, 3) := by decide +kernel
theorem d_R_init_58 : decode b_R_init 58 = .ok (.aload_n 0, 1) := by decide +kernel
theorem d_R_init_59 : decode b_R_init 59 = .ok (.sipush 8200, 3) := by decide +kernel
theorem d_R_init_62 : decode b_R_init 62 = .ok (.newarray .int, 2) := by decide +kernel
theorem d_R_init_64 : decode b_R_init 64 = .ok (.putfield 28, 3) := by decide +kernel
theorem d_R_init_67 : decode b_R_init 67 = .ok (.aload_n 0, 1) := by decide +kernel
theorem d_R_init_68 : decode b_R_init 68 = .ok (.sipush 8200, 3) := by decide +kernel
theorem d_R_init_71 : decode b_R_init 71 = .ok (.newarray .long, 2) := by decide +kernel
theorem d_R_init_73 : decode b_R_init 73 = .ok (.putfield 31, 3) := by decide +kernel
theorem d_R_init_76 : decode b_R_init 76 = .ok (.aload_n 0, 1) := by decide +kernel
theorem d_R_init_77 : decode b_R_init 77 = .ok (.sipush 8200, 3) := by decide +kernel
theorem d_R_init_80 : decode b_R_init 80 = .ok (.newarray .int, 2) := by decide +kernel
theorem d_R_init_82 : decode b_R_init 82 = .ok (.putfield 35, 3) := by decide +kernel
theorem d_R_init_85 : decode b_R_init 85 = .ok (.aload_n 0, 1) := by decide +kernel
theorem d_R_init_86 : decode b_R_init 86 = .ok (.bipush 101, 2) := by decide +kernel
theorem d_R_init_88 : decode b_R_init 88 = .ok (.newarray .int, 2) := by decide +kernel
theorem d_R_init_90 : decode b_R_init 90 = .ok (.putfield 38, 3) := by decide +kernel
theorem d_R_init_93 : decode b_R_init 93 = .ok (.aload_n 0, 1) := by decide +kernel
theorem d_R_init_94 : decode b_R_init 94 = .ok (.bipush 101, 2) := by decide +kernel
theorem d_R_init_96 : decode b_R_init 96 = .ok (.newarray .boolean, 2) := by decide +kernel
theorem d_R_init_98 : decode b_R_init 98 = .ok (.putfield 41, 3) := by decide +kernel
theorem d_R_init_101 : decode b_R_init 101 = .ok (.aload_n 0, 1) := by decide +kernel
theorem d_R_init_102 : decode b_R_init 102 = .ok (.bipush 16, 2) := by decide +kernel
theorem d_R_init_104 : decode b_R_init 104 = .ok (.newarray .int, 2) := by decide +kernel
theorem d_R_init_106 : decode b_R_init 106 = .ok (.putfield 45, 3) := by decide +kernel
theorem d_R_init_109 : decode b_R_init 109 = .ok (.aload_n 0, 1) := by decide +kernel
theorem d_R_init_110 : decode b_R_init 110 = .ok (.iconst 4, 1) := by decide +kernel
theorem d_R_init_111 : decode b_R_init 111 = .ok (.newarray .long, 2) := by decide +kernel
theorem d_R_init_113 : decode b_R_init 113 = .ok (.putfield 48, 3) := by decide +kernel
theorem d_R_init_116 : decode b_R_init 116 = .ok (.return_, 1) := by decide +kernel
abbrev b_R_isBox : ByteArray := prog_7_method_18_code
def y_R_isBox : MethodName := ⟨"BoxDeskModel", "isBox", "(I)Z"⟩
theorem d_R_isBox_0 : decode b_R_isBox 0 = .ok (.aload_n 0, 1) := by decide +kernel
theorem d_R_isBox_1 : decode b_R_isBox 1 = .ok (.getfield 7, 3) := by decide +kernel
theorem d_R_isBox_4 : decode b_R_isBox 4 = .ok (.iload_n 1, 1) := by decide +kernel
theorem d_R_isBox_5 : decode b_R_isBox 5 = .ok (.iaload, 1) := by decide +kernel
theorem d_R_isBox_6 : decode b_R_isBox 6 = .ok (.iconst 2, 1) := by decide +kernel
theorem d_R_isBox_7 : decode b_R_isBox 7 = .ok (.if_icmp .eq 13, 3) := by decide +kernel
theorem d_R_isBox_10 : decode b_R_isBox 10 = .ok (.aload_n 0, 1) := by decide +kernel
theorem d_R_isBox_11 : decode b_R_isBox 11 = .ok (.getfield 7, 3) := by decide +kernel
theorem d_R_isBox_14 : decode b_R_isBox 14 = .ok (.iload_n 1, 1) := by decide +kernel
theorem d_R_isBox_15 : decode b_R_isBox 15 = .ok (.iaload, 1) := by decide +kernel
theorem d_R_isBox_16 : decode b_R_isBox 16 = .ok (.iconst 3, 1) := by decide +kernel
theorem d_R_isBox_17 : decode b_R_isBox 17 = .ok (.if_icmp .ne 7, 3) := by decide +kernel
theorem d_R_isBox_20 : decode b_R_isBox 20 = .ok (.iconst 1, 1) := by decide +kernel
theorem d_R_isBox_21 : decode b_R_isBox 21 = .ok (.goto 4, 3) := by decide +kernel
theorem d_R_isBox_24 : decode b_R_isBox 24 = .ok (.iconst 0, 1) := by decide +kernel
theorem d_R_isBox_25 : decode b_R_isBox 25 = .ok (.ireturn, 1) := by decide +kernel
abbrev b_R_isFull : ByteArray := prog_7_method_30_code
def y_R_isFull : MethodName := ⟨"BoxDeskModel", "isFull", "(I)Z"⟩
theorem d_R_isFull_0 : decode b_R_isFull 0 = .ok (.iload_n 1, 1) := by decide +kernel
theorem d_R_isFull_1 : decode b_R_isFull 1 = .ok (.ifCond .lt 36, 3) := by decide +kernel
theorem d_R_isFull_4 : decode b_R_isFull 4 = .ok (.iload_n 1, 1) := by decide +kernel
theorem d_R_isFull_5 : decode b_R_isFull 5 = .ok (.bipush 16, 2) := by decide +kernel
theorem d_R_isFull_7 : decode b_R_isFull 7 = .ok (.if_icmp .ge 30, 3) := by decide +kernel
theorem d_R_isFull_10 : decode b_R_isFull 10 = .ok (.aload_n 0, 1) := by decide +kernel
theorem d_R_isFull_11 : decode b_R_isFull 11 = .ok (.getfield 45, 3) := by decide +kernel
theorem d_R_isFull_14 : decode b_R_isFull 14 = .ok (.iload_n 1, 1) := by decide +kernel
theorem d_R_isFull_15 : decode b_R_isFull 15 = .ok (.ifCond .lt 13, 3) := by decide +kernel
theorem d_R_isFull_18 : decode b_R_isFull 18 = .ok (.iload_n 1, 1) := by decide +kernel
theorem d_R_isFull_19 : decode b_R_isFull 19 = .ok (.bipush 16, 2) := by decide +kernel
theorem d_R_isFull_21 : decode b_R_isFull 21 = .ok (.if_icmp .ge 7, 3) := by decide +kernel
theorem d_R_isFull_24 : decode b_R_isFull 24 = .ok (.iload_n 1, 1) := by decide +kernel
theorem d_R_isFull_25 : decode b_R_isFull 25 = .ok (.goto 4, 3) := by decide +kernel
theorem d_R_isFull_28 : decode b_R_isFull 28 = .ok (.iconst 0, 1) := by decide +kernel
theorem d_R_isFull_29 : decode b_R_isFull 29 = .ok (.iaload, 1) := by decide +kernel
theorem d_R_isFull_30 : decode b_R_isFull 30 = .ok (.ifCond .le 7, 3) := by decide +kernel
theorem d_R_isFull_33 : decode b_R_isFull 33 = .ok (.iconst 1, 1) := by decide +kernel
theorem d_R_isFull_34 : decode b_R_isFull 34 = .ok (.goto 4, 3) := by decide +kernel
theorem d_R_isFull_37 : decode b_R_isFull 37 = .ok (.iconst 0, 1) := by decide +kernel
theorem d_R_isFull_38 : decode b_R_isFull 38 = .ok (.ireturn, 1) := by decide +kernel
abbrev b_R_isSize : ByteArray := prog_7_method_4_code
def y_R_isSize : MethodName := ⟨"BoxDeskModel", "isSize", "(I)Z"⟩
theorem d_R_isSize_0 : decode b_R_isSize 0 = .ok (.iload_n 0, 1) := by decide +kernel
theorem d_R_isSize_1 : decode b_R_isSize 1 = .ok (.ldc 55, 2) := by decide +kernel
theorem d_R_isSize_3 : decode b_R_isSize 3 = .ok (.if_icmp .lt 13, 3) := by decide +kernel
theorem d_R_isSize_6 : decode b_R_isSize 6 = .ok (.iload_n 0, 1) := by decide +kernel
theorem d_R_isSize_7 : decode b_R_isSize 7 = .ok (.ldc 56, 2) := by decide +kernel
theorem d_R_isSize_9 : decode b_R_isSize 9 = .ok (.if_icmp .gt 7, 3) := by decide +kernel
theorem d_R_isSize_12 : decode b_R_isSize 12 = .ok (.iconst 1, 1) := by decide +kernel
theorem d_R_isSize_13 : decode b_R_isSize 13 = .ok (.goto 4, 3) := by decide +kernel
theorem d_R_isSize_16 : decode b_R_isSize 16 = .ok (.iconst 0, 1) := by decide +kernel
theorem d_R_isSize_17 : decode b_R_isSize 17 = .ok (.ireturn, 1) := by decide +kernel
abbrev b_R_isSizeLong : ByteArray := prog_7_method_5_code
def y_R_isSizeLong : MethodName := ⟨"BoxDeskModel", "isSizeLong", "(J)Z"⟩
theorem d_R_isSizeLong_0 : decode b_R_isSizeLong 0 = .ok (.lload_n 0, 1) := by decide +kernel
theorem d_R_isSizeLong_1 : decode b_R_isSizeLong 1 = .ok (.ldc2_w 57, 3) := by decide +kernel
theorem d_R_isSizeLong_4 : decode b_R_isSizeLong 4 = .ok (.lcmp, 1) := by decide +kernel
theorem d_R_isSizeLong_5 : decode b_R_isSizeLong 5 = .ok (.ifCond .lt 15, 3) := by decide +kernel
theorem d_R_isSizeLong_8 : decode b_R_isSizeLong 8 = .ok (.lload_n 0, 1) := by decide +kernel
theorem d_R_isSizeLong_9 : decode b_R_isSizeLong 9 = .ok (.ldc2_w 59, 3) := by decide +kernel
theorem d_R_isSizeLong_12 : decode b_R_isSizeLong 12 = .ok (.lcmp, 1) := by decide +kernel
theorem d_R_isSizeLong_13 : decode b_R_isSizeLong 13 = .ok (.ifCond .gt 7, 3) := by decide +kernel
theorem d_R_isSizeLong_16 : decode b_R_isSizeLong 16 = .ok (.iconst 1, 1) := by decide +kernel
theorem d_R_isSizeLong_17 : decode b_R_isSizeLong 17 = .ok (.goto 4, 3) := by decide +kernel
theorem d_R_isSizeLong_20 : decode b_R_isSizeLong 20 = .ok (.iconst 0, 1) := by decide +kernel
theorem d_R_isSizeLong_21 : decode b_R_isSizeLong 21 = .ok (.ireturn, 1) := by decide +kernel
abbrev b_R_isSolid : ByteArray := prog_7_method_19_code
def y_R_isSolid : MethodName := ⟨"BoxDeskModel", "isSolid", "(I)Z"⟩
theorem d_R_isSolid_0 : decode b_R_isSolid 0 = .ok (.aload_n 0, 1) := by decide +kernel
theorem d_R_isSolid_1 : decode b_R_isSolid 1 = .ok (.getfield 7, 3) := by decide +kernel
theorem d_R_isSolid_4 : decode b_R_isSolid 4 = .ok (.iload_n 1, 1) := by decide +kernel
theorem d_R_isSolid_5 : decode b_R_isSolid 5 = .ok (.iaload, 1) := by decide +kernel
theorem d_R_isSolid_6 : decode b_R_isSolid 6 = .ok (.iconst 4, 1) := by decide +kernel
theorem d_R_isSolid_7 : decode b_R_isSolid 7 = .ok (.if_icmp .gt 7, 3) := by decide +kernel
theorem d_R_isSolid_10 : decode b_R_isSolid 10 = .ok (.iconst 1, 1) := by decide +kernel
theorem d_R_isSolid_11 : decode b_R_isSolid 11 = .ok (.goto 4, 3) := by decide +kernel
theorem d_R_isSolid_14 : decode b_R_isSolid 14 = .ok (.iconst 0, 1) := by decide +kernel
theorem d_R_isSolid_15 : decode b_R_isSolid 15 = .ok (.ireturn, 1) := by decide +kernel
abbrev b_R_isVertical : ByteArray := prog_7_method_12_code
def y_R_isVertical : MethodName := ⟨"BoxDeskModel", "isVertical", "()Z"⟩
theorem d_R_isVertical_0 : decode b_R_isVertical 0 = .ok (.aload_n 0, 1) := by decide +kernel
theorem d_R_isVertical_1 : decode b_R_isVertical 1 = .ok (.getfield 68, 3) := by decide +kernel
theorem d_R_isVertical_4 : decode b_R_isVertical 4 = .ok (.ifCond .le 21, 3) := by decide +kernel
theorem d_R_isVertical_7 : decode b_R_isVertical 7 = .ok (.aload_n 0, 1) := by decide +kernel
theorem d_R_isVertical_8 : decode b_R_isVertical 8 = .ok (.getfield 41, 3) := by decide +kernel
theorem d_R_isVertical_11 : decode b_R_isVertical 11 = .ok (.aload_n 0, 1) := by decide +kernel
theorem d_R_isVertical_12 : decode b_R_isVertical 12 = .ok (.getfield 68, 3) := by decide +kernel
theorem d_R_isVertical_15 : decode b_R_isVertical 15 = .ok (.iconst 1, 1) := by decide +kernel
theorem d_R_isVertical_16 : decode b_R_isVertical 16 = .ok (.isub, 1) := by decide +kernel
theorem d_R_isVertical_17 : decode b_R_isVertical 17 = .ok (.baload, 1) := by decide +kernel
theorem d_R_isVertical_18 : decode b_R_isVertical 18 = .ok (.ifCond .eq 7, 3) := by decide +kernel
theorem d_R_isVertical_21 : decode b_R_isVertical 21 = .ok (.iconst 1, 1) := by decide +kernel
theorem d_R_isVertical_22 : decode b_R_isVertical 22 = .ok (.goto 4, 3) := by decide +kernel
theorem d_R_isVertical_25 : decode b_R_isVertical 25 = .ok (.iconst 0, 1) := by decide +kernel
theorem d_R_isVertical_26 : decode b_R_isVertical 26 = .ok (.ireturn, 1) := by decide +kernel
abbrev b_R_item : ByteArray := prog_7_method_36_code
def y_R_item : MethodName := ⟨"BoxDeskModel", "item", "(III)I"⟩
theorem d_R_item_0 : decode b_R_item 0 = .ok (.aload_n 0, 1) := by decide +kernel
theorem d_R_item_1 : decode b_R_item 1 = .ok (.iload_n 1, 1) := by decide +kernel
theorem d_R_item_2 : decode b_R_item 2 = .ok (.invokevirtual 157, 3) := by decide +kernel
theorem d_R_item_5 : decode b_R_item 5 = .ok (.ifCond .eq 16, 3) := by decide +kernel
theorem d_R_item_8 : decode b_R_item 8 = .ok (.iload_n 2, 1) := by decide +kernel
theorem d_R_item_9 : decode b_R_item 9 = .ok (.ifCond .lt 12, 3) := by decide +kernel
theorem d_R_item_12 : decode b_R_item 12 = .ok (.iload_n 3, 1) := by decide +kernel
theorem d_R_item_13 : decode b_R_item 13 = .ok (.ifCond .lt 8, 3) := by decide +kernel
theorem d_R_item_16 : decode b_R_item 16 = .ok (.iload_n 3, 1) := by decide +kernel
theorem d_R_item_17 : decode b_R_item 17 = .ok (.iconst 5, 1) := by decide +kernel
theorem d_R_item_18 : decode b_R_item 18 = .ok (.if_icmp .le 9, 3) := by decide +kernel
theorem d_R_item_21 : decode b_R_item 21 = .ok (.aload_n 0, 1) := by decide +kernel
theorem d_R_item_22 : decode b_R_item 22 = .ok (.iconst 1, 1) := by decide +kernel
theorem d_R_item_23 : decode b_R_item 23 = .ok (.invokevirtual 130, 3) := by decide +kernel
theorem d_R_item_26 : decode b_R_item 26 = .ok (.ireturn, 1) := by decide +kernel
theorem d_R_item_27 : decode b_R_item 27 = .ok (.aload_n 0, 1) := by decide +kernel
theorem d_R_item_28 : decode b_R_item 28 = .ok (.iload_n 1, 1) := by decide +kernel
theorem d_R_item_29 : decode b_R_item 29 = .ok (.invokevirtual 122, 3) := by decide +kernel
theorem d_R_item_32 : decode b_R_item 32 = .ok (.istore 4, 2) := by decide +kernel
theorem d_R_item_34 : decode b_R_item 34 = .ok (.iload_n 2, 1) := by decide +kernel
theorem d_R_item_35 : decode b_R_item 35 = .ok (.aload_n 0, 1) := by decide +kernel
theorem d_R_item_36 : decode b_R_item 36 = .ok (.iload 4, 2) := by decide +kernel
theorem d_R_item_38 : decode b_R_item 38 = .ok (.invokevirtual 160, 3) := by decide +kernel
theorem d_R_item_41 : decode b_R_item 41 = .ok (.if_icmp .lt 9, 3) := by decide +kernel
theorem d_R_item_44 : decode b_R_item 44 = .ok (.aload_n 0, 1) := by decide +kernel
theorem d_R_item_45 : decode b_R_item 45 = .ok (.iconst 1, 1) := by decide +kernel
theorem d_R_item_46 : decode b_R_item 46 = .ok (.invokevirtual 130, 3) := by decide +kernel
theorem d_R_item_49 : decode b_R_item 49 = .ok (.ireturn, 1) := by decide +kernel
theorem d_R_item_50 : decode b_R_item 50 = .ok (.aload_n 0, 1) := by decide +kernel
theorem d_R_item_51 : decode b_R_item 51 = .ok (.iconst 0, 1) := by decide +kernel
theorem d_R_item_52 : decode b_R_item 52 = .ok (.putfield 51, 3) := by decide +kernel
theorem d_R_item_55 : decode b_R_item 55 = .ok (.iload 4, 2) := by decide +kernel
theorem d_R_item_57 : decode b_R_item 57 = .ok (.iconst 1, 1) := by decide +kernel
theorem d_R_item_58 : decode b_R_item 58 = .ok (.iadd, 1) := by decide +kernel
theorem d_R_item_59 : decode b_R_item 59 = .ok (.istore 5, 2) := by decide +kernel
theorem d_R_item_61 : decode b_R_item 61 = .ok (.iconst 0, 1) := by decide +kernel
theorem d_R_item_62 : decode b_R_item 62 = .ok (.istore 6, 2) := by decide +kernel
theorem d_R_item_64 : decode b_R_item 64 = .ok (.iload 6, 2) := by decide +kernel
theorem d_R_item_66 : decode b_R_item 66 = .ok (.iload_n 2, 1) := by decide +kernel
theorem d_R_item_67 : decode b_R_item 67 = .ok (.if_icmp .ge 21, 3) := by decide +kernel
theorem d_R_item_70 : decode b_R_item 70 = .ok (.iload 5, 2) := by decide +kernel
theorem d_R_item_72 : decode b_R_item 72 = .ok (.aload_n 0, 1) := by decide +kernel
theorem d_R_item_73 : decode b_R_item 73 = .ok (.getfield 35, 3) := by decide +kernel
theorem d_R_item_76 : decode b_R_item 76 = .ok (.iload 5, 2) := by decide +kernel
theorem d_R_item_78 : decode b_R_item 78 = .ok (.iaload, 1) := by decide +kernel
theorem d_R_item_79 : decode b_R_item 79 = .ok (.iadd, 1) := by decide +kernel
theorem d_R_item_80 : decode b_R_item 80 = .ok (.istore 5, 2) := by decide +kernel
theorem d_R_item_82 : decode b_R_item 82 = .ok (.iinc 6 1, 3) := by decide +kernel
theorem d_R_item_85 : decode b_R_item 85 = .ok (.goto (-21), 3) := by decide +kernel
theorem d_R_item_88 : decode b_R_item 88 = .ok (.iload_n 3, 1) := by decide +kernel
theorem d_R_item_89 : decode b_R_item 89 = .ok (.ifCond .ne 11, 3) := by decide +kernel
theorem d_R_item_92 : decode b_R_item 92 = .ok (.aload_n 0, 1) := by decide +kernel
theorem d_R_item_93 : decode b_R_item 93 = .ok (.getfield 7, 3) := by decide +kernel
theorem d_R_item_96 : decode b_R_item 96 = .ok (.iload 5, 2) := by decide +kernel
theorem d_R_item_98 : decode b_R_item 98 = .ok (.iaload, 1) := by decide +kernel
theorem d_R_item_99 : decode b_R_item 99 = .ok (.ireturn, 1) := by decide +kernel
theorem d_R_item_100 : decode b_R_item 100 = .ok (.aload_n 0, 1) := by decide +kernel
theorem d_R_item_101 : decode b_R_item 101 = .ok (.getfield 7, 3) := by decide +kernel
theorem d_R_item_104 : decode b_R_item 104 = .ok (.iload 5, 2) := by decide +kernel
theorem d_R_item_106 : decode b_R_item 106 = .ok (.iaload, 1) := by decide +kernel
theorem d_R_item_107 : decode b_R_item 107 = .ok (.iconst 5, 1) := by decide +kernel
theorem d_R_item_108 : decode b_R_item 108 = .ok (.if_icmp .ne 94, 3) := by decide +kernel
theorem d_R_item_111 : decode b_R_item 111 = .ok (.aload_n 0, 1) := by decide +kernel
theorem d_R_item_112 : decode b_R_item 112 = .ok (.getfield 13, 3) := by decide +kernel
theorem d_R_item_115 : decode b_R_item 115 = .ok (.iload 5, 2) := by decide +kernel
theorem d_R_item_117 : decode b_R_item 117 = .ok (.iaload, 1) := by decide +kernel
theorem d_R_item_118 : decode b_R_item 118 = .ok (.i2l, 1) := by decide +kernel
theorem d_R_item_119 : decode b_R_item 119 = .ok (.aload_n 0, 1) := by decide +kernel
theorem d_R_item_120 : decode b_R_item 120 = .ok (.getfield 31, 3) := by decide +kernel
theorem d_R_item_123 : decode b_R_item 123 = .ok (.iload 5, 2) := by decide +kernel
theorem d_R_item_125 : decode b_R_item 125 = .ok (.laload, 1) := by decide +kernel
theorem d_R_item_126 : decode b_R_item 126 = .ok (.ladd, 1) := by decide +kernel
theorem d_R_item_127 : decode b_R_item 127 = .ok (.lstore 6, 2) := by decide +kernel
theorem d_R_item_129 : decode b_R_item 129 = .ok (.iload_n 3, 1) := by decide +kernel
theorem d_R_item_130 : decode b_R_item 130 = .ok (.iconst 1, 1) := by decide +kernel
theorem d_R_item_131 : decode b_R_item 131 = .ok (.if_icmp .ne 39, 3) := by decide +kernel
theorem d_R_item_134 : decode b_R_item 134 = .ok (.lload 6, 2) := by decide +kernel
theorem d_R_item_136 : decode b_R_item 136 = .ok (.ldc2_w 163, 3) := by decide +kernel
theorem d_R_item_139 : decode b_R_item 139 = .ok (.lcmp, 1) := by decide +kernel
theorem d_R_item_140 : decode b_R_item 140 = .ok (.ifCond .le 9, 3) := by decide +kernel
theorem d_R_item_143 : decode b_R_item 143 = .ok (.ldc2_w 163, 3) := by decide +kernel
theorem d_R_item_146 : decode b_R_item 146 = .ok (.goto 20, 3) := by decide +kernel
theorem d_R_item_149 : decode b_R_item 149 = .ok (.lload 6, 2) := by decide +kernel
theorem d_R_item_151 : decode b_R_item 151 = .ok (.ldc2_w 165, 3) := by decide +kernel
theorem d_R_item_154 : decode b_R_item 154 = .ok (.lcmp, 1) := by decide +kernel
theorem d_R_item_155 : decode b_R_item 155 = .ok (.ifCond .ge 9, 3) := by decide +kernel
theorem d_R_item_158 : decode b_R_item 158 = .ok (.ldc2_w 165, 3) := by decide +kernel
theorem d_R_item_161 : decode b_R_item 161 = .ok (.goto 5, 3) := by decide +kernel
theorem d_R_item_164 : decode b_R_item 164 = .ok (.lload 6, 2) := by decide +kernel
theorem d_R_item_166 : decode b_R_item 166 = .ok (.l2i, 1) := by decide +kernel
theorem d_R_item_167 : decode b_R_item 167 = .ok (.goto 34, 3) := by decide +kernel
theorem d_R_item_170 : decode b_R_item 170 = .ok (.iload_n 3, 1) := by decide +kernel
theorem d_R_item_171 : decode b_R_item 171 = .ok (.iconst 4, 1) := by decide +kernel
theorem d_R_item_172 : decode b_R_item 172 = .ok (.if_icmp .ne 13, 3) := by decide +kernel
theorem d_R_item_175 : decode b_R_item 175 = .ok (.aload_n 0, 1) := by decide +kernel
theorem d_R_item_176 : decode b_R_item 176 = .ok (.getfield 22, 3) := by decide +kernel
theorem d_R_item_179 : decode b_R_item 179 = .ok (.iload 5, 2) := by decide +kernel
theorem d_R_item_181 : decode b_R_item 181 = .ok (.iaload, 1) := by decide +kernel
theorem d_R_item_182 : decode b_R_item 182 = .ok (.goto 19, 3) := by decide +kernel
theorem d_R_item_185 : decode b_R_item 185 = .ok (.iload_n 3, 1) := by decide +kernel
theorem d_R_item_186 : decode b_R_item 186 = .ok (.iconst 5, 1) := by decide +kernel
theorem d_R_item_187 : decode b_R_item 187 = .ok (.if_icmp .ne 13, 3) := by decide +kernel
theorem d_R_item_190 : decode b_R_item 190 = .ok (.aload_n 0, 1) := by decide +kernel
theorem d_R_item_191 : decode b_R_item 191 = .ok (.getfield 28, 3) := by decide +kernel
theorem d_R_item_194 : decode b_R_item 194 = .ok (.iload 5, 2) := by decide +kernel
theorem d_R_item_196 : decode b_R_item 196 = .ok (.iaload, 1) := by decide +kernel
theorem d_R_item_197 : decode b_R_item 197 = .ok (.goto 4, 3) := by decide +kernel
theorem d_R_item_200 : decode b_R_item 200 = .ok (.iconst 0, 1) := by decide +kernel
theorem d_R_item_201 : decode b_R_item 201 = .ok (.ireturn, 1) := by decide +kernel
theorem d_R_item_202 : decode b_R_item 202 = .ok (.iload_n 3, 1) := by decide +kernel
theorem d_R_item_203 : decode b_R_item 203 = .ok (.iconst 1, 1) := by decide +kernel
theorem d_R_item_204 : decode b_R_item 204 = .ok (.if_icmp .ne 13, 3) := by decide +kernel
theorem d_R_item_207 : decode b_R_item 207 = .ok (.aload_n 0, 1) := by decide +kernel
theorem d_R_item_208 : decode b_R_item 208 = .ok (.getfield 13, 3) := by decide +kernel
theorem d_R_item_211 : decode b_R_item 211 = .ok (.iload 5, 2) := by decide +kernel
theorem d_R_item_213 : decode b_R_item 213 = .ok (.iaload, 1) := by decide +kernel
theorem d_R_item_214 : decode b_R_item 214 = .ok (.goto 58, 3) := by decide +kernel
theorem d_R_item_217 : decode b_R_item 217 = .ok (.iload_n 3, 1) := by decide +kernel
theorem d_R_item_218 : decode b_R_item 218 = .ok (.iconst 2, 1) := by decide +kernel
theorem d_R_item_219 : decode b_R_item 219 = .ok (.if_icmp .ne 13, 3) := by decide +kernel
theorem d_R_item_222 : decode b_R_item 222 = .ok (.aload_n 0, 1) := by decide +kernel
theorem d_R_item_223 : decode b_R_item 223 = .ok (.getfield 16, 3) := by decide +kernel
theorem d_R_item_226 : decode b_R_item 226 = .ok (.iload 5, 2) := by decide +kernel
theorem d_R_item_228 : decode b_R_item 228 = .ok (.iaload, 1) := by decide +kernel
theorem d_R_item_229 : decode b_R_item 229 = .ok (.goto 43, 3) := by decide +kernel
theorem d_R_item_232 : decode b_R_item 232 = .ok (.iload_n 3, 1) := by decide +kernel
theorem d_R_item_233 : decode b_R_item 233 = .ok (.iconst 3, 1) := by decide +kernel
theorem d_R_item_234 : decode b_R_item 234 = .ok (.if_icmp .ne 13, 3) := by decide +kernel
theorem d_R_item_237 : decode b_R_item 237 = .ok (.aload_n 0, 1) := by decide +kernel
theorem d_R_item_238 : decode b_R_item 238 = .ok (.getfield 19, 3) := by decide +kernel
theorem d_R_item_241 : decode b_R_item 241 = .ok (.iload 5, 2) := by decide +kernel
theorem d_R_item_243 : decode b_R_item 243 = .ok (.iaload, 1) := by decide +kernel
theorem d_R_item_244 : decode b_R_item 244 = .ok (.goto 28, 3) := by decide +kernel
theorem d_R_item_247 : decode b_R_item 247 = .ok (.iload_n 3, 1) := by decide +kernel
theorem d_R_item_248 : decode b_R_item 248 = .ok (.iconst 4, 1) := by decide +kernel
theorem d_R_item_249 : decode b_R_item 249 = .ok (.if_icmp .ne 22, 3) := by decide +kernel
theorem d_R_item_252 : decode b_R_item 252 = .ok (.aload_n 0, 1) := by decide +kernel
theorem d_R_item_253 : decode b_R_item 253 = .ok (.iload 5, 2) := by decide +kernel
theorem d_R_item_255 : decode b_R_item 255 = .ok (.invokevirtual 87, 3) := by decide +kernel
theorem d_R_item_258 : decode b_R_item 258 = .ok (.ifCond .eq 13, 3) := by decide +kernel
theorem d_R_item_261 : decode b_R_item 261 = .ok (.aload_n 0, 1) := by decide +kernel
theorem d_R_item_262 : decode b_R_item 262 = .ok (.getfield 22, 3) := by decide +kernel
theorem d_R_item_265 : decode b_R_item 265 = .ok (.iload 5, 2) := by decide +kernel
theorem d_R_item_267 : decode b_R_item 267 = .ok (.iaload, 1) := by decide +kernel
theorem d_R_item_268 : decode b_R_item 268 = .ok (.goto 4, 3) := by decide +kernel
theorem d_R_item_271 : decode b_R_item 271 = .ok (.iconst 0, 1) := by decide +kernel
theorem d_R_item_272 : decode b_R_item 272 = .ok (.ireturn, 1) := by decide +kernel
abbrev b_R_items : ByteArray := prog_7_method_34_code
def y_R_items : MethodName := ⟨"BoxDeskModel", "items", "(I)I"⟩
theorem d_R_items_0 : decode b_R_items 0 = .ok (.iconst 0, 1) := by decide +kernel
theorem d_R_items_1 : decode b_R_items 1 = .ok (.istore_n 2, 1) := by decide +kernel
theorem d_R_items_2 : decode b_R_items 2 = .ok (.iload_n 1, 1) := by decide +kernel
theorem d_R_items_3 : decode b_R_items 3 = .ok (.iconst 1, 1) := by decide +kernel
theorem d_R_items_4 : decode b_R_items 4 = .ok (.iadd, 1) := by decide +kernel
theorem d_R_items_5 : decode b_R_items 5 = .ok (.istore_n 3, 1) := by decide +kernel
theorem d_R_items_6 : decode b_R_items 6 = .ok (.iload_n 3, 1) := by decide +kernel
theorem d_R_items_7 : decode b_R_items 7 = .ok (.iload_n 1, 1) := by decide +kernel
theorem d_R_items_8 : decode b_R_items 8 = .ok (.aload_n 0, 1) := by decide +kernel
theorem d_R_items_9 : decode b_R_items 9 = .ok (.getfield 35, 3) := by decide +kernel
theorem d_R_items_12 : decode b_R_items 12 = .ok (.iload_n 1, 1) := by decide +kernel
theorem d_R_items_13 : decode b_R_items 13 = .ok (.iaload, 1) := by decide +kernel
theorem d_R_items_14 : decode b_R_items 14 = .ok (.iadd, 1) := by decide +kernel
theorem d_R_items_15 : decode b_R_items 15 = .ok (.if_icmp .ge 18, 3) := by decide +kernel
theorem d_R_items_18 : decode b_R_items 18 = .ok (.iinc 2 1, 3) := by decide +kernel
theorem d_R_items_21 : decode b_R_items 21 = .ok (.iload_n 3, 1) := by decide +kernel
theorem d_R_items_22 : decode b_R_items 22 = .ok (.aload_n 0, 1) := by decide +kernel
theorem d_R_items_23 : decode b_R_items 23 = .ok (.getfield 35, 3) := by decide +kernel
theorem d_R_items_26 : decode b_R_items 26 = .ok (.iload_n 3, 1) := by decide +kernel
theorem d_R_items_27 : decode b_R_items 27 = .ok (.iaload, 1) := by decide +kernel
theorem d_R_items_28 : decode b_R_items 28 = .ok (.iadd, 1) := by decide +kernel
theorem d_R_items_29 : decode b_R_items 29 = .ok (.istore_n 3, 1) := by decide +kernel
theorem d_R_items_30 : decode b_R_items 30 = .ok (.goto (-24), 3) := by decide +kernel
theorem d_R_items_33 : decode b_R_items 33 = .ok (.iload_n 2, 1) := by decide +kernel
theorem d_R_items_34 : decode b_R_items 34 = .ok (.ireturn, 1) := by decide +kernel
abbrev b_R_kern : ByteArray := prog_7_method_16_code
def y_R_kern : MethodName := ⟨"BoxDeskModel", "kern", "(I)Z"⟩
theorem d_R_kern_0 : decode b_R_kern 0 = .ok (.aload_n 0, 1) := by decide +kernel
theorem d_R_kern_1 : decode b_R_kern 1 = .ok (.iload_n 1, 1) := by decide +kernel
theorem d_R_kern_2 : decode b_R_kern 2 = .ok (.invokestatic 79, 3) := by decide +kernel
theorem d_R_kern_5 : decode b_R_kern 5 = .ok (.bipush 6, 2) := by decide +kernel
theorem d_R_kern_7 : decode b_R_kern 7 = .ok (.iload_n 1, 1) := by decide +kernel
theorem d_R_kern_8 : decode b_R_kern 8 = .ok (.iconst 0, 1) := by decide +kernel
theorem d_R_kern_9 : decode b_R_kern 9 = .ok (.iconst 0, 1) := by decide +kernel
theorem d_R_kern_10 : decode b_R_kern 10 = .ok (.iconst 0, 1) := by decide +kernel
theorem d_R_kern_11 : decode b_R_kern 11 = .ok (.iconst 0, 1) := by decide +kernel
theorem d_R_kern_12 : decode b_R_kern 12 = .ok (.iconst 0, 1) := by decide +kernel
theorem d_R_kern_13 : decode b_R_kern 13 = .ok (.invokevirtual 82, 3) := by decide +kernel
theorem d_R_kern_16 : decode b_R_kern 16 = .ok (.ireturn, 1) := by decide +kernel
abbrev b_R_make : ByteArray := prog_7_method_28_code
def y_R_make : MethodName := ⟨"BoxDeskModel", "make", "(II)V"⟩
theorem d_R_make_0 : decode b_R_make 0 = .ok (.aload_n 0, 1) := by decide +kernel
theorem d_R_make_1 : decode b_R_make 1 = .ok (.iload_n 1, 1) := by decide +kernel
theorem d_R_make_2 : decode b_R_make 2 = .ok (.invokevirtual 122, 3) := by decide +kernel
theorem d_R_make_5 : decode b_R_make 5 = .ok (.istore_n 3, 1) := by decide +kernel
theorem d_R_make_6 : decode b_R_make 6 = .ok (.sipush 4100, 3) := by decide +kernel
theorem d_R_make_9 : decode b_R_make 9 = .ok (.aload_n 0, 1) := by decide +kernel
theorem d_R_make_10 : decode b_R_make 10 = .ok (.invokevirtual 64, 3) := by decide +kernel
theorem d_R_make_13 : decode b_R_make 13 = .ok (.iadd, 1) := by decide +kernel
theorem d_R_make_14 : decode b_R_make 14 = .ok (.iconst 1, 1) := by decide +kernel
theorem d_R_make_15 : decode b_R_make 15 = .ok (.isub, 1) := by decide +kernel
theorem d_R_make_16 : decode b_R_make 16 = .ok (.istore 4, 2) := by decide +kernel
theorem d_R_make_18 : decode b_R_make 18 = .ok (.iload 4, 2) := by decide +kernel
theorem d_R_make_20 : decode b_R_make 20 = .ok (.iload_n 3, 1) := by decide +kernel
theorem d_R_make_21 : decode b_R_make 21 = .ok (.if_icmp .lt 19, 3) := by decide +kernel
theorem d_R_make_24 : decode b_R_make 24 = .ok (.aload_n 0, 1) := by decide +kernel
theorem d_R_make_25 : decode b_R_make 25 = .ok (.iload 4, 2) := by decide +kernel
theorem d_R_make_27 : decode b_R_make 27 = .ok (.iload 4, 2) := by decide +kernel
theorem d_R_make_29 : decode b_R_make 29 = .ok (.iload_n 2, 1) := by decide +kernel
theorem d_R_make_30 : decode b_R_make 30 = .ok (.iadd, 1) := by decide +kernel
theorem d_R_make_31 : decode b_R_make 31 = .ok (.invokevirtual 126, 3) := by decide +kernel
theorem d_R_make_34 : decode b_R_make 34 = .ok (.iinc 4 (-1), 3) := by decide +kernel
theorem d_R_make_37 : decode b_R_make 37 = .ok (.goto (-19), 3) := by decide +kernel
theorem d_R_make_40 : decode b_R_make 40 = .ok (.aload_n 0, 1) := by decide +kernel
theorem d_R_make_41 : decode b_R_make 41 = .ok (.getfield 45, 3) := by decide +kernel
theorem d_R_make_44 : decode b_R_make 44 = .ok (.iload_n 1, 1) := by decide +kernel
theorem d_R_make_45 : decode b_R_make 45 = .ok (.iload_n 2, 1) := by decide +kernel
theorem d_R_make_46 : decode b_R_make 46 = .ok (.iastore, 1) := by decide +kernel
theorem d_R_make_47 : decode b_R_make 47 = .ok (.return_, 1) := by decide +kernel
abbrev b_R_measure : ByteArray := prog_7_method_21_code
def y_R_measure : MethodName := ⟨"BoxDeskModel", "measure", "(I)V"⟩
theorem d_R_measure_0 : decode b_R_measure 0 = .ok (.aload_n 0, 1) := by decide +kernel
theorem d_R_measure_1 : decode b_R_measure 1 = .ok (.lconst 0, 1) := by decide +kernel
theorem d_R_measure_2 : decode b_R_measure 2 = .ok (.putfield 90, 3) := by decide +kernel
theorem d_R_measure_5 : decode b_R_measure 5 = .ok (.aload_n 0, 1) := by decide +kernel
theorem d_R_measure_6 : decode b_R_measure 6 = .ok (.lconst 0, 1) := by decide +kernel
theorem d_R_measure_7 : decode b_R_measure 7 = .ok (.putfield 94, 3) := by decide +kernel
theorem d_R_measure_10 : decode b_R_measure 10 = .ok (.aload_n 0, 1) := by decide +kernel
theorem d_R_measure_11 : decode b_R_measure 11 = .ok (.lconst 0, 1) := by decide +kernel
theorem d_R_measure_12 : decode b_R_measure 12 = .ok (.putfield 97, 3) := by decide +kernel
theorem d_R_measure_15 : decode b_R_measure 15 = .ok (.aload_n 0, 1) := by decide +kernel
theorem d_R_measure_16 : decode b_R_measure 16 = .ok (.lconst 0, 1) := by decide +kernel
theorem d_R_measure_17 : decode b_R_measure 17 = .ok (.putfield 100, 3) := by decide +kernel
theorem d_R_measure_20 : decode b_R_measure 20 = .ok (.aload_n 0, 1) := by decide +kernel
theorem d_R_measure_21 : decode b_R_measure 21 = .ok (.lconst 0, 1) := by decide +kernel
theorem d_R_measure_22 : decode b_R_measure 22 = .ok (.putfield 103, 3) := by decide +kernel
theorem d_R_measure_25 : decode b_R_measure 25 = .ok (.iconst 0, 1) := by decide +kernel
theorem d_R_measure_26 : decode b_R_measure 26 = .ok (.istore_n 2, 1) := by decide +kernel
theorem d_R_measure_27 : decode b_R_measure 27 = .ok (.iload_n 2, 1) := by decide +kernel
theorem d_R_measure_28 : decode b_R_measure 28 = .ok (.iconst 4, 1) := by decide +kernel
theorem d_R_measure_29 : decode b_R_measure 29 = .ok (.if_icmp .ge 16, 3) := by decide +kernel
theorem d_R_measure_32 : decode b_R_measure 32 = .ok (.aload_n 0, 1) := by decide +kernel
theorem d_R_measure_33 : decode b_R_measure 33 = .ok (.getfield 48, 3) := by decide +kernel
theorem d_R_measure_36 : decode b_R_measure 36 = .ok (.iload_n 2, 1) := by decide +kernel
theorem d_R_measure_37 : decode b_R_measure 37 = .ok (.lconst 0, 1) := by decide +kernel
theorem d_R_measure_38 : decode b_R_measure 38 = .ok (.lastore, 1) := by decide +kernel
theorem d_R_measure_39 : decode b_R_measure 39 = .ok (.iinc 2 1, 3) := by decide +kernel
theorem d_R_measure_42 : decode b_R_measure 42 = .ok (.goto (-15), 3) := by decide +kernel
theorem d_R_measure_45 : decode b_R_measure 45 = .ok (.iload_n 1, 1) := by decide +kernel
theorem d_R_measure_46 : decode b_R_measure 46 = .ok (.istore_n 2, 1) := by decide +kernel
theorem d_R_measure_47 : decode b_R_measure 47 = .ok (.iload_n 2, 1) := by decide +kernel
theorem d_R_measure_48 : decode b_R_measure 48 = .ok (.aload_n 0, 1) := by decide +kernel
theorem d_R_measure_49 : decode b_R_measure 49 = .ok (.getfield 61, 3) := by decide +kernel
theorem d_R_measure_52 : decode b_R_measure 52 = .ok (.if_icmp .ge 62, 3) := by decide +kernel
theorem d_R_measure_55 : decode b_R_measure 55 = .ok (.aload_n 0, 1) := by decide +kernel
theorem d_R_measure_56 : decode b_R_measure 56 = .ok (.getfield 7, 3) := by decide +kernel
theorem d_R_measure_59 : decode b_R_measure 59 = .ok (.iload_n 2, 1) := by decide +kernel
theorem d_R_measure_60 : decode b_R_measure 60 = .ok (.iaload, 1) := by decide +kernel
theorem d_R_measure_61 : decode b_R_measure 61 = .ok (.iconst 5, 1) := by decide +kernel
theorem d_R_measure_62 : decode b_R_measure 62 = .ok (.if_icmp .ne 40, 3) := by decide +kernel
theorem d_R_measure_65 : decode b_R_measure 65 = .ok (.aload_n 0, 1) := by decide +kernel
theorem d_R_measure_66 : decode b_R_measure 66 = .ok (.getfield 48, 3) := by decide +kernel
theorem d_R_measure_69 : decode b_R_measure 69 = .ok (.aload_n 0, 1) := by decide +kernel
theorem d_R_measure_70 : decode b_R_measure 70 = .ok (.getfield 25, 3) := by decide +kernel
theorem d_R_measure_73 : decode b_R_measure 73 = .ok (.iload_n 2, 1) := by decide +kernel
theorem d_R_measure_74 : decode b_R_measure 74 = .ok (.iaload, 1) := by decide +kernel
theorem d_R_measure_75 : decode b_R_measure 75 = .ok (.dup2, 1) := by decide +kernel
theorem d_R_measure_76 : decode b_R_measure 76 = .ok (.laload, 1) := by decide +kernel
theorem d_R_measure_77 : decode b_R_measure 77 = .ok (.aload_n 0, 1) := by decide +kernel
theorem d_R_measure_78 : decode b_R_measure 78 = .ok (.getfield 22, 3) := by decide +kernel
theorem d_R_measure_81 : decode b_R_measure 81 = .ok (.iload_n 2, 1) := by decide +kernel
theorem d_R_measure_82 : decode b_R_measure 82 = .ok (.iaload, 1) := by decide +kernel
theorem d_R_measure_83 : decode b_R_measure 83 = .ok (.i2l, 1) := by decide +kernel
theorem d_R_measure_84 : decode b_R_measure 84 = .ok (.ladd, 1) := by decide +kernel
theorem d_R_measure_85 : decode b_R_measure 85 = .ok (.lastore, 1) := by decide +kernel
theorem d_R_measure_86 : decode b_R_measure 86 = .ok (.aload_n 0, 1) := by decide +kernel
theorem d_R_measure_87 : decode b_R_measure 87 = .ok (.dup, 1) := by decide +kernel
theorem d_R_measure_88 : decode b_R_measure 88 = .ok (.getfield 103, 3) := by decide +kernel
theorem d_R_measure_91 : decode b_R_measure 91 = .ok (.aload_n 0, 1) := by decide +kernel
theorem d_R_measure_92 : decode b_R_measure 92 = .ok (.getfield 28, 3) := by decide +kernel
theorem d_R_measure_95 : decode b_R_measure 95 = .ok (.iload_n 2, 1) := by decide +kernel
theorem d_R_measure_96 : decode b_R_measure 96 = .ok (.iaload, 1) := by decide +kernel
theorem d_R_measure_97 : decode b_R_measure 97 = .ok (.i2l, 1) := by decide +kernel
theorem d_R_measure_98 : decode b_R_measure 98 = .ok (.ladd, 1) := by decide +kernel
theorem d_R_measure_99 : decode b_R_measure 99 = .ok (.putfield 103, 3) := by decide +kernel
theorem d_R_measure_102 : decode b_R_measure 102 = .ok (.iload_n 2, 1) := by decide +kernel
theorem d_R_measure_103 : decode b_R_measure 103 = .ok (.aload_n 0, 1) := by decide +kernel
theorem d_R_measure_104 : decode b_R_measure 104 = .ok (.getfield 35, 3) := by decide +kernel
theorem d_R_measure_107 : decode b_R_measure 107 = .ok (.iload_n 2, 1) := by decide +kernel
theorem d_R_measure_108 : decode b_R_measure 108 = .ok (.iaload, 1) := by decide +kernel
theorem d_R_measure_109 : decode b_R_measure 109 = .ok (.iadd, 1) := by decide +kernel
theorem d_R_measure_110 : decode b_R_measure 110 = .ok (.istore_n 2, 1) := by decide +kernel
theorem d_R_measure_111 : decode b_R_measure 111 = .ok (.goto (-64), 3) := by decide +kernel
theorem d_R_measure_114 : decode b_R_measure 114 = .ok (.return_, 1) := by decide +kernel
abbrev b_R_measureHigh : ByteArray := prog_7_method_23_code
def y_R_measureHigh : MethodName := ⟨"BoxDeskModel", "measureHigh", "(II)V"⟩
theorem d_R_measureHigh_0 : decode b_R_measureHigh 0 = .ok (.aload_n 0, 1) := by decide +kernel
theorem d_R_measureHigh_1 : decode b_R_measureHigh 1 = .ok (.iload_n 1, 1) := by decide +kernel
theorem d_R_measureHigh_2 : decode b_R_measureHigh 2 = .ok (.invokevirtual 106, 3) := by decide +kernel
theorem d_R_measureHigh_5 : decode b_R_measureHigh 5 = .ok (.iconst (-1), 1) := by decide +kernel
theorem d_R_measureHigh_6 : decode b_R_measureHigh 6 = .ok (.istore_n 3, 1) := by decide +kernel
theorem d_R_measureHigh_7 : decode b_R_measureHigh 7 = .ok (.iload_n 1, 1) := by decide +kernel
theorem d_R_measureHigh_8 : decode b_R_measureHigh 8 = .ok (.istore 4, 2) := by decide +kernel
theorem d_R_measureHigh_10 : decode b_R_measureHigh 10 = .ok (.iload 4, 2) := by decide +kernel
theorem d_R_measureHigh_12 : decode b_R_measureHigh 12 = .ok (.aload_n 0, 1) := by decide +kernel
theorem d_R_measureHigh_13 : decode b_R_measureHigh 13 = .ok (.getfield 61, 3) := by decide +kernel
theorem d_R_measureHigh_16 : decode b_R_measureHigh 16 = .ok (.if_icmp .ge 161, 3) := by decide +kernel
theorem d_R_measureHigh_19 : decode b_R_measureHigh 19 = .ok (.aload_n 0, 1) := by decide +kernel
theorem d_R_measureHigh_20 : decode b_R_measureHigh 20 = .ok (.iload 4, 2) := by decide +kernel
theorem d_R_measureHigh_22 : decode b_R_measureHigh 22 = .ok (.invokevirtual 87, 3) := by decide +kernel
theorem d_R_measureHigh_25 : decode b_R_measureHigh 25 = .ok (.ifCond .eq 14, 3) := by decide +kernel
theorem d_R_measureHigh_28 : decode b_R_measureHigh 28 = .ok (.aload_n 0, 1) := by decide +kernel
theorem d_R_measureHigh_29 : decode b_R_measureHigh 29 = .ok (.getfield 22, 3) := by decide +kernel
theorem d_R_measureHigh_32 : decode b_R_measureHigh 32 = .ok (.iload 4, 2) := by decide +kernel
theorem d_R_measureHigh_34 : decode b_R_measureHigh 34 = .ok (.iaload, 1) := by decide +kernel
theorem d_R_measureHigh_35 : decode b_R_measureHigh 35 = .ok (.i2l, 1) := by decide +kernel
theorem d_R_measureHigh_36 : decode b_R_measureHigh 36 = .ok (.goto 4, 3) := by decide +kernel
theorem d_R_measureHigh_39 : decode b_R_measureHigh 39 = .ok (.lconst 0, 1) := by decide +kernel
theorem d_R_measureHigh_40 : decode b_R_measureHigh 40 = .ok (.lstore 5, 2) := by decide +kernel
theorem d_R_measureHigh_42 : decode b_R_measureHigh 42 = .ok (.aload_n 0, 1) := by decide +kernel
theorem d_R_measureHigh_43 : decode b_R_measureHigh 43 = .ok (.dup, 1) := by decide +kernel
theorem d_R_measureHigh_44 : decode b_R_measureHigh 44 = .ok (.getfield 90, 3) := by decide +kernel
theorem d_R_measureHigh_47 : decode b_R_measureHigh 47 = .ok (.aload_n 0, 1) := by decide +kernel
theorem d_R_measureHigh_48 : decode b_R_measureHigh 48 = .ok (.iload 4, 2) := by decide +kernel
theorem d_R_measureHigh_50 : decode b_R_measureHigh 50 = .ok (.invokevirtual 110, 3) := by decide +kernel
theorem d_R_measureHigh_53 : decode b_R_measureHigh 53 = .ok (.ifCond .eq 23, 3) := by decide +kernel
theorem d_R_measureHigh_56 : decode b_R_measureHigh 56 = .ok (.aload_n 0, 1) := by decide +kernel
theorem d_R_measureHigh_57 : decode b_R_measureHigh 57 = .ok (.getfield 16, 3) := by decide +kernel
theorem d_R_measureHigh_60 : decode b_R_measureHigh 60 = .ok (.iload 4, 2) := by decide +kernel
theorem d_R_measureHigh_62 : decode b_R_measureHigh 62 = .ok (.iaload, 1) := by decide +kernel
theorem d_R_measureHigh_63 : decode b_R_measureHigh 63 = .ok (.i2l, 1) := by decide +kernel
theorem d_R_measureHigh_64 : decode b_R_measureHigh 64 = .ok (.aload_n 0, 1) := by decide +kernel
theorem d_R_measureHigh_65 : decode b_R_measureHigh 65 = .ok (.getfield 19, 3) := by decide +kernel
theorem d_R_measureHigh_68 : decode b_R_measureHigh 68 = .ok (.iload 4, 2) := by decide +kernel
theorem d_R_measureHigh_70 : decode b_R_measureHigh 70 = .ok (.iaload, 1) := by decide +kernel
theorem d_R_measureHigh_71 : decode b_R_measureHigh 71 = .ok (.i2l, 1) := by decide +kernel
theorem d_R_measureHigh_72 : decode b_R_measureHigh 72 = .ok (.ladd, 1) := by decide +kernel
theorem d_R_measureHigh_73 : decode b_R_measureHigh 73 = .ok (.goto 27, 3) := by decide +kernel
theorem d_R_measureHigh_76 : decode b_R_measureHigh 76 = .ok (.aload_n 0, 1) := by decide +kernel
theorem d_R_measureHigh_77 : decode b_R_measureHigh 77 = .ok (.getfield 7, 3) := by decide +kernel
theorem d_R_measureHigh_80 : decode b_R_measureHigh 80 = .ok (.iload 4, 2) := by decide +kernel
theorem d_R_measureHigh_82 : decode b_R_measureHigh 82 = .ok (.iaload, 1) := by decide +kernel
theorem d_R_measureHigh_83 : decode b_R_measureHigh 83 = .ok (.bipush 7, 2) := by decide +kernel
theorem d_R_measureHigh_85 : decode b_R_measureHigh 85 = .ok (.if_icmp .ne 7, 3) := by decide +kernel
theorem d_R_measureHigh_88 : decode b_R_measureHigh 88 = .ok (.lconst 0, 1) := by decide +kernel
theorem d_R_measureHigh_89 : decode b_R_measureHigh 89 = .ok (.goto 11, 3) := by decide +kernel
theorem d_R_measureHigh_92 : decode b_R_measureHigh 92 = .ok (.aload_n 0, 1) := by decide +kernel
theorem d_R_measureHigh_93 : decode b_R_measureHigh 93 = .ok (.getfield 13, 3) := by decide +kernel
theorem d_R_measureHigh_96 : decode b_R_measureHigh 96 = .ok (.iload 4, 2) := by decide +kernel
theorem d_R_measureHigh_98 : decode b_R_measureHigh 98 = .ok (.iaload, 1) := by decide +kernel
theorem d_R_measureHigh_99 : decode b_R_measureHigh 99 = .ok (.i2l, 1) := by decide +kernel
theorem d_R_measureHigh_100 : decode b_R_measureHigh 100 = .ok (.ladd, 1) := by decide +kernel
theorem d_R_measureHigh_101 : decode b_R_measureHigh 101 = .ok (.putfield 90, 3) := by decide +kernel
theorem d_R_measureHigh_104 : decode b_R_measureHigh 104 = .ok (.aload_n 0, 1) := by decide +kernel
theorem d_R_measureHigh_105 : decode b_R_measureHigh 105 = .ok (.iload 4, 2) := by decide +kernel
theorem d_R_measureHigh_107 : decode b_R_measureHigh 107 = .ok (.invokevirtual 110, 3) := by decide +kernel
theorem d_R_measureHigh_110 : decode b_R_measureHigh 110 = .ok (.ifCond .eq 49, 3) := by decide +kernel
theorem d_R_measureHigh_113 : decode b_R_measureHigh 113 = .ok (.aload_n 0, 1) := by decide +kernel
theorem d_R_measureHigh_114 : decode b_R_measureHigh 114 = .ok (.getfield 13, 3) := by decide +kernel
theorem d_R_measureHigh_117 : decode b_R_measureHigh 117 = .ok (.iload 4, 2) := by decide +kernel
theorem d_R_measureHigh_119 : decode b_R_measureHigh 119 = .ok (.iaload, 1) := by decide +kernel
theorem d_R_measureHigh_120 : decode b_R_measureHigh 120 = .ok (.ldc 86, 2) := by decide +kernel
theorem d_R_measureHigh_122 : decode b_R_measureHigh 122 = .ok (.if_icmp .eq 37, 3) := by decide +kernel
theorem d_R_measureHigh_125 : decode b_R_measureHigh 125 = .ok (.aload_n 0, 1) := by decide +kernel
theorem d_R_measureHigh_126 : decode b_R_measureHigh 126 = .ok (.getfield 13, 3) := by decide +kernel
theorem d_R_measureHigh_129 : decode b_R_measureHigh 129 = .ok (.iload 4, 2) := by decide +kernel
theorem d_R_measureHigh_131 : decode b_R_measureHigh 131 = .ok (.iaload, 1) := by decide +kernel
theorem d_R_measureHigh_132 : decode b_R_measureHigh 132 = .ok (.i2l, 1) := by decide +kernel
theorem d_R_measureHigh_133 : decode b_R_measureHigh 133 = .ok (.lload 5, 2) := by decide +kernel
theorem d_R_measureHigh_135 : decode b_R_measureHigh 135 = .ok (.ladd, 1) := by decide +kernel
theorem d_R_measureHigh_136 : decode b_R_measureHigh 136 = .ok (.aload_n 0, 1) := by decide +kernel
theorem d_R_measureHigh_137 : decode b_R_measureHigh 137 = .ok (.getfield 100, 3) := by decide +kernel
theorem d_R_measureHigh_140 : decode b_R_measureHigh 140 = .ok (.lcmp, 1) := by decide +kernel
theorem d_R_measureHigh_141 : decode b_R_measureHigh 141 = .ok (.ifCond .le 18, 3) := by decide +kernel
theorem d_R_measureHigh_144 : decode b_R_measureHigh 144 = .ok (.aload_n 0, 1) := by decide +kernel
theorem d_R_measureHigh_145 : decode b_R_measureHigh 145 = .ok (.aload_n 0, 1) := by decide +kernel
theorem d_R_measureHigh_146 : decode b_R_measureHigh 146 = .ok (.getfield 13, 3) := by decide +kernel
theorem d_R_measureHigh_149 : decode b_R_measureHigh 149 = .ok (.iload 4, 2) := by decide +kernel
theorem d_R_measureHigh_151 : decode b_R_measureHigh 151 = .ok (.iaload, 1) := by decide +kernel
theorem d_R_measureHigh_152 : decode b_R_measureHigh 152 = .ok (.i2l, 1) := by decide +kernel
theorem d_R_measureHigh_153 : decode b_R_measureHigh 153 = .ok (.lload 5, 2) := by decide +kernel
theorem d_R_measureHigh_155 : decode b_R_measureHigh 155 = .ok (.ladd, 1) := by decide +kernel
theorem d_R_measureHigh_156 : decode b_R_measureHigh 156 = .ok (.putfield 100, 3) := by decide +kernel
theorem d_R_measureHigh_159 : decode b_R_measureHigh 159 = .ok (.iload 4, 2) := by decide +kernel
theorem d_R_measureHigh_161 : decode b_R_measureHigh 161 = .ok (.istore_n 3, 1) := by decide +kernel
theorem d_R_measureHigh_162 : decode b_R_measureHigh 162 = .ok (.iload 4, 2) := by decide +kernel
theorem d_R_measureHigh_164 : decode b_R_measureHigh 164 = .ok (.aload_n 0, 1) := by decide +kernel
theorem d_R_measureHigh_165 : decode b_R_measureHigh 165 = .ok (.getfield 35, 3) := by decide +kernel
theorem d_R_measureHigh_168 : decode b_R_measureHigh 168 = .ok (.iload 4, 2) := by decide +kernel
theorem d_R_measureHigh_170 : decode b_R_measureHigh 170 = .ok (.iaload, 1) := by decide +kernel
theorem d_R_measureHigh_171 : decode b_R_measureHigh 171 = .ok (.iadd, 1) := by decide +kernel
theorem d_R_measureHigh_172 : decode b_R_measureHigh 172 = .ok (.istore 4, 2) := by decide +kernel
theorem d_R_measureHigh_174 : decode b_R_measureHigh 174 = .ok (.goto (-164), 3) := by decide +kernel
theorem d_R_measureHigh_177 : decode b_R_measureHigh 177 = .ok (.aload_n 0, 1) := by decide +kernel
theorem d_R_measureHigh_178 : decode b_R_measureHigh 178 = .ok (.iload_n 3, 1) := by decide +kernel
theorem d_R_measureHigh_179 : decode b_R_measureHigh 179 = .ok (.ifCond .lt 21, 3) := by decide +kernel
theorem d_R_measureHigh_182 : decode b_R_measureHigh 182 = .ok (.aload_n 0, 1) := by decide +kernel
theorem d_R_measureHigh_183 : decode b_R_measureHigh 183 = .ok (.iload_n 3, 1) := by decide +kernel
theorem d_R_measureHigh_184 : decode b_R_measureHigh 184 = .ok (.invokevirtual 110, 3) := by decide +kernel
theorem d_R_measureHigh_187 : decode b_R_measureHigh 187 = .ok (.ifCond .eq 13, 3) := by decide +kernel
theorem d_R_measureHigh_190 : decode b_R_measureHigh 190 = .ok (.aload_n 0, 1) := by decide +kernel
theorem d_R_measureHigh_191 : decode b_R_measureHigh 191 = .ok (.getfield 19, 3) := by decide +kernel
theorem d_R_measureHigh_194 : decode b_R_measureHigh 194 = .ok (.iload_n 3, 1) := by decide +kernel
theorem d_R_measureHigh_195 : decode b_R_measureHigh 195 = .ok (.iaload, 1) := by decide +kernel
theorem d_R_measureHigh_196 : decode b_R_measureHigh 196 = .ok (.i2l, 1) := by decide +kernel
theorem d_R_measureHigh_197 : decode b_R_measureHigh 197 = .ok (.goto 4, 3) := by decide +kernel
theorem d_R_measureHigh_200 : decode b_R_measureHigh 200 = .ok (.lconst 0, 1) := by decide +kernel
theorem d_R_measureHigh_201 : decode b_R_measureHigh 201 = .ok (.putfield 97, 3) := by decide +kernel
theorem d_R_measureHigh_204 : decode b_R_measureHigh 204 = .ok (.aload_n 0, 1) := by decide +kernel
theorem d_R_measureHigh_205 : decode b_R_measureHigh 205 = .ok (.dup, 1) := by decide +kernel
theorem d_R_measureHigh_206 : decode b_R_measureHigh 206 = .ok (.getfield 90, 3) := by decide +kernel
theorem d_R_measureHigh_209 : decode b_R_measureHigh 209 = .ok (.aload_n 0, 1) := by decide +kernel
theorem d_R_measureHigh_210 : decode b_R_measureHigh 210 = .ok (.getfield 97, 3) := by decide +kernel
theorem d_R_measureHigh_213 : decode b_R_measureHigh 213 = .ok (.lsub, 1) := by decide +kernel
theorem d_R_measureHigh_214 : decode b_R_measureHigh 214 = .ok (.putfield 90, 3) := by decide +kernel
theorem d_R_measureHigh_217 : decode b_R_measureHigh 217 = .ok (.aload_n 0, 1) := by decide +kernel
theorem d_R_measureHigh_218 : decode b_R_measureHigh 218 = .ok (.getfield 97, 3) := by decide +kernel
theorem d_R_measureHigh_221 : decode b_R_measureHigh 221 = .ok (.iload_n 2, 1) := by decide +kernel
theorem d_R_measureHigh_222 : decode b_R_measureHigh 222 = .ok (.i2l, 1) := by decide +kernel
theorem d_R_measureHigh_223 : decode b_R_measureHigh 223 = .ok (.lcmp, 1) := by decide +kernel
theorem d_R_measureHigh_224 : decode b_R_measureHigh 224 = .ok (.ifCond .le 25, 3) := by decide +kernel
theorem d_R_measureHigh_227 : decode b_R_measureHigh 227 = .ok (.aload_n 0, 1) := by decide +kernel
theorem d_R_measureHigh_228 : decode b_R_measureHigh 228 = .ok (.dup, 1) := by decide +kernel
theorem d_R_measureHigh_229 : decode b_R_measureHigh 229 = .ok (.getfield 90, 3) := by decide +kernel
theorem d_R_measureHigh_232 : decode b_R_measureHigh 232 = .ok (.aload_n 0, 1) := by decide +kernel
theorem d_R_measureHigh_233 : decode b_R_measureHigh 233 = .ok (.getfield 97, 3) := by decide +kernel
theorem d_R_measureHigh_236 : decode b_R_measureHigh 236 = .ok (.iload_n 2, 1) := by decide +kernel
theorem d_R_measureHigh_237 : decode b_R_measureHigh 237 = .ok (.i2l, 1) := by decide +kernel
theorem d_R_measureHigh_238 : decode b_R_measureHigh 238 = .ok (.lsub, 1) := by decide +kernel
theorem d_R_measureHigh_239 : decode b_R_measureHigh 239 = .ok (.ladd, 1) := by decide +kernel
theorem d_R_measureHigh_240 : decode b_R_measureHigh 240 = .ok (.putfield 90, 3) := by decide +kernel
theorem d_R_measureHigh_243 : decode b_R_measureHigh 243 = .ok (.aload_n 0, 1) := by decide +kernel
theorem d_R_measureHigh_244 : decode b_R_measureHigh 244 = .ok (.iload_n 2, 1) := by decide +kernel
theorem d_R_measureHigh_245 : decode b_R_measureHigh 245 = .ok (.i2l, 1) := by decide +kernel
theorem d_R_measureHigh_246 : decode b_R_measureHigh 246 = .ok (.putfield 97, 3) := by decide +kernel
theorem d_R_measureHigh_249 : decode b_R_measureHigh 249 = .ok (.return_, 1) := by decide +kernel
abbrev b_R_measureWide : ByteArray := prog_7_method_22_code
def y_R_measureWide : MethodName := ⟨"BoxDeskModel", "measureWide", "(I)V"⟩
theorem d_R_measureWide_0 : decode b_R_measureWide 0 = .ok (.aload_n 0, 1) := by decide +kernel
theorem d_R_measureWide_1 : decode b_R_measureWide 1 = .ok (.iload_n 1, 1) := by decide +kernel
theorem d_R_measureWide_2 : decode b_R_measureWide 2 = .ok (.invokevirtual 106, 3) := by decide +kernel
theorem d_R_measureWide_5 : decode b_R_measureWide 5 = .ok (.iload_n 1, 1) := by decide +kernel
theorem d_R_measureWide_6 : decode b_R_measureWide 6 = .ok (.istore_n 2, 1) := by decide +kernel
theorem d_R_measureWide_7 : decode b_R_measureWide 7 = .ok (.iload_n 2, 1) := by decide +kernel
theorem d_R_measureWide_8 : decode b_R_measureWide 8 = .ok (.aload_n 0, 1) := by decide +kernel
theorem d_R_measureWide_9 : decode b_R_measureWide 9 = .ok (.getfield 61, 3) := by decide +kernel
theorem d_R_measureWide_12 : decode b_R_measureWide 12 = .ok (.if_icmp .ge 164, 3) := by decide +kernel
theorem d_R_measureWide_15 : decode b_R_measureWide 15 = .ok (.aload_n 0, 1) := by decide +kernel
theorem d_R_measureWide_16 : decode b_R_measureWide 16 = .ok (.dup, 1) := by decide +kernel
theorem d_R_measureWide_17 : decode b_R_measureWide 17 = .ok (.getfield 90, 3) := by decide +kernel
theorem d_R_measureWide_20 : decode b_R_measureWide 20 = .ok (.aload_n 0, 1) := by decide +kernel
theorem d_R_measureWide_21 : decode b_R_measureWide 21 = .ok (.getfield 7, 3) := by decide +kernel
theorem d_R_measureWide_24 : decode b_R_measureWide 24 = .ok (.iload_n 2, 1) := by decide +kernel
theorem d_R_measureWide_25 : decode b_R_measureWide 25 = .ok (.iaload, 1) := by decide +kernel
theorem d_R_measureWide_26 : decode b_R_measureWide 26 = .ok (.bipush 7, 2) := by decide +kernel
theorem d_R_measureWide_28 : decode b_R_measureWide 28 = .ok (.if_icmp .ne 7, 3) := by decide +kernel
theorem d_R_measureWide_31 : decode b_R_measureWide 31 = .ok (.lconst 0, 1) := by decide +kernel
theorem d_R_measureWide_32 : decode b_R_measureWide 32 = .ok (.goto 10, 3) := by decide +kernel
theorem d_R_measureWide_35 : decode b_R_measureWide 35 = .ok (.aload_n 0, 1) := by decide +kernel
theorem d_R_measureWide_36 : decode b_R_measureWide 36 = .ok (.getfield 13, 3) := by decide +kernel
theorem d_R_measureWide_39 : decode b_R_measureWide 39 = .ok (.iload_n 2, 1) := by decide +kernel
theorem d_R_measureWide_40 : decode b_R_measureWide 40 = .ok (.iaload, 1) := by decide +kernel
theorem d_R_measureWide_41 : decode b_R_measureWide 41 = .ok (.i2l, 1) := by decide +kernel
theorem d_R_measureWide_42 : decode b_R_measureWide 42 = .ok (.ladd, 1) := by decide +kernel
theorem d_R_measureWide_43 : decode b_R_measureWide 43 = .ok (.putfield 90, 3) := by decide +kernel
theorem d_R_measureWide_46 : decode b_R_measureWide 46 = .ok (.aload_n 0, 1) := by decide +kernel
theorem d_R_measureWide_47 : decode b_R_measureWide 47 = .ok (.iload_n 2, 1) := by decide +kernel
theorem d_R_measureWide_48 : decode b_R_measureWide 48 = .ok (.invokevirtual 87, 3) := by decide +kernel
theorem d_R_measureWide_51 : decode b_R_measureWide 51 = .ok (.ifCond .eq 13, 3) := by decide +kernel
theorem d_R_measureWide_54 : decode b_R_measureWide 54 = .ok (.aload_n 0, 1) := by decide +kernel
theorem d_R_measureWide_55 : decode b_R_measureWide 55 = .ok (.getfield 22, 3) := by decide +kernel
theorem d_R_measureWide_58 : decode b_R_measureWide 58 = .ok (.iload_n 2, 1) := by decide +kernel
theorem d_R_measureWide_59 : decode b_R_measureWide 59 = .ok (.iaload, 1) := by decide +kernel
theorem d_R_measureWide_60 : decode b_R_measureWide 60 = .ok (.i2l, 1) := by decide +kernel
theorem d_R_measureWide_61 : decode b_R_measureWide 61 = .ok (.goto 4, 3) := by decide +kernel
theorem d_R_measureWide_64 : decode b_R_measureWide 64 = .ok (.lconst 0, 1) := by decide +kernel
theorem d_R_measureWide_65 : decode b_R_measureWide 65 = .ok (.lstore_n 3, 1) := by decide +kernel
theorem d_R_measureWide_66 : decode b_R_measureWide 66 = .ok (.aload_n 0, 1) := by decide +kernel
theorem d_R_measureWide_67 : decode b_R_measureWide 67 = .ok (.iload_n 2, 1) := by decide +kernel
theorem d_R_measureWide_68 : decode b_R_measureWide 68 = .ok (.invokevirtual 110, 3) := by decide +kernel
theorem d_R_measureWide_71 : decode b_R_measureWide 71 = .ok (.ifCond .eq 44, 3) := by decide +kernel
theorem d_R_measureWide_74 : decode b_R_measureWide 74 = .ok (.aload_n 0, 1) := by decide +kernel
theorem d_R_measureWide_75 : decode b_R_measureWide 75 = .ok (.getfield 16, 3) := by decide +kernel
theorem d_R_measureWide_78 : decode b_R_measureWide 78 = .ok (.iload_n 2, 1) := by decide +kernel
theorem d_R_measureWide_79 : decode b_R_measureWide 79 = .ok (.iaload, 1) := by decide +kernel
theorem d_R_measureWide_80 : decode b_R_measureWide 80 = .ok (.ldc 86, 2) := by decide +kernel
theorem d_R_measureWide_82 : decode b_R_measureWide 82 = .ok (.if_icmp .eq 33, 3) := by decide +kernel
theorem d_R_measureWide_85 : decode b_R_measureWide 85 = .ok (.aload_n 0, 1) := by decide +kernel
theorem d_R_measureWide_86 : decode b_R_measureWide 86 = .ok (.getfield 16, 3) := by decide +kernel
theorem d_R_measureWide_89 : decode b_R_measureWide 89 = .ok (.iload_n 2, 1) := by decide +kernel
theorem d_R_measureWide_90 : decode b_R_measureWide 90 = .ok (.iaload, 1) := by decide +kernel
theorem d_R_measureWide_91 : decode b_R_measureWide 91 = .ok (.i2l, 1) := by decide +kernel
theorem d_R_measureWide_92 : decode b_R_measureWide 92 = .ok (.lload_n 3, 1) := by decide +kernel
theorem d_R_measureWide_93 : decode b_R_measureWide 93 = .ok (.lsub, 1) := by decide +kernel
theorem d_R_measureWide_94 : decode b_R_measureWide 94 = .ok (.aload_n 0, 1) := by decide +kernel
theorem d_R_measureWide_95 : decode b_R_measureWide 95 = .ok (.getfield 94, 3) := by decide +kernel
theorem d_R_measureWide_98 : decode b_R_measureWide 98 = .ok (.lcmp, 1) := by decide +kernel
theorem d_R_measureWide_99 : decode b_R_measureWide 99 = .ok (.ifCond .le 16, 3) := by decide +kernel
theorem d_R_measureWide_102 : decode b_R_measureWide 102 = .ok (.aload_n 0, 1) := by decide +kernel
theorem d_R_measureWide_103 : decode b_R_measureWide 103 = .ok (.aload_n 0, 1) := by decide +kernel
theorem d_R_measureWide_104 : decode b_R_measureWide 104 = .ok (.getfield 16, 3) := by decide +kernel
theorem d_R_measureWide_107 : decode b_R_measureWide 107 = .ok (.iload_n 2, 1) := by decide +kernel
theorem d_R_measureWide_108 : decode b_R_measureWide 108 = .ok (.iaload, 1) := by decide +kernel
theorem d_R_measureWide_109 : decode b_R_measureWide 109 = .ok (.i2l, 1) := by decide +kernel
theorem d_R_measureWide_110 : decode b_R_measureWide 110 = .ok (.lload_n 3, 1) := by decide +kernel
theorem d_R_measureWide_111 : decode b_R_measureWide 111 = .ok (.lsub, 1) := by decide +kernel
theorem d_R_measureWide_112 : decode b_R_measureWide 112 = .ok (.putfield 94, 3) := by decide +kernel
theorem d_R_measureWide_115 : decode b_R_measureWide 115 = .ok (.aload_n 0, 1) := by decide +kernel
theorem d_R_measureWide_116 : decode b_R_measureWide 116 = .ok (.iload_n 2, 1) := by decide +kernel
theorem d_R_measureWide_117 : decode b_R_measureWide 117 = .ok (.invokevirtual 110, 3) := by decide +kernel
theorem d_R_measureWide_120 : decode b_R_measureWide 120 = .ok (.ifCond .eq 44, 3) := by decide +kernel
theorem d_R_measureWide_123 : decode b_R_measureWide 123 = .ok (.aload_n 0, 1) := by decide +kernel
theorem d_R_measureWide_124 : decode b_R_measureWide 124 = .ok (.getfield 19, 3) := by decide +kernel
theorem d_R_measureWide_127 : decode b_R_measureWide 127 = .ok (.iload_n 2, 1) := by decide +kernel
theorem d_R_measureWide_128 : decode b_R_measureWide 128 = .ok (.iaload, 1) := by decide +kernel
theorem d_R_measureWide_129 : decode b_R_measureWide 129 = .ok (.ldc 86, 2) := by decide +kernel
theorem d_R_measureWide_131 : decode b_R_measureWide 131 = .ok (.if_icmp .eq 33, 3) := by decide +kernel
theorem d_R_measureWide_134 : decode b_R_measureWide 134 = .ok (.aload_n 0, 1) := by decide +kernel
theorem d_R_measureWide_135 : decode b_R_measureWide 135 = .ok (.getfield 19, 3) := by decide +kernel
theorem d_R_measureWide_138 : decode b_R_measureWide 138 = .ok (.iload_n 2, 1) := by decide +kernel
theorem d_R_measureWide_139 : decode b_R_measureWide 139 = .ok (.iaload, 1) := by decide +kernel
theorem d_R_measureWide_140 : decode b_R_measureWide 140 = .ok (.i2l, 1) := by decide +kernel
theorem d_R_measureWide_141 : decode b_R_measureWide 141 = .ok (.lload_n 3, 1) := by decide +kernel
theorem d_R_measureWide_142 : decode b_R_measureWide 142 = .ok (.ladd, 1) := by decide +kernel
theorem d_R_measureWide_143 : decode b_R_measureWide 143 = .ok (.aload_n 0, 1) := by decide +kernel
theorem d_R_measureWide_144 : decode b_R_measureWide 144 = .ok (.getfield 97, 3) := by decide +kernel
theorem d_R_measureWide_147 : decode b_R_measureWide 147 = .ok (.lcmp, 1) := by decide +kernel
theorem d_R_measureWide_148 : decode b_R_measureWide 148 = .ok (.ifCond .le 16, 3) := by decide +kernel
theorem d_R_measureWide_151 : decode b_R_measureWide 151 = .ok (.aload_n 0, 1) := by decide +kernel
theorem d_R_measureWide_152 : decode b_R_measureWide 152 = .ok (.aload_n 0, 1) := by decide +kernel
theorem d_R_measureWide_153 : decode b_R_measureWide 153 = .ok (.getfield 19, 3) := by decide +kernel
theorem d_R_measureWide_156 : decode b_R_measureWide 156 = .ok (.iload_n 2, 1) := by decide +kernel
theorem d_R_measureWide_157 : decode b_R_measureWide 157 = .ok (.iaload, 1) := by decide +kernel
theorem d_R_measureWide_158 : decode b_R_measureWide 158 = .ok (.i2l, 1) := by decide +kernel
theorem d_R_measureWide_159 : decode b_R_measureWide 159 = .ok (.lload_n 3, 1) := by decide +kernel
theorem d_R_measureWide_160 : decode b_R_measureWide 160 = .ok (.ladd, 1) := by decide +kernel
theorem d_R_measureWide_161 : decode b_R_measureWide 161 = .ok (.putfield 97, 3) := by decide +kernel
theorem d_R_measureWide_164 : decode b_R_measureWide 164 = .ok (.iload_n 2, 1) := by decide +kernel
theorem d_R_measureWide_165 : decode b_R_measureWide 165 = .ok (.aload_n 0, 1) := by decide +kernel
theorem d_R_measureWide_166 : decode b_R_measureWide 166 = .ok (.getfield 35, 3) := by decide +kernel
theorem d_R_measureWide_169 : decode b_R_measureWide 169 = .ok (.iload_n 2, 1) := by decide +kernel
theorem d_R_measureWide_170 : decode b_R_measureWide 170 = .ok (.iaload, 1) := by decide +kernel
theorem d_R_measureWide_171 : decode b_R_measureWide 171 = .ok (.iadd, 1) := by decide +kernel
theorem d_R_measureWide_172 : decode b_R_measureWide 172 = .ok (.istore_n 2, 1) := by decide +kernel
theorem d_R_measureWide_173 : decode b_R_measureWide 173 = .ok (.goto (-166), 3) := by decide +kernel
theorem d_R_measureWide_176 : decode b_R_measureWide 176 = .ok (.return_, 1) := by decide +kernel
abbrev b_R_move : ByteArray := prog_7_method_9_code
def y_R_move : MethodName := ⟨"BoxDeskModel", "move", "(II)V"⟩
theorem d_R_move_0 : decode b_R_move 0 = .ok (.aload_n 0, 1) := by decide +kernel
theorem d_R_move_1 : decode b_R_move 1 = .ok (.getfield 7, 3) := by decide +kernel
theorem d_R_move_4 : decode b_R_move 4 = .ok (.iload_n 2, 1) := by decide +kernel
theorem d_R_move_5 : decode b_R_move 5 = .ok (.aload_n 0, 1) := by decide +kernel
theorem d_R_move_6 : decode b_R_move 6 = .ok (.getfield 7, 3) := by decide +kernel
theorem d_R_move_9 : decode b_R_move 9 = .ok (.iload_n 1, 1) := by decide +kernel
theorem d_R_move_10 : decode b_R_move 10 = .ok (.iaload, 1) := by decide +kernel
theorem d_R_move_11 : decode b_R_move 11 = .ok (.iastore, 1) := by decide +kernel
theorem d_R_move_12 : decode b_R_move 12 = .ok (.aload_n 0, 1) := by decide +kernel
theorem d_R_move_13 : decode b_R_move 13 = .ok (.getfield 13, 3) := by decide +kernel
theorem d_R_move_16 : decode b_R_move 16 = .ok (.iload_n 2, 1) := by decide +kernel
theorem d_R_move_17 : decode b_R_move 17 = .ok (.aload_n 0, 1) := by decide +kernel
theorem d_R_move_18 : decode b_R_move 18 = .ok (.getfield 13, 3) := by decide +kernel
theorem d_R_move_21 : decode b_R_move 21 = .ok (.iload_n 1, 1) := by decide +kernel
theorem d_R_move_22 : decode b_R_move 22 = .ok (.iaload, 1) := by decide +kernel
theorem d_R_move_23 : decode b_R_move 23 = .ok (.iastore, 1) := by decide +kernel
theorem d_R_move_24 : decode b_R_move 24 = .ok (.aload_n 0, 1) := by decide +kernel
theorem d_R_move_25 : decode b_R_move 25 = .ok (.getfield 16, 3) := by decide +kernel
theorem d_R_move_28 : decode b_R_move 28 = .ok (.iload_n 2, 1) := by decide +kernel
theorem d_R_move_29 : decode b_R_move 29 = .ok (.aload_n 0, 1) := by decide +kernel
theorem d_R_move_30 : decode b_R_move 30 = .ok (.getfield 16, 3) := by decide +kernel
theorem d_R_move_33 : decode b_R_move 33 = .ok (.iload_n 1, 1) := by decide +kernel
theorem d_R_move_34 : decode b_R_move 34 = .ok (.iaload, 1) := by decide +kernel
theorem d_R_move_35 : decode b_R_move 35 = .ok (.iastore, 1) := by decide +kernel
theorem d_R_move_36 : decode b_R_move 36 = .ok (.aload_n 0, 1) := by decide +kernel
theorem d_R_move_37 : decode b_R_move 37 = .ok (.getfield 19, 3) := by decide +kernel
theorem d_R_move_40 : decode b_R_move 40 = .ok (.iload_n 2, 1) := by decide +kernel
theorem d_R_move_41 : decode b_R_move 41 = .ok (.aload_n 0, 1) := by decide +kernel
theorem d_R_move_42 : decode b_R_move 42 = .ok (.getfield 19, 3) := by decide +kernel
theorem d_R_move_45 : decode b_R_move 45 = .ok (.iload_n 1, 1) := by decide +kernel
theorem d_R_move_46 : decode b_R_move 46 = .ok (.iaload, 1) := by decide +kernel
theorem d_R_move_47 : decode b_R_move 47 = .ok (.iastore, 1) := by decide +kernel
theorem d_R_move_48 : decode b_R_move 48 = .ok (.aload_n 0, 1) := by decide +kernel
theorem d_R_move_49 : decode b_R_move 49 = .ok (.getfield 22, 3) := by decide +kernel
theorem d_R_move_52 : decode b_R_move 52 = .ok (.iload_n 2, 1) := by decide +kernel
theorem d_R_move_53 : decode b_R_move 53 = .ok (.aload_n 0, 1) := by decide +kernel
theorem d_R_move_54 : decode b_R_move 54 = .ok (.getfield 22, 3) := by decide +kernel
theorem d_R_move_57 : decode b_R_move 57 = .ok (.iload_n 1, 1) := by decide +kernel
theorem d_R_move_58 : decode b_R_move 58 = .ok (.iaload, 1) := by decide +kernel
theorem d_R_move_59 : decode b_R_move 59 = .ok (.iastore, 1) := by decide +kernel
theorem d_R_move_60 : decode b_R_move 60 = .ok (.aload_n 0, 1) := by decide +kernel
theorem d_R_move_61 : decode b_R_move 61 = .ok (.getfield 25, 3) := by decide +kernel
theorem d_R_move_64 : decode b_R_move 64 = .ok (.iload_n 2, 1) := by decide +kernel
theorem d_R_move_65 : decode b_R_move 65 = .ok (.aload_n 0, 1) := by decide +kernel
theorem d_R_move_66 : decode b_R_move 66 = .ok (.getfield 25, 3) := by decide +kernel
theorem d_R_move_69 : decode b_R_move 69 = .ok (.iload_n 1, 1) := by decide +kernel
theorem d_R_move_70 : decode b_R_move 70 = .ok (.iaload, 1) := by decide +kernel
theorem d_R_move_71 : decode b_R_move 71 = .ok (.iastore, 1) := by decide +kernel
theorem d_R_move_72 : decode b_R_move 72 = .ok (.aload_n 0, 1) := by decide +kernel
theorem d_R_move_73 : decode b_R_move 73 = .ok (.getfield 28, 3) := by decide +kernel
theorem d_R_move_76 : decode b_R_move 76 = .ok (.iload_n 2, 1) := by decide +kernel
theorem d_R_move_77 : decode b_R_move 77 = .ok (.aload_n 0, 1) := by decide +kernel
theorem d_R_move_78 : decode b_R_move 78 = .ok (.getfield 28, 3) := by decide +kernel
theorem d_R_move_81 : decode b_R_move 81 = .ok (.iload_n 1, 1) := by decide +kernel
theorem d_R_move_82 : decode b_R_move 82 = .ok (.iaload, 1) := by decide +kernel
theorem d_R_move_83 : decode b_R_move 83 = .ok (.iastore, 1) := by decide +kernel
theorem d_R_move_84 : decode b_R_move 84 = .ok (.aload_n 0, 1) := by decide +kernel
theorem d_R_move_85 : decode b_R_move 85 = .ok (.getfield 31, 3) := by decide +kernel
theorem d_R_move_88 : decode b_R_move 88 = .ok (.iload_n 2, 1) := by decide +kernel
theorem d_R_move_89 : decode b_R_move 89 = .ok (.aload_n 0, 1) := by decide +kernel
theorem d_R_move_90 : decode b_R_move 90 = .ok (.getfield 31, 3) := by decide +kernel
theorem d_R_move_93 : decode b_R_move 93 = .ok (.iload_n 1, 1) := by decide +kernel
theorem d_R_move_94 : decode b_R_move 94 = .ok (.laload, 1) := by decide +kernel
theorem d_R_move_95 : decode b_R_move 95 = .ok (.lastore, 1) := by decide +kernel
theorem d_R_move_96 : decode b_R_move 96 = .ok (.aload_n 0, 1) := by decide +kernel
theorem d_R_move_97 : decode b_R_move 97 = .ok (.getfield 35, 3) := by decide +kernel
theorem d_R_move_100 : decode b_R_move 100 = .ok (.iload_n 2, 1) := by decide +kernel
theorem d_R_move_101 : decode b_R_move 101 = .ok (.aload_n 0, 1) := by decide +kernel
theorem d_R_move_102 : decode b_R_move 102 = .ok (.getfield 35, 3) := by decide +kernel
theorem d_R_move_105 : decode b_R_move 105 = .ok (.iload_n 1, 1) := by decide +kernel
theorem d_R_move_106 : decode b_R_move 106 = .ok (.iaload, 1) := by decide +kernel
theorem d_R_move_107 : decode b_R_move 107 = .ok (.iastore, 1) := by decide +kernel
theorem d_R_move_108 : decode b_R_move 108 = .ok (.return_, 1) := by decide +kernel
abbrev b_R_near : ByteArray := prog_7_method_24_code
def y_R_near : MethodName := ⟨"BoxDeskModel", "near", "(JJ)J"⟩
theorem d_R_near_0 : decode b_R_near 0 = .ok (.lload_n 0, 1) := by decide +kernel
theorem d_R_near_1 : decode b_R_near 1 = .ok (.lconst 0, 1) := by decide +kernel
theorem d_R_near_2 : decode b_R_near 2 = .ok (.lcmp, 1) := by decide +kernel
theorem d_R_near_3 : decode b_R_near 3 = .ok (.ifCond .ge 13, 3) := by decide +kernel
theorem d_R_near_6 : decode b_R_near 6 = .ok (.lload_n 0, 1) := by decide +kernel
theorem d_R_near_7 : decode b_R_near 7 = .ok (.lneg, 1) := by decide +kernel
theorem d_R_near_8 : decode b_R_near 8 = .ok (.lload_n 2, 1) := by decide +kernel
theorem d_R_near_9 : decode b_R_near 9 = .ok (.invokestatic 113, 3) := by decide +kernel
theorem d_R_near_12 : decode b_R_near 12 = .ok (.lneg, 1) := by decide +kernel
theorem d_R_near_13 : decode b_R_near 13 = .ok (.goto 8, 3) := by decide +kernel
theorem d_R_near_16 : decode b_R_near 16 = .ok (.lload_n 0, 1) := by decide +kernel
theorem d_R_near_17 : decode b_R_near 17 = .ok (.lload_n 2, 1) := by decide +kernel
theorem d_R_near_18 : decode b_R_near 18 = .ok (.invokestatic 113, 3) := by decide +kernel
theorem d_R_near_21 : decode b_R_near 21 = .ok (.lreturn, 1) := by decide +kernel
abbrev b_R_near0 : ByteArray := prog_7_method_25_code
def y_R_near0 : MethodName := ⟨"BoxDeskModel", "near0", "(JJ)J"⟩
theorem d_R_near0_0 : decode b_R_near0 0 = .ok (.ldc2_w 117, 3) := by decide +kernel
theorem d_R_near0_3 : decode b_R_near0 3 = .ok (.lload_n 0, 1) := by decide +kernel
theorem d_R_near0_4 : decode b_R_near0 4 = .ok (.lmul, 1) := by decide +kernel
theorem d_R_near0_5 : decode b_R_near0 5 = .ok (.lload_n 2, 1) := by decide +kernel
theorem d_R_near0_6 : decode b_R_near0 6 = .ok (.ladd, 1) := by decide +kernel
theorem d_R_near0_7 : decode b_R_near0 7 = .ok (.ldc2_w 117, 3) := by decide +kernel
theorem d_R_near0_10 : decode b_R_near0 10 = .ok (.lload_n 2, 1) := by decide +kernel
theorem d_R_near0_11 : decode b_R_near0 11 = .ok (.lmul, 1) := by decide +kernel
theorem d_R_near0_12 : decode b_R_near0 12 = .ok (.ldiv, 1) := by decide +kernel
theorem d_R_near0_13 : decode b_R_near0 13 = .ok (.lreturn, 1) := by decide +kernel
abbrev b_R_nested : ByteArray := prog_7_method_20_code
def y_R_nested : MethodName := ⟨"BoxDeskModel", "nested", "(II)I"⟩
theorem d_R_nested_0 : decode b_R_nested 0 = .ok (.iconst 0, 1) := by decide +kernel
theorem d_R_nested_1 : decode b_R_nested 1 = .ok (.istore_n 3, 1) := by decide +kernel
theorem d_R_nested_2 : decode b_R_nested 2 = .ok (.iload_n 1, 1) := by decide +kernel
theorem d_R_nested_3 : decode b_R_nested 3 = .ok (.istore 4, 2) := by decide +kernel
theorem d_R_nested_5 : decode b_R_nested 5 = .ok (.iload 4, 2) := by decide +kernel
theorem d_R_nested_7 : decode b_R_nested 7 = .ok (.iload_n 2, 1) := by decide +kernel
theorem d_R_nested_8 : decode b_R_nested 8 = .ok (.if_icmp .ge 75, 3) := by decide +kernel
theorem d_R_nested_11 : decode b_R_nested 11 = .ok (.iconst 0, 1) := by decide +kernel
theorem d_R_nested_12 : decode b_R_nested 12 = .ok (.istore 5, 2) := by decide +kernel
theorem d_R_nested_14 : decode b_R_nested 14 = .ok (.iload_n 1, 1) := by decide +kernel
theorem d_R_nested_15 : decode b_R_nested 15 = .ok (.istore 6, 2) := by decide +kernel
theorem d_R_nested_17 : decode b_R_nested 17 = .ok (.iload 6, 2) := by decide +kernel
theorem d_R_nested_19 : decode b_R_nested 19 = .ok (.iload 4, 2) := by decide +kernel
theorem d_R_nested_21 : decode b_R_nested 21 = .ok (.if_icmp .gt 43, 3) := by decide +kernel
theorem d_R_nested_24 : decode b_R_nested 24 = .ok (.iload 5, 2) := by decide +kernel
theorem d_R_nested_26 : decode b_R_nested 26 = .ok (.aload_n 0, 1) := by decide +kernel
theorem d_R_nested_27 : decode b_R_nested 27 = .ok (.iload 6, 2) := by decide +kernel
theorem d_R_nested_29 : decode b_R_nested 29 = .ok (.invokevirtual 87, 3) := by decide +kernel
theorem d_R_nested_32 : decode b_R_nested 32 = .ok (.ifCond .eq 22, 3) := by decide +kernel
theorem d_R_nested_35 : decode b_R_nested 35 = .ok (.iload 6, 2) := by decide +kernel
theorem d_R_nested_37 : decode b_R_nested 37 = .ok (.aload_n 0, 1) := by decide +kernel
theorem d_R_nested_38 : decode b_R_nested 38 = .ok (.getfield 35, 3) := by decide +kernel
theorem d_R_nested_41 : decode b_R_nested 41 = .ok (.iload 6, 2) := by decide +kernel
theorem d_R_nested_43 : decode b_R_nested 43 = .ok (.iaload, 1) := by decide +kernel
theorem d_R_nested_44 : decode b_R_nested 44 = .ok (.iadd, 1) := by decide +kernel
theorem d_R_nested_45 : decode b_R_nested 45 = .ok (.iload 4, 2) := by decide +kernel
theorem d_R_nested_47 : decode b_R_nested 47 = .ok (.if_icmp .le 7, 3) := by decide +kernel
theorem d_R_nested_50 : decode b_R_nested 50 = .ok (.iconst 1, 1) := by decide +kernel
theorem d_R_nested_51 : decode b_R_nested 51 = .ok (.goto 4, 3) := by decide +kernel
theorem d_R_nested_54 : decode b_R_nested 54 = .ok (.iconst 0, 1) := by decide +kernel
theorem d_R_nested_55 : decode b_R_nested 55 = .ok (.iadd, 1) := by decide +kernel
theorem d_R_nested_56 : decode b_R_nested 56 = .ok (.istore 5, 2) := by decide +kernel
theorem d_R_nested_58 : decode b_R_nested 58 = .ok (.iinc 6 1, 3) := by decide +kernel
theorem d_R_nested_61 : decode b_R_nested 61 = .ok (.goto (-44), 3) := by decide +kernel
theorem d_R_nested_64 : decode b_R_nested 64 = .ok (.iload 5, 2) := by decide +kernel
theorem d_R_nested_66 : decode b_R_nested 66 = .ok (.iload_n 3, 1) := by decide +kernel
theorem d_R_nested_67 : decode b_R_nested 67 = .ok (.if_icmp .le 8, 3) := by decide +kernel
theorem d_R_nested_70 : decode b_R_nested 70 = .ok (.iload 5, 2) := by decide +kernel
theorem d_R_nested_72 : decode b_R_nested 72 = .ok (.goto 4, 3) := by decide +kernel
theorem d_R_nested_75 : decode b_R_nested 75 = .ok (.iload_n 3, 1) := by decide +kernel
theorem d_R_nested_76 : decode b_R_nested 76 = .ok (.istore_n 3, 1) := by decide +kernel
theorem d_R_nested_77 : decode b_R_nested 77 = .ok (.iinc 4 1, 3) := by decide +kernel
theorem d_R_nested_80 : decode b_R_nested 80 = .ok (.goto (-75), 3) := by decide +kernel
theorem d_R_nested_83 : decode b_R_nested 83 = .ok (.iload_n 3, 1) := by decide +kernel
theorem d_R_nested_84 : decode b_R_nested 84 = .ok (.ireturn, 1) := by decide +kernel
abbrev b_R_open : ByteArray := prog_7_method_10_code
def y_R_open : MethodName := ⟨"BoxDeskModel", "open", "(Z)Z"⟩
theorem d_R_open_0 : decode b_R_open 0 = .ok (.aload_n 0, 1) := by decide +kernel
theorem d_R_open_1 : decode b_R_open 1 = .ok (.iconst 0, 1) := by decide +kernel
theorem d_R_open_2 : decode b_R_open 2 = .ok (.putfield 51, 3) := by decide +kernel
theorem d_R_open_5 : decode b_R_open 5 = .ok (.aload_n 0, 1) := by decide +kernel
theorem d_R_open_6 : decode b_R_open 6 = .ok (.getfield 68, 3) := by decide +kernel
theorem d_R_open_9 : decode b_R_open 9 = .ok (.bipush 100, 2) := by decide +kernel
theorem d_R_open_11 : decode b_R_open 11 = .ok (.if_icmp .ne 5, 3) := by decide +kernel
theorem d_R_open_14 : decode b_R_open 14 = .ok (.iconst 0, 1) := by decide +kernel
theorem d_R_open_15 : decode b_R_open 15 = .ok (.ireturn, 1) := by decide +kernel
theorem d_R_open_16 : decode b_R_open 16 = .ok (.aload_n 0, 1) := by decide +kernel
theorem d_R_open_17 : decode b_R_open 17 = .ok (.getfield 38, 3) := by decide +kernel
theorem d_R_open_20 : decode b_R_open 20 = .ok (.aload_n 0, 1) := by decide +kernel
theorem d_R_open_21 : decode b_R_open 21 = .ok (.getfield 68, 3) := by decide +kernel
theorem d_R_open_24 : decode b_R_open 24 = .ok (.aload_n 0, 1) := by decide +kernel
theorem d_R_open_25 : decode b_R_open 25 = .ok (.getfield 61, 3) := by decide +kernel
theorem d_R_open_28 : decode b_R_open 28 = .ok (.iastore, 1) := by decide +kernel
theorem d_R_open_29 : decode b_R_open 29 = .ok (.aload_n 0, 1) := by decide +kernel
theorem d_R_open_30 : decode b_R_open 30 = .ok (.getfield 41, 3) := by decide +kernel
theorem d_R_open_33 : decode b_R_open 33 = .ok (.aload_n 0, 1) := by decide +kernel
theorem d_R_open_34 : decode b_R_open 34 = .ok (.getfield 68, 3) := by decide +kernel
theorem d_R_open_37 : decode b_R_open 37 = .ok (.iload_n 1, 1) := by decide +kernel
theorem d_R_open_38 : decode b_R_open 38 = .ok (.bastore, 1) := by decide +kernel
theorem d_R_open_39 : decode b_R_open 39 = .ok (.aload_n 0, 1) := by decide +kernel
theorem d_R_open_40 : decode b_R_open 40 = .ok (.dup, 1) := by decide +kernel
theorem d_R_open_41 : decode b_R_open 41 = .ok (.getfield 68, 3) := by decide +kernel
theorem d_R_open_44 : decode b_R_open 44 = .ok (.iconst 1, 1) := by decide +kernel
theorem d_R_open_45 : decode b_R_open 45 = .ok (.iadd, 1) := by decide +kernel
theorem d_R_open_46 : decode b_R_open 46 = .ok (.putfield 68, 3) := by decide +kernel
theorem d_R_open_49 : decode b_R_open 49 = .ok (.iconst 1, 1) := by decide +kernel
theorem d_R_open_50 : decode b_R_open 50 = .ok (.ireturn, 1) := by decide +kernel
abbrev b_R_penalty : ByteArray := prog_7_method_17_code
def y_R_penalty : MethodName := ⟨"BoxDeskModel", "penalty", "(I)Z"⟩
theorem d_R_penalty_0 : decode b_R_penalty 0 = .ok (.aload_n 0, 1) := by decide +kernel
theorem d_R_penalty_1 : decode b_R_penalty 1 = .ok (.iconst 1, 1) := by decide +kernel
theorem d_R_penalty_2 : decode b_R_penalty 2 = .ok (.bipush 7, 2) := by decide +kernel
theorem d_R_penalty_4 : decode b_R_penalty 4 = .ok (.iload_n 1, 1) := by decide +kernel
theorem d_R_penalty_5 : decode b_R_penalty 5 = .ok (.iconst 0, 1) := by decide +kernel
theorem d_R_penalty_6 : decode b_R_penalty 6 = .ok (.iconst 0, 1) := by decide +kernel
theorem d_R_penalty_7 : decode b_R_penalty 7 = .ok (.iconst 0, 1) := by decide +kernel
theorem d_R_penalty_8 : decode b_R_penalty 8 = .ok (.iconst 0, 1) := by decide +kernel
theorem d_R_penalty_9 : decode b_R_penalty 9 = .ok (.iconst 0, 1) := by decide +kernel
theorem d_R_penalty_10 : decode b_R_penalty 10 = .ok (.invokevirtual 82, 3) := by decide +kernel
theorem d_R_penalty_13 : decode b_R_penalty 13 = .ok (.ireturn, 1) := by decide +kernel
abbrev b_R_put : ByteArray := prog_7_method_31_code
def y_R_put : MethodName := ⟨"BoxDeskModel", "put", "(IIZ)Z"⟩
theorem d_R_put_0 : decode b_R_put 0 = .ok (.aload_n 0, 1) := by decide +kernel
theorem d_R_put_1 : decode b_R_put 1 = .ok (.iconst 0, 1) := by decide +kernel
theorem d_R_put_2 : decode b_R_put 2 = .ok (.putfield 51, 3) := by decide +kernel
theorem d_R_put_5 : decode b_R_put 5 = .ok (.aload_n 0, 1) := by decide +kernel
theorem d_R_put_6 : decode b_R_put 6 = .ok (.getfield 68, 3) := by decide +kernel
theorem d_R_put_9 : decode b_R_put 9 = .ok (.ifCond .eq 35, 3) := by decide +kernel
theorem d_R_put_12 : decode b_R_put 12 = .ok (.aload_n 0, 1) := by decide +kernel
theorem d_R_put_13 : decode b_R_put 13 = .ok (.iload_n 1, 1) := by decide +kernel
theorem d_R_put_14 : decode b_R_put 14 = .ok (.invokevirtual 157, 3) := by decide +kernel
theorem d_R_put_17 : decode b_R_put 17 = .ok (.ifCond .eq 27, 3) := by decide +kernel
theorem d_R_put_20 : decode b_R_put 20 = .ok (.iload_n 2, 1) := by decide +kernel
theorem d_R_put_21 : decode b_R_put 21 = .ok (.invokestatic 79, 3) := by decide +kernel
theorem d_R_put_24 : decode b_R_put 24 = .ok (.ifCond .eq 20, 3) := by decide +kernel
theorem d_R_put_27 : decode b_R_put 27 = .ok (.iload_n 3, 1) := by decide +kernel
theorem d_R_put_28 : decode b_R_put 28 = .ok (.ifCond .eq 18, 3) := by decide +kernel
theorem d_R_put_31 : decode b_R_put 31 = .ok (.aload_n 0, 1) := by decide +kernel
theorem d_R_put_32 : decode b_R_put 32 = .ok (.aload_n 0, 1) := by decide +kernel
theorem d_R_put_33 : decode b_R_put 33 = .ok (.getfield 45, 3) := by decide +kernel
theorem d_R_put_36 : decode b_R_put 36 = .ok (.iload_n 1, 1) := by decide +kernel
theorem d_R_put_37 : decode b_R_put 37 = .ok (.iaload, 1) := by decide +kernel
theorem d_R_put_38 : decode b_R_put 38 = .ok (.invokevirtual 71, 3) := by decide +kernel
theorem d_R_put_41 : decode b_R_put 41 = .ok (.ifCond .ne 5, 3) := by decide +kernel
theorem d_R_put_44 : decode b_R_put 44 = .ok (.iconst 0, 1) := by decide +kernel
theorem d_R_put_45 : decode b_R_put 45 = .ok (.ireturn, 1) := by decide +kernel
theorem d_R_put_46 : decode b_R_put 46 = .ok (.aload_n 0, 1) := by decide +kernel
theorem d_R_put_47 : decode b_R_put 47 = .ok (.iload_n 1, 1) := by decide +kernel
theorem d_R_put_48 : decode b_R_put 48 = .ok (.invokevirtual 122, 3) := by decide +kernel
theorem d_R_put_51 : decode b_R_put 51 = .ok (.istore 4, 2) := by decide +kernel
theorem d_R_put_53 : decode b_R_put 53 = .ok (.aload_n 0, 1) := by decide +kernel
theorem d_R_put_54 : decode b_R_put 54 = .ok (.getfield 45, 3) := by decide +kernel
theorem d_R_put_57 : decode b_R_put 57 = .ok (.iload_n 1, 1) := by decide +kernel
theorem d_R_put_58 : decode b_R_put 58 = .ok (.iaload, 1) := by decide +kernel
theorem d_R_put_59 : decode b_R_put 59 = .ok (.istore 5, 2) := by decide +kernel
theorem d_R_put_61 : decode b_R_put 61 = .ok (.iconst 0, 1) := by decide +kernel
theorem d_R_put_62 : decode b_R_put 62 = .ok (.istore 6, 2) := by decide +kernel
theorem d_R_put_64 : decode b_R_put 64 = .ok (.iload 6, 2) := by decide +kernel
theorem d_R_put_66 : decode b_R_put 66 = .ok (.iload 5, 2) := by decide +kernel
theorem d_R_put_68 : decode b_R_put 68 = .ok (.if_icmp .ge 25, 3) := by decide +kernel
theorem d_R_put_71 : decode b_R_put 71 = .ok (.aload_n 0, 1) := by decide +kernel
theorem d_R_put_72 : decode b_R_put 72 = .ok (.iload 4, 2) := by decide +kernel
theorem d_R_put_74 : decode b_R_put 74 = .ok (.iload 6, 2) := by decide +kernel
theorem d_R_put_76 : decode b_R_put 76 = .ok (.iadd, 1) := by decide +kernel
theorem d_R_put_77 : decode b_R_put 77 = .ok (.aload_n 0, 1) := by decide +kernel
theorem d_R_put_78 : decode b_R_put 78 = .ok (.getfield 61, 3) := by decide +kernel
theorem d_R_put_81 : decode b_R_put 81 = .ok (.iload 6, 2) := by decide +kernel
theorem d_R_put_83 : decode b_R_put 83 = .ok (.iadd, 1) := by decide +kernel
theorem d_R_put_84 : decode b_R_put 84 = .ok (.invokevirtual 126, 3) := by decide +kernel
theorem d_R_put_87 : decode b_R_put 87 = .ok (.iinc 6 1, 3) := by decide +kernel
theorem d_R_put_90 : decode b_R_put 90 = .ok (.goto (-26), 3) := by decide +kernel
theorem d_R_put_93 : decode b_R_put 93 = .ok (.aload_n 0, 1) := by decide +kernel
theorem d_R_put_94 : decode b_R_put 94 = .ok (.getfield 22, 3) := by decide +kernel
theorem d_R_put_97 : decode b_R_put 97 = .ok (.aload_n 0, 1) := by decide +kernel
theorem d_R_put_98 : decode b_R_put 98 = .ok (.getfield 61, 3) := by decide +kernel
theorem d_R_put_101 : decode b_R_put 101 = .ok (.iload_n 2, 1) := by decide +kernel
theorem d_R_put_102 : decode b_R_put 102 = .ok (.iastore, 1) := by decide +kernel
theorem d_R_put_103 : decode b_R_put 103 = .ok (.aload_n 0, 1) := by decide +kernel
theorem d_R_put_104 : decode b_R_put 104 = .ok (.dup, 1) := by decide +kernel
theorem d_R_put_105 : decode b_R_put 105 = .ok (.getfield 61, 3) := by decide +kernel
theorem d_R_put_108 : decode b_R_put 108 = .ok (.iload 5, 2) := by decide +kernel
theorem d_R_put_110 : decode b_R_put 110 = .ok (.iadd, 1) := by decide +kernel
theorem d_R_put_111 : decode b_R_put 111 = .ok (.putfield 61, 3) := by decide +kernel
theorem d_R_put_114 : decode b_R_put 114 = .ok (.iload_n 3, 1) := by decide +kernel
theorem d_R_put_115 : decode b_R_put 115 = .ok (.ifCond .ne 8, 3) := by decide +kernel
theorem d_R_put_118 : decode b_R_put 118 = .ok (.aload_n 0, 1) := by decide +kernel
theorem d_R_put_119 : decode b_R_put 119 = .ok (.iload_n 1, 1) := by decide +kernel
theorem d_R_put_120 : decode b_R_put 120 = .ok (.invokevirtual 151, 3) := by decide +kernel
theorem d_R_put_123 : decode b_R_put 123 = .ok (.iconst 1, 1) := by decide +kernel
theorem d_R_put_124 : decode b_R_put 124 = .ok (.ireturn, 1) := by decide +kernel
abbrev b_R_rule : ByteArray := prog_7_method_14_code
def y_R_rule : MethodName := ⟨"BoxDeskModel", "rule", "(IIII)Z"⟩
theorem d_R_rule_0 : decode b_R_rule 0 = .ok (.aload_n 0, 1) := by decide +kernel
theorem d_R_rule_1 : decode b_R_rule 1 = .ok (.invokevirtual 75, 3) := by decide +kernel
theorem d_R_rule_4 : decode b_R_rule 4 = .ok (.ifCond .eq 22, 3) := by decide +kernel
theorem d_R_rule_7 : decode b_R_rule 7 = .ok (.iload 4, 2) := by decide +kernel
theorem d_R_rule_9 : decode b_R_rule 9 = .ok (.ifCond .eq 9, 3) := by decide +kernel
theorem d_R_rule_12 : decode b_R_rule 12 = .ok (.iload 4, 2) := by decide +kernel
theorem d_R_rule_14 : decode b_R_rule 14 = .ok (.iconst 1, 1) := by decide +kernel
theorem d_R_rule_15 : decode b_R_rule 15 = .ok (.if_icmp .ne 7, 3) := by decide +kernel
theorem d_R_rule_18 : decode b_R_rule 18 = .ok (.iconst 1, 1) := by decide +kernel
theorem d_R_rule_19 : decode b_R_rule 19 = .ok (.goto 36, 3) := by decide +kernel
theorem d_R_rule_22 : decode b_R_rule 22 = .ok (.iconst 0, 1) := by decide +kernel
theorem d_R_rule_23 : decode b_R_rule 23 = .ok (.goto 32, 3) := by decide +kernel
theorem d_R_rule_26 : decode b_R_rule 26 = .ok (.iload 4, 2) := by decide +kernel
theorem d_R_rule_28 : decode b_R_rule 28 = .ok (.ifCond .eq 22, 3) := by decide +kernel
theorem d_R_rule_31 : decode b_R_rule 31 = .ok (.iload 4, 2) := by decide +kernel
theorem d_R_rule_33 : decode b_R_rule 33 = .ok (.iconst 2, 1) := by decide +kernel
theorem d_R_rule_34 : decode b_R_rule 34 = .ok (.if_icmp .eq 16, 3) := by decide +kernel
theorem d_R_rule_37 : decode b_R_rule 37 = .ok (.iload 4, 2) := by decide +kernel
theorem d_R_rule_39 : decode b_R_rule 39 = .ok (.iconst 4, 1) := by decide +kernel
theorem d_R_rule_40 : decode b_R_rule 40 = .ok (.if_icmp .eq 10, 3) := by decide +kernel
theorem d_R_rule_43 : decode b_R_rule 43 = .ok (.iload 4, 2) := by decide +kernel
theorem d_R_rule_45 : decode b_R_rule 45 = .ok (.bipush 6, 2) := by decide +kernel
theorem d_R_rule_47 : decode b_R_rule 47 = .ok (.if_icmp .ne 7, 3) := by decide +kernel
theorem d_R_rule_50 : decode b_R_rule 50 = .ok (.iconst 1, 1) := by decide +kernel
theorem d_R_rule_51 : decode b_R_rule 51 = .ok (.goto 4, 3) := by decide +kernel
theorem d_R_rule_54 : decode b_R_rule 54 = .ok (.iconst 0, 1) := by decide +kernel
theorem d_R_rule_55 : decode b_R_rule 55 = .ok (.istore 5, 2) := by decide +kernel
theorem d_R_rule_57 : decode b_R_rule 57 = .ok (.iload 4, 2) := by decide +kernel
theorem d_R_rule_59 : decode b_R_rule 59 = .ok (.iconst 1, 1) := by decide +kernel
theorem d_R_rule_60 : decode b_R_rule 60 = .ok (.iand, 1) := by decide +kernel
theorem d_R_rule_61 : decode b_R_rule 61 = .ok (.iconst 1, 1) := by decide +kernel
theorem d_R_rule_62 : decode b_R_rule 62 = .ok (.if_icmp .ne 7, 3) := by decide +kernel
theorem d_R_rule_65 : decode b_R_rule 65 = .ok (.iconst 1, 1) := by decide +kernel
theorem d_R_rule_66 : decode b_R_rule 66 = .ok (.goto 4, 3) := by decide +kernel
theorem d_R_rule_69 : decode b_R_rule 69 = .ok (.iconst 0, 1) := by decide +kernel
theorem d_R_rule_70 : decode b_R_rule 70 = .ok (.istore 6, 2) := by decide +kernel
theorem d_R_rule_72 : decode b_R_rule 72 = .ok (.iload 4, 2) := by decide +kernel
theorem d_R_rule_74 : decode b_R_rule 74 = .ok (.iconst 2, 1) := by decide +kernel
theorem d_R_rule_75 : decode b_R_rule 75 = .ok (.iand, 1) := by decide +kernel
theorem d_R_rule_76 : decode b_R_rule 76 = .ok (.iconst 2, 1) := by decide +kernel
theorem d_R_rule_77 : decode b_R_rule 77 = .ok (.if_icmp .ne 7, 3) := by decide +kernel
theorem d_R_rule_80 : decode b_R_rule 80 = .ok (.iconst 1, 1) := by decide +kernel
theorem d_R_rule_81 : decode b_R_rule 81 = .ok (.goto 4, 3) := by decide +kernel
theorem d_R_rule_84 : decode b_R_rule 84 = .ok (.iconst 0, 1) := by decide +kernel
theorem d_R_rule_85 : decode b_R_rule 85 = .ok (.istore 7, 2) := by decide +kernel
theorem d_R_rule_87 : decode b_R_rule 87 = .ok (.iload 4, 2) := by decide +kernel
theorem d_R_rule_89 : decode b_R_rule 89 = .ok (.iconst 4, 1) := by decide +kernel
theorem d_R_rule_90 : decode b_R_rule 90 = .ok (.iand, 1) := by decide +kernel
theorem d_R_rule_91 : decode b_R_rule 91 = .ok (.iconst 4, 1) := by decide +kernel
theorem d_R_rule_92 : decode b_R_rule 92 = .ok (.if_icmp .ne 7, 3) := by decide +kernel
theorem d_R_rule_95 : decode b_R_rule 95 = .ok (.iconst 1, 1) := by decide +kernel
theorem d_R_rule_96 : decode b_R_rule 96 = .ok (.goto 4, 3) := by decide +kernel
theorem d_R_rule_99 : decode b_R_rule 99 = .ok (.iconst 0, 1) := by decide +kernel
theorem d_R_rule_100 : decode b_R_rule 100 = .ok (.istore 8, 2) := by decide +kernel
theorem d_R_rule_102 : decode b_R_rule 102 = .ok (.aload_n 0, 1) := by decide +kernel
theorem d_R_rule_103 : decode b_R_rule 103 = .ok (.iload 5, 2) := by decide +kernel
theorem d_R_rule_105 : decode b_R_rule 105 = .ok (.ifCond .eq 28, 3) := by decide +kernel
theorem d_R_rule_108 : decode b_R_rule 108 = .ok (.iload_n 1, 1) := by decide +kernel
theorem d_R_rule_109 : decode b_R_rule 109 = .ok (.invokestatic 79, 3) := by decide +kernel
theorem d_R_rule_112 : decode b_R_rule 112 = .ok (.ifCond .eq 21, 3) := by decide +kernel
theorem d_R_rule_115 : decode b_R_rule 115 = .ok (.iload_n 2, 1) := by decide +kernel
theorem d_R_rule_116 : decode b_R_rule 116 = .ok (.invokestatic 79, 3) := by decide +kernel
theorem d_R_rule_119 : decode b_R_rule 119 = .ok (.ifCond .eq 14, 3) := by decide +kernel
theorem d_R_rule_122 : decode b_R_rule 122 = .ok (.iload_n 3, 1) := by decide +kernel
theorem d_R_rule_123 : decode b_R_rule 123 = .ok (.invokestatic 79, 3) := by decide +kernel
theorem d_R_rule_126 : decode b_R_rule 126 = .ok (.ifCond .eq 7, 3) := by decide +kernel
theorem d_R_rule_129 : decode b_R_rule 129 = .ok (.iconst 1, 1) := by decide +kernel
theorem d_R_rule_130 : decode b_R_rule 130 = .ok (.goto 4, 3) := by decide +kernel
theorem d_R_rule_133 : decode b_R_rule 133 = .ok (.iconst 0, 1) := by decide +kernel
theorem d_R_rule_134 : decode b_R_rule 134 = .ok (.iconst 4, 1) := by decide +kernel
theorem d_R_rule_135 : decode b_R_rule 135 = .ok (.iload 6, 2) := by decide +kernel
theorem d_R_rule_137 : decode b_R_rule 137 = .ok (.ifCond .eq 8, 3) := by decide +kernel
theorem d_R_rule_140 : decode b_R_rule 140 = .ok (.ldc 86, 2) := by decide +kernel
theorem d_R_rule_142 : decode b_R_rule 142 = .ok (.goto 4, 3) := by decide +kernel
theorem d_R_rule_145 : decode b_R_rule 145 = .ok (.iload_n 1, 1) := by decide +kernel
theorem d_R_rule_146 : decode b_R_rule 146 = .ok (.iload 7, 2) := by decide +kernel
theorem d_R_rule_148 : decode b_R_rule 148 = .ok (.ifCond .eq 8, 3) := by decide +kernel
theorem d_R_rule_151 : decode b_R_rule 151 = .ok (.ldc 86, 2) := by decide +kernel
theorem d_R_rule_153 : decode b_R_rule 153 = .ok (.goto 4, 3) := by decide +kernel
theorem d_R_rule_156 : decode b_R_rule 156 = .ok (.iload_n 2, 1) := by decide +kernel
theorem d_R_rule_157 : decode b_R_rule 157 = .ok (.iload 8, 2) := by decide +kernel
theorem d_R_rule_159 : decode b_R_rule 159 = .ok (.ifCond .eq 8, 3) := by decide +kernel
theorem d_R_rule_162 : decode b_R_rule 162 = .ok (.ldc 86, 2) := by decide +kernel
theorem d_R_rule_164 : decode b_R_rule 164 = .ok (.goto 4, 3) := by decide +kernel
theorem d_R_rule_167 : decode b_R_rule 167 = .ok (.iload_n 3, 1) := by decide +kernel
theorem d_R_rule_168 : decode b_R_rule 168 = .ok (.iconst 0, 1) := by decide +kernel
theorem d_R_rule_169 : decode b_R_rule 169 = .ok (.iconst 0, 1) := by decide +kernel
theorem d_R_rule_170 : decode b_R_rule 170 = .ok (.iconst 0, 1) := by decide +kernel
theorem d_R_rule_171 : decode b_R_rule 171 = .ok (.invokevirtual 82, 3) := by decide +kernel
theorem d_R_rule_174 : decode b_R_rule 174 = .ok (.ireturn, 1) := by decide +kernel
abbrev b_R_share : ByteArray := prog_7_method_26_code
def y_R_share : MethodName := ⟨"BoxDeskModel", "share", "(IJ)V"⟩
theorem d_R_share_0 : decode b_R_share 0 = .ok (.iconst 3, 1) := by decide +kernel
theorem d_R_share_1 : decode b_R_share 1 = .ok (.istore 4, 2) := by decide +kernel
theorem d_R_share_3 : decode b_R_share 3 = .ok (.iload 4, 2) := by decide +kernel
theorem d_R_share_5 : decode b_R_share 5 = .ok (.ifCond .le 21, 3) := by decide +kernel
theorem d_R_share_8 : decode b_R_share 8 = .ok (.aload_n 0, 1) := by decide +kernel
theorem d_R_share_9 : decode b_R_share 9 = .ok (.getfield 48, 3) := by decide +kernel
theorem d_R_share_12 : decode b_R_share 12 = .ok (.iload 4, 2) := by decide +kernel
theorem d_R_share_14 : decode b_R_share 14 = .ok (.laload, 1) := by decide +kernel
theorem d_R_share_15 : decode b_R_share 15 = .ok (.lconst 0, 1) := by decide +kernel
theorem d_R_share_16 : decode b_R_share 16 = .ok (.lcmp, 1) := by decide +kernel
theorem d_R_share_17 : decode b_R_share 17 = .ok (.ifCond .ne 9, 3) := by decide +kernel
theorem d_R_share_20 : decode b_R_share 20 = .ok (.iinc 4 (-1), 3) := by decide +kernel
theorem d_R_share_23 : decode b_R_share 23 = .ok (.goto (-20), 3) := by decide +kernel
theorem d_R_share_26 : decode b_R_share 26 = .ok (.lload_n 2, 1) := by decide +kernel
theorem d_R_share_27 : decode b_R_share 27 = .ok (.lconst 0, 1) := by decide +kernel
theorem d_R_share_28 : decode b_R_share 28 = .ok (.lcmp, 1) := by decide +kernel
theorem d_R_share_29 : decode b_R_share 29 = .ok (.ifCond .le 7, 3) := by decide +kernel
theorem d_R_share_32 : decode b_R_share 32 = .ok (.iconst 1, 1) := by decide +kernel
theorem d_R_share_33 : decode b_R_share 33 = .ok (.goto 4, 3) := by decide +kernel
theorem d_R_share_36 : decode b_R_share 36 = .ok (.iconst 0, 1) := by decide +kernel
theorem d_R_share_37 : decode b_R_share 37 = .ok (.istore 5, 2) := by decide +kernel
theorem d_R_share_39 : decode b_R_share 39 = .ok (.iload 5, 2) := by decide +kernel
theorem d_R_share_41 : decode b_R_share 41 = .ok (.ifCond .eq 13, 3) := by decide +kernel
theorem d_R_share_44 : decode b_R_share 44 = .ok (.aload_n 0, 1) := by decide +kernel
theorem d_R_share_45 : decode b_R_share 45 = .ok (.getfield 48, 3) := by decide +kernel
theorem d_R_share_48 : decode b_R_share 48 = .ok (.iload 4, 2) := by decide +kernel
theorem d_R_share_50 : decode b_R_share 50 = .ok (.laload, 1) := by decide +kernel
theorem d_R_share_51 : decode b_R_share 51 = .ok (.goto 7, 3) := by decide +kernel
theorem d_R_share_54 : decode b_R_share 54 = .ok (.aload_n 0, 1) := by decide +kernel
theorem d_R_share_55 : decode b_R_share 55 = .ok (.getfield 103, 3) := by decide +kernel
theorem d_R_share_58 : decode b_R_share 58 = .ok (.lstore 6, 2) := by decide +kernel
theorem d_R_share_60 : decode b_R_share 60 = .ok (.iload 5, 2) := by decide +kernel
theorem d_R_share_62 : decode b_R_share 62 = .ok (.ifCond .eq 7, 3) := by decide +kernel
theorem d_R_share_65 : decode b_R_share 65 = .ok (.lload_n 2, 1) := by decide +kernel
theorem d_R_share_66 : decode b_R_share 66 = .ok (.goto 22, 3) := by decide +kernel
theorem d_R_share_69 : decode b_R_share 69 = .ok (.lload_n 2, 1) := by decide +kernel
theorem d_R_share_70 : decode b_R_share 70 = .ok (.aload_n 0, 1) := by decide +kernel
theorem d_R_share_71 : decode b_R_share 71 = .ok (.getfield 103, 3) := by decide +kernel
theorem d_R_share_74 : decode b_R_share 74 = .ok (.lneg, 1) := by decide +kernel
theorem d_R_share_75 : decode b_R_share 75 = .ok (.lcmp, 1) := by decide +kernel
theorem d_R_share_76 : decode b_R_share 76 = .ok (.ifCond .ge 11, 3) := by decide +kernel
theorem d_R_share_79 : decode b_R_share 79 = .ok (.aload_n 0, 1) := by decide +kernel
theorem d_R_share_80 : decode b_R_share 80 = .ok (.getfield 103, 3) := by decide +kernel
theorem d_R_share_83 : decode b_R_share 83 = .ok (.lneg, 1) := by decide +kernel
theorem d_R_share_84 : decode b_R_share 84 = .ok (.goto 4, 3) := by decide +kernel
theorem d_R_share_87 : decode b_R_share 87 = .ok (.lload_n 2, 1) := by decide +kernel
theorem d_R_share_88 : decode b_R_share 88 = .ok (.lstore 8, 2) := by decide +kernel
theorem d_R_share_90 : decode b_R_share 90 = .ok (.lconst 0, 1) := by decide +kernel
theorem d_R_share_91 : decode b_R_share 91 = .ok (.lstore 10, 2) := by decide +kernel
theorem d_R_share_93 : decode b_R_share 93 = .ok (.iload_n 1, 1) := by decide +kernel
theorem d_R_share_94 : decode b_R_share 94 = .ok (.istore 12, 2) := by decide +kernel
theorem d_R_share_96 : decode b_R_share 96 = .ok (.iload 12, 2) := by decide +kernel
theorem d_R_share_98 : decode b_R_share 98 = .ok (.aload_n 0, 1) := by decide +kernel
theorem d_R_share_99 : decode b_R_share 99 = .ok (.getfield 61, 3) := by decide +kernel
theorem d_R_share_102 : decode b_R_share 102 = .ok (.if_icmp .ge 138, 3) := by decide +kernel
theorem d_R_share_105 : decode b_R_share 105 = .ok (.aload_n 0, 1) := by decide +kernel
theorem d_R_share_106 : decode b_R_share 106 = .ok (.getfield 7, 3) := by decide +kernel
theorem d_R_share_109 : decode b_R_share 109 = .ok (.iload 12, 2) := by decide +kernel
theorem d_R_share_111 : decode b_R_share 111 = .ok (.iaload, 1) := by decide +kernel
theorem d_R_share_112 : decode b_R_share 112 = .ok (.iconst 5, 1) := by decide +kernel
theorem d_R_share_113 : decode b_R_share 113 = .ok (.if_icmp .ne 112, 3) := by decide +kernel
theorem d_R_share_116 : decode b_R_share 116 = .ok (.lload 6, 2) := by decide +kernel
theorem d_R_share_118 : decode b_R_share 118 = .ok (.lconst 0, 1) := by decide +kernel
theorem d_R_share_119 : decode b_R_share 119 = .ok (.lcmp, 1) := by decide +kernel
theorem d_R_share_120 : decode b_R_share 120 = .ok (.ifCond .le 24, 3) := by decide +kernel
theorem d_R_share_123 : decode b_R_share 123 = .ok (.iload 5, 2) := by decide +kernel
theorem d_R_share_125 : decode b_R_share 125 = .ok (.ifCond .eq 15, 3) := by decide +kernel
theorem d_R_share_128 : decode b_R_share 128 = .ok (.aload_n 0, 1) := by decide +kernel
theorem d_R_share_129 : decode b_R_share 129 = .ok (.getfield 25, 3) := by decide +kernel
theorem d_R_share_132 : decode b_R_share 132 = .ok (.iload 12, 2) := by decide +kernel
theorem d_R_share_134 : decode b_R_share 134 = .ok (.iaload, 1) := by decide +kernel
theorem d_R_share_135 : decode b_R_share 135 = .ok (.iload 4, 2) := by decide +kernel
theorem d_R_share_137 : decode b_R_share 137 = .ok (.if_icmp .ne 7, 3) := by decide +kernel
theorem d_R_share_140 : decode b_R_share 140 = .ok (.iconst 1, 1) := by decide +kernel
theorem d_R_share_141 : decode b_R_share 141 = .ok (.goto 4, 3) := by decide +kernel
theorem d_R_share_144 : decode b_R_share 144 = .ok (.iconst 0, 1) := by decide +kernel
theorem d_R_share_145 : decode b_R_share 145 = .ok (.istore 13, 2) := by decide +kernel
theorem d_R_share_147 : decode b_R_share 147 = .ok (.lload 10, 2) := by decide +kernel
theorem d_R_share_149 : decode b_R_share 149 = .ok (.iload 13, 2) := by decide +kernel
theorem d_R_share_151 : decode b_R_share 151 = .ok (.ifCond .eq 28, 3) := by decide +kernel
theorem d_R_share_154 : decode b_R_share 154 = .ok (.iload 5, 2) := by decide +kernel
theorem d_R_share_156 : decode b_R_share 156 = .ok (.ifCond .eq 13, 3) := by decide +kernel
theorem d_R_share_159 : decode b_R_share 159 = .ok (.aload_n 0, 1) := by decide +kernel
theorem d_R_share_160 : decode b_R_share 160 = .ok (.getfield 22, 3) := by decide +kernel
theorem d_R_share_163 : decode b_R_share 163 = .ok (.iload 12, 2) := by decide +kernel
theorem d_R_share_165 : decode b_R_share 165 = .ok (.iaload, 1) := by decide +kernel
theorem d_R_share_166 : decode b_R_share 166 = .ok (.goto 14, 3) := by decide +kernel
theorem d_R_share_169 : decode b_R_share 169 = .ok (.aload_n 0, 1) := by decide +kernel
theorem d_R_share_170 : decode b_R_share 170 = .ok (.getfield 28, 3) := by decide +kernel
theorem d_R_share_173 : decode b_R_share 173 = .ok (.iload 12, 2) := by decide +kernel
theorem d_R_share_175 : decode b_R_share 175 = .ok (.iaload, 1) := by decide +kernel
theorem d_R_share_176 : decode b_R_share 176 = .ok (.goto 4, 3) := by decide +kernel
theorem d_R_share_179 : decode b_R_share 179 = .ok (.iconst 0, 1) := by decide +kernel
theorem d_R_share_180 : decode b_R_share 180 = .ok (.i2l, 1) := by decide +kernel
theorem d_R_share_181 : decode b_R_share 181 = .ok (.ladd, 1) := by decide +kernel
theorem d_R_share_182 : decode b_R_share 182 = .ok (.lstore 14, 2) := by decide +kernel
theorem d_R_share_184 : decode b_R_share 184 = .ok (.aload_n 0, 1) := by decide +kernel
theorem d_R_share_185 : decode b_R_share 185 = .ok (.getfield 31, 3) := by decide +kernel
theorem d_R_share_188 : decode b_R_share 188 = .ok (.iload 12, 2) := by decide +kernel
theorem d_R_share_190 : decode b_R_share 190 = .ok (.iload 13, 2) := by decide +kernel
theorem d_R_share_192 : decode b_R_share 192 = .ok (.ifCond .eq 27, 3) := by decide +kernel
theorem d_R_share_195 : decode b_R_share 195 = .ok (.lload 8, 2) := by decide +kernel
theorem d_R_share_197 : decode b_R_share 197 = .ok (.lload 14, 2) := by decide +kernel
theorem d_R_share_199 : decode b_R_share 199 = .ok (.lmul, 1) := by decide +kernel
theorem d_R_share_200 : decode b_R_share 200 = .ok (.lload 6, 2) := by decide +kernel
theorem d_R_share_202 : decode b_R_share 202 = .ok (.invokestatic 119, 3) := by decide +kernel
theorem d_R_share_205 : decode b_R_share 205 = .ok (.lload 8, 2) := by decide +kernel
theorem d_R_share_207 : decode b_R_share 207 = .ok (.lload 10, 2) := by decide +kernel
theorem d_R_share_209 : decode b_R_share 209 = .ok (.lmul, 1) := by decide +kernel
theorem d_R_share_210 : decode b_R_share 210 = .ok (.lload 6, 2) := by decide +kernel
theorem d_R_share_212 : decode b_R_share 212 = .ok (.invokestatic 119, 3) := by decide +kernel
theorem d_R_share_215 : decode b_R_share 215 = .ok (.lsub, 1) := by decide +kernel
theorem d_R_share_216 : decode b_R_share 216 = .ok (.goto 4, 3) := by decide +kernel
theorem d_R_share_219 : decode b_R_share 219 = .ok (.lconst 0, 1) := by decide +kernel
theorem d_R_share_220 : decode b_R_share 220 = .ok (.lastore, 1) := by decide +kernel
theorem d_R_share_221 : decode b_R_share 221 = .ok (.lload 14, 2) := by decide +kernel
theorem d_R_share_223 : decode b_R_share 223 = .ok (.lstore 10, 2) := by decide +kernel
theorem d_R_share_225 : decode b_R_share 225 = .ok (.iload 12, 2) := by decide +kernel
theorem d_R_share_227 : decode b_R_share 227 = .ok (.aload_n 0, 1) := by decide +kernel
theorem d_R_share_228 : decode b_R_share 228 = .ok (.getfield 35, 3) := by decide +kernel
theorem d_R_share_231 : decode b_R_share 231 = .ok (.iload 12, 2) := by decide +kernel
theorem d_R_share_233 : decode b_R_share 233 = .ok (.iaload, 1) := by decide +kernel
theorem d_R_share_234 : decode b_R_share 234 = .ok (.iadd, 1) := by decide +kernel
theorem d_R_share_235 : decode b_R_share 235 = .ok (.istore 12, 2) := by decide +kernel
theorem d_R_share_237 : decode b_R_share 237 = .ok (.goto (-141), 3) := by decide +kernel
theorem d_R_share_240 : decode b_R_share 240 = .ok (.return_, 1) := by decide +kernel
abbrev b_R_shelved : ByteArray := prog_7_method_6_code
def y_R_shelved : MethodName := ⟨"BoxDeskModel", "shelved", "()I"⟩
theorem d_R_shelved_0 : decode b_R_shelved 0 = .ok (.iconst 0, 1) := by decide +kernel
theorem d_R_shelved_1 : decode b_R_shelved 1 = .ok (.istore_n 1, 1) := by decide +kernel
theorem d_R_shelved_2 : decode b_R_shelved 2 = .ok (.iconst 0, 1) := by decide +kernel
theorem d_R_shelved_3 : decode b_R_shelved 3 = .ok (.istore_n 2, 1) := by decide +kernel
theorem d_R_shelved_4 : decode b_R_shelved 4 = .ok (.iload_n 2, 1) := by decide +kernel
theorem d_R_shelved_5 : decode b_R_shelved 5 = .ok (.bipush 16, 2) := by decide +kernel
theorem d_R_shelved_7 : decode b_R_shelved 7 = .ok (.if_icmp .ge 18, 3) := by decide +kernel
theorem d_R_shelved_10 : decode b_R_shelved 10 = .ok (.iload_n 1, 1) := by decide +kernel
theorem d_R_shelved_11 : decode b_R_shelved 11 = .ok (.aload_n 0, 1) := by decide +kernel
theorem d_R_shelved_12 : decode b_R_shelved 12 = .ok (.getfield 45, 3) := by decide +kernel
theorem d_R_shelved_15 : decode b_R_shelved 15 = .ok (.iload_n 2, 1) := by decide +kernel
theorem d_R_shelved_16 : decode b_R_shelved 16 = .ok (.iaload, 1) := by decide +kernel
theorem d_R_shelved_17 : decode b_R_shelved 17 = .ok (.iadd, 1) := by decide +kernel
theorem d_R_shelved_18 : decode b_R_shelved 18 = .ok (.istore_n 1, 1) := by decide +kernel
theorem d_R_shelved_19 : decode b_R_shelved 19 = .ok (.iinc 2 1, 3) := by decide +kernel
theorem d_R_shelved_22 : decode b_R_shelved 22 = .ok (.goto (-18), 3) := by decide +kernel
theorem d_R_shelved_25 : decode b_R_shelved 25 = .ok (.iload_n 1, 1) := by decide +kernel
theorem d_R_shelved_26 : decode b_R_shelved 26 = .ok (.ireturn, 1) := by decide +kernel
abbrev b_R_size : ByteArray := prog_7_method_33_code
def y_R_size : MethodName := ⟨"BoxDeskModel", "size", "(III)Z"⟩
theorem d_R_size_0 : decode b_R_size 0 = .ok (.aload_n 0, 1) := by decide +kernel
theorem d_R_size_1 : decode b_R_size 1 = .ok (.iconst 0, 1) := by decide +kernel
theorem d_R_size_2 : decode b_R_size 2 = .ok (.putfield 51, 3) := by decide +kernel
theorem d_R_size_5 : decode b_R_size 5 = .ok (.aload_n 0, 1) := by decide +kernel
theorem d_R_size_6 : decode b_R_size 6 = .ok (.iload_n 1, 1) := by decide +kernel
theorem d_R_size_7 : decode b_R_size 7 = .ok (.invokevirtual 157, 3) := by decide +kernel
theorem d_R_size_10 : decode b_R_size 10 = .ok (.ifCond .eq 19, 3) := by decide +kernel
theorem d_R_size_13 : decode b_R_size 13 = .ok (.iload_n 2, 1) := by decide +kernel
theorem d_R_size_14 : decode b_R_size 14 = .ok (.ifCond .lt 15, 3) := by decide +kernel
theorem d_R_size_17 : decode b_R_size 17 = .ok (.iload_n 2, 1) := by decide +kernel
theorem d_R_size_18 : decode b_R_size 18 = .ok (.iconst 2, 1) := by decide +kernel
theorem d_R_size_19 : decode b_R_size 19 = .ok (.if_icmp .gt 10, 3) := by decide +kernel
theorem d_R_size_22 : decode b_R_size 22 = .ok (.iload_n 3, 1) := by decide +kernel
theorem d_R_size_23 : decode b_R_size 23 = .ok (.invokestatic 79, 3) := by decide +kernel
theorem d_R_size_26 : decode b_R_size 26 = .ok (.ifCond .ne 5, 3) := by decide +kernel
theorem d_R_size_29 : decode b_R_size 29 = .ok (.iconst 0, 1) := by decide +kernel
theorem d_R_size_30 : decode b_R_size 30 = .ok (.ireturn, 1) := by decide +kernel
theorem d_R_size_31 : decode b_R_size 31 = .ok (.aload_n 0, 1) := by decide +kernel
theorem d_R_size_32 : decode b_R_size 32 = .ok (.iload_n 1, 1) := by decide +kernel
theorem d_R_size_33 : decode b_R_size 33 = .ok (.invokevirtual 122, 3) := by decide +kernel
theorem d_R_size_36 : decode b_R_size 36 = .ok (.istore 4, 2) := by decide +kernel
theorem d_R_size_38 : decode b_R_size 38 = .ok (.iload_n 2, 1) := by decide +kernel
theorem d_R_size_39 : decode b_R_size 39 = .ok (.ifCond .ne 14, 3) := by decide +kernel
theorem d_R_size_42 : decode b_R_size 42 = .ok (.aload_n 0, 1) := by decide +kernel
theorem d_R_size_43 : decode b_R_size 43 = .ok (.getfield 13, 3) := by decide +kernel
theorem d_R_size_46 : decode b_R_size 46 = .ok (.iload 4, 2) := by decide +kernel
theorem d_R_size_48 : decode b_R_size 48 = .ok (.iload_n 3, 1) := by decide +kernel
theorem d_R_size_49 : decode b_R_size 49 = .ok (.iastore, 1) := by decide +kernel
theorem d_R_size_50 : decode b_R_size 50 = .ok (.goto 27, 3) := by decide +kernel
theorem d_R_size_53 : decode b_R_size 53 = .ok (.iload_n 2, 1) := by decide +kernel
theorem d_R_size_54 : decode b_R_size 54 = .ok (.iconst 1, 1) := by decide +kernel
theorem d_R_size_55 : decode b_R_size 55 = .ok (.if_icmp .ne 14, 3) := by decide +kernel
theorem d_R_size_58 : decode b_R_size 58 = .ok (.aload_n 0, 1) := by decide +kernel
theorem d_R_size_59 : decode b_R_size 59 = .ok (.getfield 16, 3) := by decide +kernel
theorem d_R_size_62 : decode b_R_size 62 = .ok (.iload 4, 2) := by decide +kernel
theorem d_R_size_64 : decode b_R_size 64 = .ok (.iload_n 3, 1) := by decide +kernel
theorem d_R_size_65 : decode b_R_size 65 = .ok (.iastore, 1) := by decide +kernel
theorem d_R_size_66 : decode b_R_size 66 = .ok (.goto 11, 3) := by decide +kernel
theorem d_R_size_69 : decode b_R_size 69 = .ok (.aload_n 0, 1) := by decide +kernel
theorem d_R_size_70 : decode b_R_size 70 = .ok (.getfield 19, 3) := by decide +kernel
theorem d_R_size_73 : decode b_R_size 73 = .ok (.iload 4, 2) := by decide +kernel
theorem d_R_size_75 : decode b_R_size 75 = .ok (.iload_n 3, 1) := by decide +kernel
theorem d_R_size_76 : decode b_R_size 76 = .ok (.iastore, 1) := by decide +kernel
theorem d_R_size_77 : decode b_R_size 77 = .ok (.iconst 1, 1) := by decide +kernel
theorem d_R_size_78 : decode b_R_size 78 = .ok (.ireturn, 1) := by decide +kernel
abbrev b_R_start : ByteArray := prog_7_method_8_code
def y_R_start : MethodName := ⟨"BoxDeskModel", "start", "(I)I"⟩
theorem d_R_start_0 : decode b_R_start 0 = .ok (.sipush 4100, 3) := by decide +kernel
theorem d_R_start_3 : decode b_R_start 3 = .ok (.istore_n 2, 1) := by decide +kernel
theorem d_R_start_4 : decode b_R_start 4 = .ok (.iconst 0, 1) := by decide +kernel
theorem d_R_start_5 : decode b_R_start 5 = .ok (.istore_n 3, 1) := by decide +kernel
theorem d_R_start_6 : decode b_R_start 6 = .ok (.iload_n 3, 1) := by decide +kernel
theorem d_R_start_7 : decode b_R_start 7 = .ok (.iload_n 1, 1) := by decide +kernel
theorem d_R_start_8 : decode b_R_start 8 = .ok (.if_icmp .ge 18, 3) := by decide +kernel
theorem d_R_start_11 : decode b_R_start 11 = .ok (.iload_n 2, 1) := by decide +kernel
theorem d_R_start_12 : decode b_R_start 12 = .ok (.aload_n 0, 1) := by decide +kernel
theorem d_R_start_13 : decode b_R_start 13 = .ok (.getfield 45, 3) := by decide +kernel
theorem d_R_start_16 : decode b_R_start 16 = .ok (.iload_n 3, 1) := by decide +kernel
theorem d_R_start_17 : decode b_R_start 17 = .ok (.iaload, 1) := by decide +kernel
theorem d_R_start_18 : decode b_R_start 18 = .ok (.iadd, 1) := by decide +kernel
theorem d_R_start_19 : decode b_R_start 19 = .ok (.istore_n 2, 1) := by decide +kernel
theorem d_R_start_20 : decode b_R_start 20 = .ok (.iinc 3 1, 3) := by decide +kernel
theorem d_R_start_23 : decode b_R_start 23 = .ok (.goto (-17), 3) := by decide +kernel
theorem d_R_start_26 : decode b_R_start 26 = .ok (.iload_n 2, 1) := by decide +kernel
theorem d_R_start_27 : decode b_R_start 27 = .ok (.ireturn, 1) := by decide +kernel
abbrev b_R_thrown : ByteArray := prog_7_method_2_code
def y_R_thrown : MethodName := ⟨"BoxDeskModel", "thrown", "()I"⟩
theorem d_R_thrown_0 : decode b_R_thrown 0 = .ok (.aload_n 0, 1) := by decide +kernel
theorem d_R_thrown_1 : decode b_R_thrown 1 = .ok (.getfield 51, 3) := by decide +kernel
theorem d_R_thrown_4 : decode b_R_thrown 4 = .ok (.ireturn, 1) := by decide +kernel
abbrev b_R_unbox : ByteArray := prog_7_method_32_code
def y_R_unbox : MethodName := ⟨"BoxDeskModel", "unbox", "(I)Z"⟩
theorem d_R_unbox_0 : decode b_R_unbox 0 = .ok (.aload_n 0, 1) := by decide +kernel
theorem d_R_unbox_1 : decode b_R_unbox 1 = .ok (.iconst 0, 1) := by decide +kernel
theorem d_R_unbox_2 : decode b_R_unbox 2 = .ok (.putfield 51, 3) := by decide +kernel
theorem d_R_unbox_5 : decode b_R_unbox 5 = .ok (.aload_n 0, 1) := by decide +kernel
theorem d_R_unbox_6 : decode b_R_unbox 6 = .ok (.getfield 68, 3) := by decide +kernel
theorem d_R_unbox_9 : decode b_R_unbox 9 = .ok (.ifCond .eq 36, 3) := by decide +kernel
theorem d_R_unbox_12 : decode b_R_unbox 12 = .ok (.aload_n 0, 1) := by decide +kernel
theorem d_R_unbox_13 : decode b_R_unbox 13 = .ok (.iload_n 1, 1) := by decide +kernel
theorem d_R_unbox_14 : decode b_R_unbox 14 = .ok (.invokevirtual 157, 3) := by decide +kernel
theorem d_R_unbox_17 : decode b_R_unbox 17 = .ok (.ifCond .eq 28, 3) := by decide +kernel
theorem d_R_unbox_20 : decode b_R_unbox 20 = .ok (.aload_n 0, 1) := by decide +kernel
theorem d_R_unbox_21 : decode b_R_unbox 21 = .ok (.getfield 7, 3) := by decide +kernel
theorem d_R_unbox_24 : decode b_R_unbox 24 = .ok (.aload_n 0, 1) := by decide +kernel
theorem d_R_unbox_25 : decode b_R_unbox 25 = .ok (.iload_n 1, 1) := by decide +kernel
theorem d_R_unbox_26 : decode b_R_unbox 26 = .ok (.invokevirtual 122, 3) := by decide +kernel
theorem d_R_unbox_29 : decode b_R_unbox 29 = .ok (.iaload, 1) := by decide +kernel
theorem d_R_unbox_30 : decode b_R_unbox 30 = .ok (.aload_n 0, 1) := by decide +kernel
theorem d_R_unbox_31 : decode b_R_unbox 31 = .ok (.invokevirtual 75, 3) := by decide +kernel
theorem d_R_unbox_34 : decode b_R_unbox 34 = .ok (.ifCond .eq 7, 3) := by decide +kernel
theorem d_R_unbox_37 : decode b_R_unbox 37 = .ok (.iconst 3, 1) := by decide +kernel
theorem d_R_unbox_38 : decode b_R_unbox 38 = .ok (.goto 4, 3) := by decide +kernel
theorem d_R_unbox_41 : decode b_R_unbox 41 = .ok (.iconst 2, 1) := by decide +kernel
theorem d_R_unbox_42 : decode b_R_unbox 42 = .ok (.if_icmp .eq 5, 3) := by decide +kernel
theorem d_R_unbox_45 : decode b_R_unbox 45 = .ok (.iconst 0, 1) := by decide +kernel
theorem d_R_unbox_46 : decode b_R_unbox 46 = .ok (.ireturn, 1) := by decide +kernel
theorem d_R_unbox_47 : decode b_R_unbox 47 = .ok (.aload_n 0, 1) := by decide +kernel
theorem d_R_unbox_48 : decode b_R_unbox 48 = .ok (.iload_n 1, 1) := by decide +kernel
theorem d_R_unbox_49 : decode b_R_unbox 49 = .ok (.invokevirtual 122, 3) := by decide +kernel
theorem d_R_unbox_52 : decode b_R_unbox 52 = .ok (.istore_n 2, 1) := by decide +kernel
theorem d_R_unbox_53 : decode b_R_unbox 53 = .ok (.aload_n 0, 1) := by decide +kernel
theorem d_R_unbox_54 : decode b_R_unbox 54 = .ok (.getfield 45, 3) := by decide +kernel
theorem d_R_unbox_57 : decode b_R_unbox 57 = .ok (.iload_n 1, 1) := by decide +kernel
theorem d_R_unbox_58 : decode b_R_unbox 58 = .ok (.iaload, 1) := by decide +kernel
theorem d_R_unbox_59 : decode b_R_unbox 59 = .ok (.iconst 1, 1) := by decide +kernel
theorem d_R_unbox_60 : decode b_R_unbox 60 = .ok (.isub, 1) := by decide +kernel
theorem d_R_unbox_61 : decode b_R_unbox 61 = .ok (.istore_n 3, 1) := by decide +kernel
theorem d_R_unbox_62 : decode b_R_unbox 62 = .ok (.iconst 0, 1) := by decide +kernel
theorem d_R_unbox_63 : decode b_R_unbox 63 = .ok (.istore 4, 2) := by decide +kernel
theorem d_R_unbox_65 : decode b_R_unbox 65 = .ok (.iload 4, 2) := by decide +kernel
theorem d_R_unbox_67 : decode b_R_unbox 67 = .ok (.iload_n 3, 1) := by decide +kernel
theorem d_R_unbox_68 : decode b_R_unbox 68 = .ok (.if_icmp .ge 26, 3) := by decide +kernel
theorem d_R_unbox_71 : decode b_R_unbox 71 = .ok (.aload_n 0, 1) := by decide +kernel
theorem d_R_unbox_72 : decode b_R_unbox 72 = .ok (.iload_n 2, 1) := by decide +kernel
theorem d_R_unbox_73 : decode b_R_unbox 73 = .ok (.iconst 1, 1) := by decide +kernel
theorem d_R_unbox_74 : decode b_R_unbox 74 = .ok (.iadd, 1) := by decide +kernel
theorem d_R_unbox_75 : decode b_R_unbox 75 = .ok (.iload 4, 2) := by decide +kernel
theorem d_R_unbox_77 : decode b_R_unbox 77 = .ok (.iadd, 1) := by decide +kernel
theorem d_R_unbox_78 : decode b_R_unbox 78 = .ok (.aload_n 0, 1) := by decide +kernel
theorem d_R_unbox_79 : decode b_R_unbox 79 = .ok (.getfield 61, 3) := by decide +kernel
theorem d_R_unbox_82 : decode b_R_unbox 82 = .ok (.iload 4, 2) := by decide +kernel
theorem d_R_unbox_84 : decode b_R_unbox 84 = .ok (.iadd, 1) := by decide +kernel
theorem d_R_unbox_85 : decode b_R_unbox 85 = .ok (.invokevirtual 126, 3) := by decide +kernel
theorem d_R_unbox_88 : decode b_R_unbox 88 = .ok (.iinc 4 1, 3) := by decide +kernel
theorem d_R_unbox_91 : decode b_R_unbox 91 = .ok (.goto (-26), 3) := by decide +kernel
theorem d_R_unbox_94 : decode b_R_unbox 94 = .ok (.aload_n 0, 1) := by decide +kernel
theorem d_R_unbox_95 : decode b_R_unbox 95 = .ok (.dup, 1) := by decide +kernel
theorem d_R_unbox_96 : decode b_R_unbox 96 = .ok (.getfield 61, 3) := by decide +kernel
theorem d_R_unbox_99 : decode b_R_unbox 99 = .ok (.iload_n 3, 1) := by decide +kernel
theorem d_R_unbox_100 : decode b_R_unbox 100 = .ok (.iadd, 1) := by decide +kernel
theorem d_R_unbox_101 : decode b_R_unbox 101 = .ok (.putfield 61, 3) := by decide +kernel
theorem d_R_unbox_104 : decode b_R_unbox 104 = .ok (.aload_n 0, 1) := by decide +kernel
theorem d_R_unbox_105 : decode b_R_unbox 105 = .ok (.iload_n 1, 1) := by decide +kernel
theorem d_R_unbox_106 : decode b_R_unbox 106 = .ok (.invokevirtual 151, 3) := by decide +kernel
theorem d_R_unbox_109 : decode b_R_unbox 109 = .ok (.iconst 1, 1) := by decide +kernel
theorem d_R_unbox_110 : decode b_R_unbox 110 = .ok (.ireturn, 1) := by decide +kernel
end
section
/-! Worlds as functions from addresses to cells; one frame for all contracts: cells from n0 on may change. -/
abbrev zw : Type := Nat → Option va_E
def z_lk (ws : va_W) : zw := fun a => (ws.find? (fun q => q.1 == a)).map (fun q => q.2)
theorem z_lk_of {ws : va_W} {a : Nat} {e : va_E} (h : z_lk ws a = some e) : ∃ k : Nat, ws[k]? = some (a, e) := by
  unfold z_lk at h
  cases hf : ws.find? (fun q => q.1 == a) with
  | none => rw [hf] at h; cases h
  | some q =>
    rw [hf] at h
    have h1 := List.find?_some hf
    have h2 := List.mem_of_find?_eq_some hf
    obtain ⟨k, hk⟩ := List.getElem?_of_mem h2
    refine ⟨k, ?_⟩
    rw [hk]
    obtain ⟨x, y⟩ := q
    have e1 : x = a := by simpa using h1
    have e2 : y = e := by simpa using h
    rw [e1, e2]
theorem z_lk_in {A : Nat → Prop} {ws : va_W} (hD : va_D A ws) {k a : Nat} {e : va_E} (h : ws[k]? = some (a, e)) : z_lk ws a = some e := by
  cases hf : z_lk ws a with
  | none =>
    unfold z_lk at hf
    rw [Option.map_eq_none_iff, List.find?_eq_none] at hf
    have := hf (a, e) (List.mem_of_getElem? h)
    simp at this
  | some e' =>
    obtain ⟨k', hk'⟩ := z_lk_of hf
    have hkk := hD.1 k k' _ _ h hk' rfl
    subst hkk
    rw [h] at hk'
    cases hk'
    rfl
theorem z_lk_none {ws : va_W} {a : Nat} (h : ∀ (k : Nat) (e : va_E), ws[k]? ≠ some (a, e)) : z_lk ws a = none := by
  cases hf : z_lk ws a with
  | none => rfl
  | some e =>
    obtain ⟨k, hk⟩ := z_lk_of hf
    exact absurd hk (h k e)
theorem z_lk_set {A : Nat → Prop} {ws : va_W} (hD : va_D A ws) {k a : Nat} {e0 e : va_E} (h : ws[k]? = some (a, e0)) : z_lk (ws.set k (a, e)) = va_up (z_lk ws) a (some e) := by
  have hD' : va_D A (ws.set k (a, e)) := hD.set h
  have hl := (List.getElem?_eq_some_iff.mp h).1
  funext b
  by_cases hb : b = a
  · subst hb
    rw [va_up_self]
    exact z_lk_in hD' (k := k) (List.getElem?_set_self hl)
  · rw [va_up_ne _ _ hb]
    cases hf : z_lk ws b with
    | none =>
      apply z_lk_none
      intro j x hj
      by_cases hjk : j = k
      · subst hjk
        rw [List.getElem?_set_self hl] at hj
        cases hj
        exact hb rfl
      · rw [List.getElem?_set_ne (Ne.symm hjk)] at hj
        rw [z_lk_in hD hj] at hf
        cases hf
    | some x =>
      obtain ⟨j, hj⟩ := z_lk_of hf
      have hjk : j ≠ k := by
        intro q
        subst q
        rw [h] at hj
        cases hj
        exact hb rfl
      exact z_lk_in hD' (k := j) (by rw [List.getElem?_set_ne (Ne.symm hjk)]; exact hj)
theorem z_lk_push {A : Nat → Prop} {ws : va_W} {q : Nat} {e : va_E} (hD : va_D A (ws ++ [(q, e)])) : z_lk (ws ++ [(q, e)]) = va_up (z_lk ws) q (some e) ∧ z_lk ws q = none := by
  have hDs : va_D A ws := by
    refine ⟨fun i j x y hi hj hxy => hD.1 i j x y ?_ ?_ hxy, fun k x hk => hD.2 k x ?_⟩
    · rw [List.getElem?_append_left (List.getElem?_eq_some_iff.mp hi).1]; exact hi
    · rw [List.getElem?_append_left (List.getElem?_eq_some_iff.mp hj).1]; exact hj
    · rw [List.getElem?_append_left (List.getElem?_eq_some_iff.mp hk).1]; exact hk
  have hq : (ws ++ [(q, e)])[ws.length]? = some (q, e) := by rw [List.getElem?_append_right (Nat.le_refl _), Nat.sub_self]; rfl
  have hno : z_lk ws q = none := by
    apply z_lk_none
    intro k x hk
    have hkl := (List.getElem?_eq_some_iff.mp hk).1
    have := hD.1 k ws.length (q, x) (q, e) (by rw [List.getElem?_append_left hkl]; exact hk) hq rfl
    omega
  refine ⟨?_, hno⟩
  funext b
  by_cases hb : b = q
  · subst hb
    rw [va_up_self]
    exact z_lk_in hD hq
  · rw [va_up_ne _ _ hb]
    cases hf : z_lk ws b with
    | none =>
      apply z_lk_none
      intro j x hj
      by_cases hl : j < ws.length
      · rw [List.getElem?_append_left hl] at hj
        rw [z_lk_in hDs hj] at hf
        cases hf
      · rw [List.getElem?_append_right (by omega)] at hj
        have hz : j - ws.length < 1 := (List.getElem?_eq_some_iff.mp hj).1
        rw [show j - ws.length = 0 by omega] at hj
        cases hj
        exact hb rfl
    | some x =>
      obtain ⟨j, hj⟩ := z_lk_of hf
      exact z_lk_in hD (k := j) (by rw [List.getElem?_append_left (List.getElem?_eq_some_iff.mp hj).1]; exact hj)
/-- the heap holds the world w, all of it in A -/
def Zw (D : va_G) (cl : List vw_C) (A : Nat → Prop) (w : zw) (H : Heap) : Prop := ∃ ws : va_W, va_P D cl ws H ∧ va_D A ws ∧ z_lk ws = w
theorem Zw.at {D : va_G} {cl : List vw_C} {A : Nat → Prop} {w : zw} {H : Heap} (h : Zw D cl A w H) {a : Nat} {e : va_E} (ha : w a = some e) : va_at D cl (a, e) H ∧ A a := by
  obtain ⟨ws, hP, hD, rfl⟩ := h
  obtain ⟨k, hk⟩ := z_lk_of ha
  exact ⟨hP k _ hk, hD.2 k _ hk⟩
theorem Zw.recv {s : State} {D : va_G} {cl : List vw_C} {A : Nat → Prop} {w : zw} {H : Heap} {tys : List (ClassId × FieldType)} {a ci : Nat} {q : vw_C} {fs : List Value} (h : Zw D cl A w H) (hK : va_K D cl tys s) (hc : cl[ci]? = some q) (ha : w a = some (.inr (ci, fs))) : ∃ cell : Cell, H[a]? = some cell ∧ cell.vm.isStatics = false ∧ s.vm.findClass q.1 = some cell.cls := by
  obtain ⟨ws, hP, hD, rfl⟩ := h
  obtain ⟨k, hk⟩ := z_lk_of ha
  exact va_recv hK hP hc hk
theorem z_cA {s : State} {D : va_G} {cl : List vw_C} {tys : List (ClassId × FieldType)} {t0 : Nat} {cA cA' : ClassId} {ty : FieldType} (hK : va_K D cl tys s) (ht : tys[t0]? = some (cA, ty)) (hK' : va_K D cl (tys ++ [(cA', ty)]) s) : cA' = cA := by
  have h1 := (hK.2 t0 _ ht).2
  have h2 := (hK'.2 tys.length (cA', ty) (by rw [List.getElem?_append_right (Nat.le_refl _), Nat.sub_self]; rfl)).2
  cases ty with
  | object C =>
    obtain ⟨_, _, _, _, _, h1⟩ := h1
    obtain ⟨_, _, _, _, _, h2⟩ := h2
    exact Option.some.inj (h2.symm.trans h1)
  | _ => exact Option.some.inj (h2.symm.trans h1)
section ZR
variable {p : Program} {l : Launch} {e : Env} {R : Room} {s : State} {m : MethodId} {args : Array Value} {below : List Frame} {meth : Method} {c : Code} {H : Heap} {locs : List Loc} {cells slots : Nat} {Q : State → Prop}
variable {cc : ByteArray} {pc : Nat} {ls : Array Slot} {rest : List Value} {D : va_G} {cl : List vw_C} {A : Nat → Prop} {a : Nat} {tys : List (ClassId × FieldType)} {w : zw} {H0 : Heap}
theorem z_get (hexec : p.tables.exec = Jvm.exec) (hb : c.code = cc) {own ref C : String} {T : u_T} {N ci index : Nat} {Ts : List Cond} (hts : ∀ w ∈ Ts, w.before args s = true) (hin : ∀ w ∈ u_ws C T N, w ∈ Ts) (hown : s.vm.findClass own = some m.cls) (hK : va_K D cl tys s) (hZ : Zw D cl A w H) {fs : List Value} (he : w a = some (.inr (ci, fs))) (hc : cl[ci]? = some (C, T, N)) (k : Nat) (hk : k < N) (hlink : (Cond.fieldLink own index ref (T k).2.1 (T k).2.2.1).before args s = true) (hsame : ∀ x, s.fieldFound? (T k).1 (T k).2.1 (T k).2.2.1 = some x → s.fieldFound? ref (T k).2.1 (T k).2.2.1 = some x) {v : Value} (hv : fs[k]? = some v) (hdg : decode cc pc = .ok (.getfield index, 3))
    (kk : W p l e R s m args below meth c H locs cells slots Q (F0 m (pc + 3) ls (v :: rest))) : W p l e R s m args below meth c H locs cells slots Q (F0 m pc ls (.ref a :: rest)) := by
  obtain ⟨ws, hP, hD, rfl⟩ := hZ
  obtain ⟨q0, hq⟩ := z_lk_of he
  exact va_get hexec hb hts hin hown hK hP q0 hq hc k hk hlink hsame hv hdg kk
theorem z_put (hexec : p.tables.exec = Jvm.exec) (hb : c.code = cc) {own ref C : String} {T : u_T} {N ci index : Nat} {Ts : List Cond} (hts : ∀ w ∈ Ts, w.before args s = true) (hin : ∀ w ∈ u_ws C T N, w ∈ Ts) (ty0 : Nat → FieldType) (hty : ∀ k, k < N → parseFieldDescriptor (T k).2.2.1 = some (ty0 k)) (hnm : ∀ a, a < N → ∀ b, b < N → a ≠ b → (T a).2.1 ≠ (T b).2.1) (hown : s.vm.findClass own = some m.cls) (hK : va_K D cl tys s) (hZ : Zw D cl A w H) (hS0 : va_S A H0 H locs) {fs : List Value} (he : w a = some (.inr (ci, fs))) (hc : cl[ci]? = some (C, T, N)) (k : Nat) (hk : k < N) (hlink : (Cond.fieldLink own index ref (T k).2.1 (T k).2.2.1).before args s = true) (hsame : ∀ x, s.fieldFound? (T k).1 (T k).2.1 (T k).2.2.1 = some x → s.fieldFound? ref (T k).2.1 (T k).2.2.1 = some x) (hfin : (T k).2.2.2 = false) {ty : FieldType} {v : Value} (hd : parseFieldDescriptor (T k).2.2.1 = some ty) (hn : narrow ty v = v) (hfit : fits ty v = true) (hl : k < fs.length)
    (hdg : decode cc pc = .ok (.putfield index, 3)) (kk : ∀ (H1 : Heap) (locs1 : List Loc), Zw D cl A (va_up w a (some (.inr (ci, fs.set k v)))) H1 → va_S A H0 H1 locs1 → W p l e R s m args below meth c H1 locs1 cells slots Q (F0 m (pc + 3) ls rest)) : W p l e R s m args below meth c H locs cells slots Q (F0 m pc ls (v :: .ref a :: rest)) := by
  obtain ⟨ws, hP, hD, rfl⟩ := hZ
  obtain ⟨q0, hq⟩ := z_lk_of he
  exact va_put hexec hb hts hin ty0 hty hnm hown hK hP hD hS0 q0 hq hc k hk hlink hsame hfin hd hn hfit hl hdg (fun H1 locs1 hP1 hD1 hS1 => kk H1 locs1 ⟨_, hP1, hD1, z_lk_set hD hq⟩ hS1)
theorem z_putF (hexec : p.tables.exec = Jvm.exec) (hb : c.code = cc) {own ref C : String} {T : u_T} {N ci index : Nat} {Ts : List Cond} (hts : ∀ w ∈ Ts, w.before args s = true) (hin : ∀ w ∈ u_ws C T N, w ∈ Ts) (ty0 : Nat → FieldType) (hty : ∀ k, k < N → parseFieldDescriptor (T k).2.2.1 = some (ty0 k)) (hnm : ∀ a, a < N → ∀ b, b < N → a ≠ b → (T a).2.1 ≠ (T b).2.1) (hown : s.vm.findClass own = some m.cls) (hK : va_K D cl tys s) (hZ : Zw D cl A w H) (hS0 : va_S A H0 H locs) {fs : List Value} (he : w a = some (.inr (ci, fs))) (hc : cl[ci]? = some (C, T, N)) (k : Nat) (hk : k < N) (hlink : (Cond.fieldLink own index ref (T k).2.1 (T k).2.2.1).before args s = true) (hsame : ∀ x, s.fieldFound? (T k).1 (T k).2.1 (T k).2.2.1 = some x → s.fieldFound? ref (T k).2.1 (T k).2.2.1 = some x) (hfin : (T k).2.2.2 = true) (hin2 : meth.name = "<init>") (hdecl : (T k).1 = own) {ty : FieldType} {v : Value} (hd : parseFieldDescriptor (T k).2.2.1 = some ty) (hn : narrow ty v = v) (hfit : fits ty v = true) (hl : k < fs.length)
    (hdg : decode cc pc = .ok (.putfield index, 3)) (kk : ∀ (H1 : Heap) (locs1 : List Loc), Zw D cl A (va_up w a (some (.inr (ci, fs.set k v)))) H1 → va_S A H0 H1 locs1 → W p l e R s m args below meth c H1 locs1 cells slots Q (F0 m (pc + 3) ls rest)) : W p l e R s m args below meth c H locs cells slots Q (F0 m pc ls (v :: .ref a :: rest)) := by
  obtain ⟨ws, hP, hD, rfl⟩ := hZ
  obtain ⟨q0, hq⟩ := z_lk_of he
  exact va_putF hexec hb hts hin ty0 hty hnm hown hK hP hD hS0 q0 hq hc k hk hlink hsame hfin hin2 hdecl hd hn hfit hl hdg (fun H1 locs1 hP1 hD1 hS1 => kk H1 locs1 ⟨_, hP1, hD1, z_lk_set hD hq⟩ hS1)
theorem z_new {own C : String} {T : u_T} {N ci index : Nat} {Ts : List Cond} (hexec : p.tables.exec = Jvm.exec) (hb : c.code = cc) (hts : ∀ w ∈ Ts, w.before args s = true) (hin : ∀ w ∈ u_ws C T N, w ∈ Ts) (ty : Nat → FieldType) (hty : ∀ k, k < N → parseFieldDescriptor (T k).2.2.1 = some (ty k)) (hown : s.vm.findClass own = some m.cls) (hcl : (Cond.classLink own index C).before args s = true) (hinst : (Cond.instantiable C N).before args s = true) (hini : (Cond.initialized C).before args s = true)
    (hK : va_K D cl tys s) (hZ : Zw D cl A w H) (hS : va_S A H0 H locs) (hA : ∀ q, H0.size ≤ q → A q) (hc : cl[ci]? = some (C, T, N)) {fs : List Value} (hfs : ∀ j, j < N → defaultValue (ty j) = vp_V fs j) (hcells : cells + 1 ≤ R.cells) (hslots : slots + N ≤ R.slots) (hdg : decode cc pc = .ok (.new index, 3))
    (kk : ∀ (q : Nat) (H1 : Heap), w q = none → Zw D cl A (va_up w q (some (.inr (ci, fs)))) H1 → va_S A H0 H1 locs →
      W p l e R s m args below meth c H1 locs (cells + 1) (slots + N) Q (F0 m (pc + 3) ls (.ref q :: rest))) : W p l e R s m args below meth c H locs cells slots Q (F0 m pc ls rest) := by
  obtain ⟨ws, hP, hD, rfl⟩ := hZ
  exact va_new hexec hb hts hin ty hty hown hcl hinst hini hK hP hD hS hA hc hfs hcells hslots hdg (fun q H1 hP1 hD1 hS1 => kk q H1 (z_lk_push hD1).2 ⟨_, hP1, hD1, (z_lk_push hD1).1⟩ hS1)
theorem z_newa (hexec : p.tables.exec = Jvm.exec) (hb : c.code = cc) {atype : ArrayType} (harr : (Cond.arrayClass (newarray.typeOf atype)).before args s = true) {ty : FieldType} (hty : newarray.typeOf atype = ty) (hK : va_K D cl tys s) (hZ : Zw D cl A w H) (hS : va_S A H0 H locs) (hA : ∀ q, H0.size ≤ q → A q) (t0 : Nat) {cA : ClassId} (ht : tys[t0]? = some (cA, ty))
    {n : Int32} {N' : Nat} {a0 : vp_A} (ha : ∀ cA : ClassId, vp_cell cA a0 = arrV cA N' (fun _ => defaultValue ty)) (hn : ¬ n < 0) (hN : n.toNatClampNeg = N') (hbytes : N' * componentBytes ty ≤ 536870912) (hcells : cells + 1 ≤ R.cells) (hslots : slots + N' ≤ R.slots) (hdg : decode cc pc = .ok (.newarray atype, 2))
    (kk : ∀ (q : Nat) (H1 : Heap), w q = none → Zw D cl A (va_up w q (some (.inl (cA, a0)))) H1 → va_S A H0 H1 locs →
      W p l e R s m args below meth c H1 locs (cells + 1) (slots + N') Q (F0 m (pc + 2) ls (.ref q :: rest))) : W p l e R s m args below meth c H locs cells slots Q (F0 m pc ls (.int n :: rest)) := by
  obtain ⟨ws, hP, hD, rfl⟩ := hZ
  refine va_newa hexec hb harr hty hK hP hD hS hA ha hn hN hbytes hcells hslots hdg (fun q cA' H1 hK1 hP1 hD1 hS1 => ?_)
  cases z_cA hK ht hK1
  exact kk q H1 (z_lk_push hD1).2 ⟨_, hP1, hD1, (z_lk_push hD1).1⟩ hS1
theorem z_newq (hexec : p.tables.exec = Jvm.exec) (hb : c.code = cc) {own C : String} {index : Nat} (hown : s.vm.findClass own = some m.cls) (hclink : (Cond.classLink own index C).before args s = true) (hover : va_AO C s) (hK : va_K D cl tys s) (hZ : Zw D cl A w H) (hS : va_S A H0 H locs) (hA : ∀ q, H0.size ≤ q → A q) (t0 : Nat) {cA : ClassId} (ht : tys[t0]? = some (cA, .object C))
    {n : Int32} {N' : Nat} (hn : ¬ n < 0) (hN : n.toNatClampNeg = N') (hbytes : N' * 4 ≤ 536870912) (hcells : cells + 1 ≤ R.cells) (hslots : slots + N' ≤ R.slots) (hdg : decode cc pc = .ok (.anewarray index, 3))
    (kk : ∀ (q : Nat) (H1 : Heap), w q = none → Zw D cl A (va_up w q (some (.inl (cA, N', .inr (.inr (.inr (.inr (fun _ => none)))))))) H1 → va_S A H0 H1 locs →
      W p l e R s m args below meth c H1 locs (cells + 1) (slots + N') Q (F0 m (pc + 3) ls (.ref q :: rest))) : W p l e R s m args below meth c H locs cells slots Q (F0 m pc ls (.int n :: rest)) := by
  obtain ⟨ws, hP, hD, rfl⟩ := hZ
  refine va_newq hexec hb hown hclink hover hK hP hD hS hA hn hN hbytes hcells hslots hdg (fun q cA' H1 hK1 hP1 hD1 hS1 => ?_)
  cases z_cA hK ht hK1
  exact kk q H1 (z_lk_push hD1).2 ⟨_, hP1, hD1, (z_lk_push hD1).1⟩ hS1
theorem z_iald (hexec : p.tables.exec = Jvm.exec) (hb : c.code = cc) (hK : va_K D cl tys s) (hZ : Zw D cl A w H) (t0 : Nat) {cA : ClassId} {n : Nat} {f : Nat → Int32} (ha : w a = some (.inl (cA, n, .inl f))) (ht : tys[t0]? = some (cA, .int)) {i : Int32} (hin : vp_in i n) (hdg : decode cc pc = .ok (.iaload, 1))
    (kk : W p l e R s m args below meth c H locs cells slots Q (F0 m (pc + 1) ls (.int (f i.toNatClampNeg) :: rest))) : W p l e R s m args below meth c H locs cells slots Q (F0 m pc ls (.int i :: .ref a :: rest)) := by
  obtain ⟨ws, hP, hD, rfl⟩ := hZ
  obtain ⟨q0, hq⟩ := z_lk_of ha
  exact va_iald hexec hb hK hP q0 t0 hq ht hin hdg kk
theorem z_lald (hexec : p.tables.exec = Jvm.exec) (hb : c.code = cc) (hK : va_K D cl tys s) (hZ : Zw D cl A w H) (t0 : Nat) {cA : ClassId} {n : Nat} {f : Nat → Int64} (ha : w a = some (.inl (cA, n, .inr (.inl f)))) (ht : tys[t0]? = some (cA, .long)) {i : Int32} (hin : vp_in i n) (hdg : decode cc pc = .ok (.laload, 1))
    (kk : W p l e R s m args below meth c H locs cells slots Q (F0 m (pc + 1) ls (.long (f i.toNatClampNeg) :: rest))) : W p l e R s m args below meth c H locs cells slots Q (F0 m pc ls (.int i :: .ref a :: rest)) := by
  obtain ⟨ws, hP, hD, rfl⟩ := hZ
  obtain ⟨q0, hq⟩ := z_lk_of ha
  exact va_lald hexec hb hK hP q0 t0 hq ht hin hdg kk
theorem z_aald (hexec : p.tables.exec = Jvm.exec) (hb : c.code = cc) (hK : va_K D cl tys s) (hZ : Zw D cl A w H) (t0 : Nat) {cA : ClassId} {C : String} {n : Nat} {f : Nat → Option Nat} (ha : w a = some (.inl (cA, n, .inr (.inr (.inr (.inr f)))))) (ht : tys[t0]? = some (cA, .object C)) {i : Int32} (hin : vp_in i n) (hdg : decode cc pc = .ok (.aaload, 1))
    (kk : W p l e R s m args below meth c H locs cells slots Q (F0 m (pc + 1) ls (va_rf (f i.toNatClampNeg) :: rest))) : W p l e R s m args below meth c H locs cells slots Q (F0 m pc ls (.int i :: .ref a :: rest)) := by
  obtain ⟨ws, hP, hD, rfl⟩ := hZ
  obtain ⟨q0, hq⟩ := z_lk_of ha
  exact va_aldq hexec hb hK hP q0 t0 hq ht hin hdg kk
theorem z_iast (hexec : p.tables.exec = Jvm.exec) (hb : c.code = cc) (hK : va_K D cl tys s) (hZ : Zw D cl A w H) (hS : va_S A H0 H locs) (t0 : Nat) {cA : ClassId} {n : Nat} {f : Nat → Int32} (ha : w a = some (.inl (cA, n, .inl f))) (ht : tys[t0]? = some (cA, .int)) {i : Int32} {x : Int32} (hin : vp_in i n) (hdg : decode cc pc = .ok (.iastore, 1))
    (kk : ∀ (H1 : Heap) (locs1 : List Loc), Zw D cl A (va_up w a (some (.inl (cA, n, .inl (upd f i.toNatClampNeg x))))) H1 → va_S A H0 H1 locs1 → W p l e R s m args below meth c H1 locs1 cells slots Q (F0 m (pc + 1) ls rest)) : W p l e R s m args below meth c H locs cells slots Q (F0 m pc ls (.int x :: .int i :: .ref a :: rest)) := by
  obtain ⟨ws, hP, hD, rfl⟩ := hZ
  obtain ⟨q0, hq⟩ := z_lk_of ha
  exact va_iast hexec hb hK hP hD hS q0 t0 hq ht hin hdg (fun H1 locs1 hP1 hD1 hS1 => kk H1 locs1 ⟨_, hP1, hD1, z_lk_set hD hq⟩ hS1)
theorem z_last (hexec : p.tables.exec = Jvm.exec) (hb : c.code = cc) (hK : va_K D cl tys s) (hZ : Zw D cl A w H) (hS : va_S A H0 H locs) (t0 : Nat) {cA : ClassId} {n : Nat} {f : Nat → Int64} (ha : w a = some (.inl (cA, n, .inr (.inl f)))) (ht : tys[t0]? = some (cA, .long)) {i : Int32} {x : Int64} (hin : vp_in i n) (hdg : decode cc pc = .ok (.lastore, 1))
    (kk : ∀ (H1 : Heap) (locs1 : List Loc), Zw D cl A (va_up w a (some (.inl (cA, n, .inr (.inl (vp_updL f i.toNatClampNeg x)))))) H1 → va_S A H0 H1 locs1 → W p l e R s m args below meth c H1 locs1 cells slots Q (F0 m (pc + 1) ls rest)) : W p l e R s m args below meth c H locs cells slots Q (F0 m pc ls (.long x :: .int i :: .ref a :: rest)) := by
  obtain ⟨ws, hP, hD, rfl⟩ := hZ
  obtain ⟨q0, hq⟩ := z_lk_of ha
  exact va_last hexec hb hK hP hD hS q0 t0 hq ht hin hdg (fun H1 locs1 hP1 hD1 hS1 => kk H1 locs1 ⟨_, hP1, hD1, z_lk_set hD hq⟩ hS1)
theorem z_aast (hexec : p.tables.exec = Jvm.exec) (hb : c.code = cc) (hK : va_K D cl tys s) (hZ : Zw D cl A w H) (hS : va_S A H0 H locs) (t0 ci : Nat) {cA : ClassId} {r : vw_C} {n v : Nat} {vs : List Value} {f : Nat → Option Nat} (ha : w a = some (.inl (cA, n, .inr (.inr (.inr (.inr f)))))) (ht : tys[t0]? = some (cA, .object r.1)) (hv : w v = some (.inr (ci, vs))) (hc : cl[ci]? = some r) {i : Int32} (hin : vp_in i n) (hdg : decode cc pc = .ok (.aastore, 1))
    (kk : ∀ (H1 : Heap) (locs1 : List Loc), Zw D cl A (va_up w a (some (.inl (cA, n, .inr (.inr (.inr (.inr (va_up f i.toNatClampNeg (some v))))))))) H1 → va_S A H0 H1 locs1 → W p l e R s m args below meth c H1 locs1 cells slots Q (F0 m (pc + 1) ls rest)) : W p l e R s m args below meth c H locs cells slots Q (F0 m pc ls (.ref v :: .int i :: .ref a :: rest)) := by
  obtain ⟨ws, hP, hD, rfl⟩ := hZ
  obtain ⟨q0, hq⟩ := z_lk_of ha
  obtain ⟨qk, hqk⟩ := z_lk_of hv
  exact va_astq hexec hb hK hP hD hS q0 t0 qk ci hq ht hqk hc hin hdg (fun H1 locs1 hP1 hD1 hS1 => kk H1 locs1 ⟨_, hP1, hD1, z_lk_set hD hq⟩ hS1)
theorem z_aastO (hexec : p.tables.exec = Jvm.exec) (hb : c.code = cc) (hK : va_K D cl tys s) (hZ : Zw D cl A w H) (hS : va_S A H0 H locs) (t0 ci : Nat) {E : String} {cA : ClassId} {r : vw_C} {n v : Nat} {vs : List Value} {f : Nat → Option Nat} (ha : w a = some (.inl (cA, n, .inr (.inr (.inr (.inr f)))))) (ht : tys[t0]? = some (cA, .object E)) (hca : va_Nw (.castable r.1 E) s) (hv : w v = some (.inr (ci, vs))) (hc : cl[ci]? = some r) {i : Int32} (hin : vp_in i n) (hdg : decode cc pc = .ok (.aastore, 1))
    (kk : ∀ (H1 : Heap) (locs1 : List Loc), Zw D cl A (va_up w a (some (.inl (cA, n, .inr (.inr (.inr (.inr (va_up f i.toNatClampNeg (some v))))))))) H1 → va_S A H0 H1 locs1 → W p l e R s m args below meth c H1 locs1 cells slots Q (F0 m (pc + 1) ls rest)) : W p l e R s m args below meth c H locs cells slots Q (F0 m pc ls (.ref v :: .int i :: .ref a :: rest)) := by
  obtain ⟨ws, hP, hD, rfl⟩ := hZ
  obtain ⟨q0, hq⟩ := z_lk_of ha
  obtain ⟨qk, hqk⟩ := z_lk_of hv
  exact va_astqO hexec hb hK hP hD hS q0 t0 qk ci hq ht hca hqk hc hin hdg (fun H1 locs1 hP1 hD1 hS1 => kk H1 locs1 ⟨_, hP1, hD1, z_lk_set hD hq⟩ hS1)
theorem z_aastN (hexec : p.tables.exec = Jvm.exec) (hb : c.code = cc) (hK : va_K D cl tys s) (hZ : Zw D cl A w H) (hS : va_S A H0 H locs) (t0 : Nat) {cA : ClassId} {C : String} {n : Nat} {f : Nat → Option Nat} (ha : w a = some (.inl (cA, n, .inr (.inr (.inr (.inr f)))))) (ht : tys[t0]? = some (cA, .object C)) {i : Int32} (hin : vp_in i n) (hdg : decode cc pc = .ok (.aastore, 1))
    (kk : ∀ (H1 : Heap) (locs1 : List Loc), Zw D cl A (va_up w a (some (.inl (cA, n, .inr (.inr (.inr (.inr (va_up f i.toNatClampNeg none)))))))) H1 → va_S A H0 H1 locs1 → W p l e R s m args below meth c H1 locs1 cells slots Q (F0 m (pc + 1) ls rest)) : W p l e R s m args below meth c H locs cells slots Q (F0 m pc ls (.null :: .int i :: .ref a :: rest)) := by
  obtain ⟨ws, hP, hD, rfl⟩ := hZ
  obtain ⟨q0, hq⟩ := z_lk_of ha
  exact va_astqN hexec hb hK hP hD hS q0 t0 hq ht hin hdg (fun H1 locs1 hP1 hD1 hS1 => kk H1 locs1 ⟨_, hP1, hD1, z_lk_set hD hq⟩ hS1)
theorem z_alen (hexec : p.tables.exec = Jvm.exec) (hb : c.code = cc) (hK : va_K D cl tys s) (hZ : Zw D cl A w H) (t0 : Nat) {cA : ClassId} {x : vp_A} (ha : w a = some (.inl (cA, x))) {ty : FieldType} (ht : tys[t0]? = some (cA, ty)) {v : Int32} (hv : Int32.ofNat x.1 = v) (hdg : decode cc pc = .ok (.arraylength, 1))
    (kk : W p l e R s m args below meth c H locs cells slots Q (F0 m (pc + 1) ls (.int v :: rest))) : W p l e R s m args below meth c H locs cells slots Q (F0 m pc ls (.ref a :: rest)) := by
  obtain ⟨ws, hP, hD, rfl⟩ := hZ
  obtain ⟨q0, hq⟩ := z_lk_of ha
  exact va_alen hexec hb hK hP q0 t0 hq ht hv hdg kk
end ZR
/-- what a method may change: cells from n0 on -/
def zA (n0 : Nat) : Nat → Prop := fun q => n0 ≤ q
/-- a contract's start: the arguments av, the world w, the tables; X: what else the tables and old cells say -/
def zP (D : va_G) (cl : List vw_C) (tys : List (ClassId × FieldType)) (n0 : Nat) (X : State → Prop) (av : List Value) (w : zw) : Array Value → State → Prop := va_Pc av (fun U => n0 ≤ U.heap.size ∧ Zw D cl (zA n0) w U.heap ∧ va_K D cl tys U ∧ X U)
/-- its end: an answer and a world with post; no old cell below n0 has changed -/
def zQ (D : va_G) (cl : List vw_C) (n0 : Nat) (post : Option Value → zw → Prop) : Array Value → State → Outcome → State → Prop := fun _ st oc t => (∃ (v : Option Value) (w1 : zw), oc = .returned v ∧ post v w1 ∧ Zw D cl (zA n0) w1 t.heap) ∧ va_F (zA n0) st t
theorem zP_blind {D : va_G} {cl : List vw_C} {tys : List (ClassId × FieldType)} {n0 : Nat} {X : State → Prop} {av : List Value} {w : zw} (hX : ∀ (a : Array Value) (U : State) (g : JFrame) (mk : MethodId), X U → X (U.calling g mk a)) : FrameBlind (zP D cl tys n0 X av w) := by
  intro a U g mk h
  obtain ⟨h1, h2, h3, h4, h5⟩ := h
  exact ⟨h1, h2, h3, va_K.moved (u := U) (U := U.calling g mk a) (Vm.Alike.refl U.vm) h4, hX a U g mk h5⟩
section ZC
variable {p : Program} {l : Launch} {e : Env} {R : Room} {s : State} {m : MethodId} {args : Array Value} {below : List Frame} {meth : Method} {c : Code} {H : Heap} {locs : List Loc} {cells slots : Nat} {Q : State → Prop}
variable {cc : ByteArray} {pc : Nat} {ls : Array Slot} {rest st0 : List Value} {D : va_G} {cl : List vw_C} {tys : List (ClassId × FieldType)} {n0 : Nat} {w : zw} {H0 : Heap} {X : State → Prop} {post : Option Value → zw → Prop} {mc ms : Nat}
theorem z_preU {av : List Value} (hS : n0 ≤ H.size) (hZ : Zw D cl (zA n0) w H) (hK : va_K D cl tys s) (hX : ∀ U : State, U.heap = H → s.WarmedH U.vm → X U) : ∀ U : State, U.heap = H → s.WarmedH U.vm → zP D cl tys n0 X av w av.toArray U := by
  intro U hU hW
  exact ⟨rfl, by rw [hU]; exact hS, by rw [hU]; exact hZ, va_K.moved hW.alike hK, hX U hU hW⟩
/-- behind a call -/
theorem z_call {a : Array Value} (hr : va_Run p l e R s m args below meth c H locs cells slots mc ms (F0 m pc ls st0) rest (zQ D cl n0 post a) (zA n0)) (hS : va_S (zA n0) H0 H locs)
    (kk : ∀ (v : Option Value) (w1 : zw) (H1 : Heap) (locs1 : List Loc), post v w1 → Zw D cl (zA n0) w1 H1 → va_S (zA n0) H0 H1 locs1 → W p l e R s m args below meth c H1 locs1 (cells + mc) (slots + ms) Q (F0 m (pc + 3) ls (v.toList ++ rest))) : W p l e R s m args below meth c H locs cells slots Q (F0 m pc ls st0) := by
  intro T hT X
  obtain ⟨v, st₀, t, T', L, h0, X', hL, e1, e2, ⟨⟨v', w1, hv, hp, hb⟩, hz, hk⟩, st⟩ := hr T hT X
  cases hv
  rw [h0] at hz hk
  obtain ⟨t2, a1, b1⟩ := kk v w1 T'.heap (locs ++ L) hp (by rw [e1]; exact hb)
    ⟨Nat.le_trans hS.1 (by rw [e1]; exact hz), fun q h1 h2 => by rw [e1, hk q (Nat.lt_of_lt_of_le h1 hS.1) h2]; exact hS.2.1 q h1 h2, fun q hq => by
      rcases List.mem_append.mp hq with h | h
      · exact hS.2.2 q h
      · exact hL q h⟩ T' rfl X'
  exact ⟨t2, st t2 a1, b1⟩
theorem z_qc {v : Option Value} (hS : va_S (zA n0) s.heap H locs) (hZ : Zw D cl (zA n0) w H) (hp : post v w) : ∀ t : State, t.heap = H → s.WarmedH t.vm → zQ D cl n0 post args s (.returned v) t := by
  intro t ht _
  exact ⟨⟨v, w, rfl, hp, by rw [ht]; exact hZ⟩, hS.F ht⟩
theorem z_iret {v : Int32} (hexec : p.tables.exec = Jvm.exec) (hb : c.code = cc) (hr : meth.sig.returnType = some .int) (hlocks : meth.locks = false) (hS : va_S (zA n0) s.heap H locs) (hZ : Zw D cl (zA n0) w H) (hcs : cells ≤ mc ∧ slots ≤ ms) (hdg : decode cc pc = .ok (.ireturn, 1)) (hp : post (some (.int v)) w) : W p l e R s m args below meth c H locs cells slots (MQ below (zQ D cl n0 post) args s mc ms (zA n0)) (F0 m pc ls [.int v]) :=
  W.widen hcs.1 hcs.2 (W.iret hexec hb hr (z_qc hS hZ hp) hS.2.2 hdg hlocks)
theorem z_zret {v : Int32} {ty : FieldType} (hexec : p.tables.exec = Jvm.exec) (hb : c.code = cc) (hr : meth.sig.returnType = some ty) (hlocks : meth.locks = false) (hn : narrow ty (.int v) = .int v) (hS : va_S (zA n0) s.heap H locs) (hZ : Zw D cl (zA n0) w H) (hcs : cells ≤ mc ∧ slots ≤ ms) (hdg : decode cc pc = .ok (.ireturn, 1)) (hp : post (some (.int v)) w) : W p l e R s m args below meth c H locs cells slots (MQ below (zQ D cl n0 post) args s mc ms (zA n0)) (F0 m pc ls [.int v]) :=
  W.widen hcs.1 hcs.2 (W.zret hexec hb hr hn (z_qc hS hZ hp) hS.2.2 hdg hlocks)
theorem z_vret (hexec : p.tables.exec = Jvm.exec) (hb : c.code = cc) (hr : meth.sig.returnType = none) (hlocks : meth.locks = false) (hS : va_S (zA n0) s.heap H locs) (hZ : Zw D cl (zA n0) w H) (hcs : cells ≤ mc ∧ slots ≤ ms) (hdg : decode cc pc = .ok (.return_, 1)) (hp : post none w) : W p l e R s m args below meth c H locs cells slots (MQ below (zQ D cl n0 post) args s mc ms (zA n0)) (F0 m pc ls []) :=
  W.widen hcs.1 hcs.2 (W.vret hexec hb hr (z_qc hS hZ hp) hS.2.2 hdg hlocks)
theorem z_aret {v : Value} {rt : FieldType} (hexec : p.tables.exec = Jvm.exec) (hb : c.code = cc) (hr : meth.sig.returnType = some rt) (hlocks : meth.locks = false) (hrt : (∃ n, rt = .object n) ∨ ∃ t, rt = .array t) (hv : v = .null ∨ ∃ a, v = .ref a) (hS : va_S (zA n0) s.heap H locs) (hZ : Zw D cl (zA n0) w H) (hcs : cells ≤ mc ∧ slots ≤ ms) (hdg : decode cc pc = .ok (.areturn, 1)) (hp : post (some v) w) : W p l e R s m args below meth c H locs cells slots (MQ below (zQ D cl n0 post) args s mc ms (zA n0)) (F0 m pc ls [v]) :=
  W.widen hcs.1 hcs.2 (W.aret hexec hb hr hrt hv (z_qc hS hZ hp) hS.2.2 hdg hlocks)
end ZC
/-- a contract out of a walk -/
theorem z_met {l : Launch} {y : MethodName} {ws ws' : List Cond} {rm : Room} {cc : ByteArray} {maxL : Nat} {ret : Option FieldType} {D : va_G} {cl : List vw_C} {tys : List (ClassId × FieldType)} {n0 : Nat} {X : State → Prop} {av : List Value} {w : zw} {post : Option Value → zw → Prop} {mc ms : Nat}
    (hy : plainName y.cls = true) (hw : ws = Cond.code y cc maxL ret :: ws') (hlen : (lg_sl av).length ≤ maxL)
    (body : ∀ (p : Program) (e : Env) (s : State) (m : MethodId) (below : List Frame) (meth : Method) (c : Code) (ls : Array Slot), p.tables.exec = Jvm.exec → c.code = cc → meth.sig.returnType = ret → (∀ w ∈ ws, w.before av.toArray s = true) → s.vm.findClass y.cls = some m.cls → meth.locks = false → meth.name = y.name → c.maxLocals = maxL → (∀ q, s.heap.size ≤ q → zA n0 q) → Zw D cl (zA n0) w s.heap → va_K D cl tys s → X s → va_S (zA n0) s.heap s.heap [] → lv_has ls maxL (lv_args 0 av) →
      W p l e rm s m av.toArray below meth c s.heap [] 0 0 (MQ below (zQ D cl n0 post) av.toArray s mc ms (zA n0)) (F0 m 0 ls [])) :
    Met l y ws rm (zP D cl tys n0 X av w) (zQ D cl n0 post) mc ms (zA n0) := by
  refine Met.ofW (cc := cc) (maxL := maxL) (ret := ret) hy hw ?_
  intro p e s m args below meth c s₁ B hml hv
  obtain ⟨rfl, hn0, hZ, hK, hX⟩ := hv
  have hl := lv_entry av (n := maxL) hlen
  rw [lg_entry_eq]
  exact body p e s m below meth c _ B.exec B.bytes B.returns (atoms_spec (ws := ws) B.pre) (findClass_of_methodNamed B.named) B.notSynchronized (name_of_methodNamed B.named B.method).1 hml (fun q h => Nat.le_trans hn0 h) hZ hK hX va_S.rf hl
/-! calls -/
theorem z_cb {R : Room} {s : State} {args : Array Value} {own : String} {index : Nat} {y : MethodName} {cy : ByteArray} {ny : Nat} {ry : Option FieldType} {rm : Room} {mc ms : Nat} (n : Nat) (hTB : ∀ w ∈ TB, w.before args s = true) (hy : Cond.code y cy ny ry ∈ TB) (hini : Cond.initialized y.cls ∈ TB) (hl : Cond.methodLink own index y ∈ TB)
    (hd : y.cls ≠ "java/lang/invoke/MethodHandle" ∧ y.cls ≠ "java/lang/invoke/VarHandle" ∧ (parseMethodDescriptor y.desc).map (fun d => d.parameters.length) = some n) (hrm : rm.cells = mc ∧ rm.slots = ms) (hR : rm.frames + 1 ≤ R.frames ∧ 8 + (ny + 11) + rm.locals ≤ R.locals) :
    CallB R s args own index y cy ny ry (zws y cy ny ry) rm mc ms n := callB_of n hTB (zws_good hy) rfl hrm.1 hrm.2 (hTB _ hini) (hTB _ hl) hd hR
abbrev zG : Type := va_G × (Nat → ClassId)
/-- the tables' facts beside the good words, the one static that lists read, the class object of Object[] -/
def zX (G : zG) (n0 e0 : Nat) (U : State) : Prop := (∀ w ∈ NB, va_Nw w U) ∧ va_Z "java/util/ArrayList" "DEFAULTCAPACITY_EMPTY_ELEMENTDATA" "[Ljava/lang/Object;" (.ref e0) (zA n0) U U.heap ∧ va_T (.object "java/lang/Object") e0 0 (fun _ => .null) (zA n0) U U.heap ∧ va_Mi "[Ljava/lang/Object;" (G.2 6) U ∧ va_Dc U
theorem zX.blind {G : zG} {n0 e0 : Nat} (a : Array Value) (U : State) (g : JFrame) (mk : MethodId) (h : zX G n0 e0 U) : zX G n0 e0 (U.calling g mk a) := by
  obtain ⟨h1, h2, h3, h4, h5⟩ := h
  exact ⟨fun w hw => nb_warm (NB_lw w hw).2 (s := U) (U := U.calling g mk a) (State.WarmedH.refl U) (h1 w hw), va_Z.moved (u := U) (U := U.calling g mk a) (Vm.Alike.refl U.vm) h2, va_T.moved (u := U) (U := U.calling g mk a) (Vm.Alike.refl U.vm) h3, va_Mi.moved (u := U) (U := U.calling g mk a) (Vm.Alike.refl U.vm) h4, va_Dc.moved (u := U) (U := U.calling g mk a) (Vm.Alike.refl U.vm) h5⟩
theorem zX.warm {G : zG} {n0 e0 : Nat} {s U : State} {H : Heap} {locs : List Loc} (h : zX G n0 e0 s) (hS : va_S (zA n0) s.heap H locs) (hU : U.heap = H) (hW : s.WarmedH U.vm) : zX G n0 e0 U := by
  obtain ⟨h1, h2, h3, h4, h5⟩ := h
  refine ⟨fun w hw => nb_warm (NB_lw w hw).2 hW (h1 w hw), ?_, ?_, h4.moved hW.alike, h5.moved hW.alike⟩
  · rw [hU]; exact (h2.kept hS.2.1).moved hW.alike
  · rw [hU]; exact (h3.kept hS.2.1).moved hW.alike
def ztys (G : zG) : List (ClassId × FieldType) := [(G.2 0, .int), (G.2 1, .long), (G.2 2, .boolean), (G.2 3, .object "java/lang/Object"), (G.2 4, .object "BoxDesk$ItemList"), (G.2 5, .object "BoxDesk$Box")]
/-- where a walk stands: the machine, the code, the words, the tables -/
def Cx (G : zG) (n0 e0 : Nat) (p : Program) (s : State) (m : MethodId) (args : Array Value) (meth : Method) (c : Code) (cc : ByteArray) (nL : Nat) (own : String) (ret : Option FieldType) : Prop :=
  p.tables.exec = Jvm.exec ∧ c.code = cc ∧ c.maxLocals = nL ∧ s.vm.findClass own = some m.cls ∧ (∀ w ∈ TB, w.before args s = true) ∧ va_K G.1 vwC (ztys G) s ∧ n0 ≤ s.heap.size ∧ zX G n0 e0 s ∧ meth.locks = false ∧ meth.sig.returnType = ret
section CX
variable {G : zG} {n0 e0 : Nat} {p : Program} {s : State} {m : MethodId} {args : Array Value} {meth : Method} {c : Code} {cc : ByteArray} {nL : Nat} {own : String} {ret : Option FieldType}
theorem Cx.ml (h : Cx G n0 e0 p s m args meth c cc nL own ret) : c.maxLocals = nL := h.2.2.1
theorem Cx.ow (h : Cx G n0 e0 p s m args meth c cc nL own ret) : s.vm.findClass own = some m.cls := h.2.2.2.1
theorem Cx.tb (h : Cx G n0 e0 p s m args meth c cc nL own ret) : ∀ w ∈ TB, w.before args s = true := h.2.2.2.2.1
theorem Cx.K (h : Cx G n0 e0 p s m args meth c cc nL own ret) : va_K G.1 vwC (ztys G) s := h.2.2.2.2.2.1
theorem Cx.n (h : Cx G n0 e0 p s m args meth c cc nL own ret) : n0 ≤ s.heap.size := h.2.2.2.2.2.2.1
theorem Cx.hA (h : Cx G n0 e0 p s m args meth c cc nL own ret) : ∀ q, s.heap.size ≤ q → zA n0 q := fun _ hq => Nat.le_trans h.n hq
theorem Cx.X (h : Cx G n0 e0 p s m args meth c cc nL own ret) : zX G n0 e0 s := h.2.2.2.2.2.2.2.1
theorem Cx.lk (h : Cx G n0 e0 p s m args meth c cc nL own ret) : meth.locks = false := h.2.2.2.2.2.2.2.2.1
theorem Cx.rt (h : Cx G n0 e0 p s m args meth c cc nL own ret) : meth.sig.returnType = ret := h.2.2.2.2.2.2.2.2.2
theorem Cx.nw (h : Cx G n0 e0 p s m args meth c cc nL own ret) : ∀ w ∈ NB, va_Nw w s := h.X.1
end CX
/-- a contract: from the world w with the arguments av it returns with post -/
def Ct (l : Launch) (G : zG) (n0 e0 : Nat) (y : MethodName) (cy : ByteArray) (ny : Nat) (ry : Option FieldType) (rm : Room) (av : List Value) (w : zw) (post : Option Value → zw → Prop) : Prop :=
  Met l y (zws y cy ny ry) rm (zP G.1 vwC (ztys G) n0 (zX G n0 e0) av w) (zQ G.1 vwC n0 post) rm.cells rm.slots (zA n0)
theorem z_ct {l : Launch} {G : zG} {n0 e0 : Nat} {y : MethodName} {cy : ByteArray} {ny : Nat} {ry : Option FieldType} {rm : Room} {av : List Value} {w : zw} {post : Option Value → zw → Prop} (hy : plainName y.cls = true) (hlen : (lg_sl av).length ≤ ny)
    (body : ∀ (p : Program) (e : Env) (s : State) (m : MethodId) (below : List Frame) (meth : Method) (c : Code) (ls : Array Slot), Cx G n0 e0 p s m av.toArray meth c cy ny y.cls ry → meth.name = y.name → Zw G.1 vwC (zA n0) w s.heap → va_S (zA n0) s.heap s.heap [] → lv_has ls ny (lv_args 0 av) →
      W p l e rm s m av.toArray below meth c s.heap [] 0 0 (MQ below (zQ G.1 vwC n0 post) av.toArray s rm.cells rm.slots (zA n0)) (F0 m 0 ls [])) : Ct l G n0 e0 y cy ny ry rm av w post := by
  refine Met.ofW (cc := cy) (maxL := ny) (ret := ry) hy rfl ?_
  intro p e s m args below meth c s₁ B hml hv
  obtain ⟨rfl, hn0, hZ, hK, hX⟩ := hv
  have hl := lv_entry av (n := ny) hlen
  rw [lg_entry_eq]
  exact body p e s m below meth c _ ⟨B.exec, B.bytes, hml, findClass_of_methodNamed B.named, fun w h => atoms_spec (ws := zws y cy ny ry) B.pre w (List.mem_cons_of_mem _ h), hK, hn0, hX, B.notSynchronized, B.returns⟩ (name_of_methodNamed B.named B.method).1 hZ va_S.rf hl
section ZI
variable {p : Program} {l : Launch} {e : Env} {R : Room} {s : State} {m : MethodId} {args : Array Value} {below : List Frame} {meth : Method} {c : Code} {H : Heap} {locs : List Loc} {cells slots : Nat} {Q : State → Prop}
variable {cc : ByteArray} {pc nL : Nat} {ls : Array Slot} {rest st0 As : List Value} {G : zG} {n0 e0 : Nat} {w : zw} {own C : String} {ret : Option FieldType} {y : MethodName} {cy : ByteArray} {ny index n b : Nat} {ry : Option FieldType} {rm : Room} {post : Option Value → zw → Prop}
theorem z_ivV (cx : Cx G n0 e0 p s m args meth c cc nL own ret) (hy : Cond.code y cy ny ry ∈ TB) (hini : Cond.initialized y.cls ∈ TB) (hl : Cond.methodLink own index y ∈ TB) (him : Cond.instanceMethod y ∈ TB) (hse : Cond.selects C y y ∈ TB) (hd : y.cls ≠ "java/lang/invoke/MethodHandle" ∧ y.cls ≠ "java/lang/invoke/VarHandle" ∧ (parseMethodDescriptor y.desc).map (fun d => d.parameters.length) = some n)
    (hr : ∃ cell : Cell, H[b]? = some cell ∧ cell.vm.isStatics = false ∧ s.vm.findClass C = some cell.cls)
    (hM : Ct l G n0 e0 y cy ny ry rm (.ref b :: As) w post) (hR : rm.frames + 1 ≤ R.frames ∧ 8 + (ny + 11) + rm.locals ≤ R.locals) (hf : cells + rm.cells ≤ R.cells ∧ slots + rm.slots ≤ R.slots) (hn : As.length = n) (hsz : ls.size = nL) (hst : st0 = As.reverse ++ .ref b :: rest) (h8 : (rest.map fun v => v.category).sum ≤ 8) (hdg : decode cc pc = .ok (.invokevirtual index, 3)) (hZ : Zw G.1 vwC (zA n0) w H) (hS : va_S (zA n0) s.heap H locs)
    (kk : ∀ (v : Option Value) (w1 : zw) (H1 : Heap) (locs1 : List Loc), post v w1 → Zw G.1 vwC (zA n0) w1 H1 → va_S (zA n0) s.heap H1 locs1 → W p l e R s m args below meth c H1 locs1 (cells + rm.cells) (slots + rm.slots) Q (F0 m (pc + 3) ls (v.toList ++ rest))) : W p l e R s m args below meth c H locs cells slots Q (F0 m pc ls st0) :=
  z_call (va_runV (C := C) ⟨cx.1, cx.2.1, cx.ml, cx.ow, cx.tb⟩ hM ⟨z_cb n cx.tb hy hini hl hd ⟨rfl, rfl⟩ hR, cx.tb _ him, cx.tb _ hse⟩ ⟨zP_blind zX.blind, hr, z_preU (Nat.le_trans cx.n hS.1) hZ cx.K (fun U hU hW => cx.X.warm hS hU hW)⟩ rfl hn hsz hst (lv_room h8) hdg hf) hS kk
theorem z_ivS (cx : Cx G n0 e0 p s m args meth c cc nL own ret) (hy : Cond.code y cy ny ry ∈ TB) (hini : Cond.initialized y.cls ∈ TB) (hl : Cond.methodLink own index y ∈ TB) (hsta : Cond.static y ∈ TB) (hd : y.cls ≠ "java/lang/invoke/MethodHandle" ∧ y.cls ≠ "java/lang/invoke/VarHandle" ∧ (parseMethodDescriptor y.desc).map (fun d => d.parameters.length) = some n)
    (hM : Ct l G n0 e0 y cy ny ry rm As w post) (hR : rm.frames + 1 ≤ R.frames ∧ 8 + (ny + 11) + rm.locals ≤ R.locals) (hf : cells + rm.cells ≤ R.cells ∧ slots + rm.slots ≤ R.slots) (hn : As.length = n) (hsz : ls.size = nL) (hst : st0 = As.reverse ++ rest) (h8 : (rest.map fun v => v.category).sum ≤ 8) (hdg : decode cc pc = .ok (.invokestatic index, 3)) (hZ : Zw G.1 vwC (zA n0) w H) (hS : va_S (zA n0) s.heap H locs)
    (kk : ∀ (v : Option Value) (w1 : zw) (H1 : Heap) (locs1 : List Loc), post v w1 → Zw G.1 vwC (zA n0) w1 H1 → va_S (zA n0) s.heap H1 locs1 → W p l e R s m args below meth c H1 locs1 (cells + rm.cells) (slots + rm.slots) Q (F0 m (pc + 3) ls (v.toList ++ rest))) : W p l e R s m args below meth c H locs cells slots Q (F0 m pc ls st0) :=
  z_call (va_runS ⟨cx.1, cx.2.1, cx.ml, cx.ow, cx.tb⟩ hM ⟨z_cb n cx.tb hy hini hl hd ⟨rfl, rfl⟩ hR, cx.tb _ hsta⟩ ⟨zP_blind zX.blind, z_preU (Nat.le_trans cx.n hS.1) hZ cx.K (fun U hU hW => cx.X.warm hS hU hW)⟩ rfl hn hsz hst (lv_room h8) hdg hf) hS kk
theorem z_ivI (cx : Cx G n0 e0 p s m args meth c cc nL own ret) (hy : Cond.code y cy ny none ∈ TB) (hini : Cond.initialized y.cls ∈ TB) (hl : Cond.methodLink own index y ∈ TB) (him : Cond.instanceMethod y ∈ TB) (hnm : y.name = "<init>") (hd : y.cls ≠ "java/lang/invoke/MethodHandle" ∧ y.cls ≠ "java/lang/invoke/VarHandle" ∧ (parseMethodDescriptor y.desc).map (fun d => d.parameters.length) = some n)
    (hM : Ct l G n0 e0 y cy ny none rm (.ref b :: As) w post) (hR : rm.frames + 1 ≤ R.frames ∧ 8 + (ny + 11) + rm.locals ≤ R.locals) (hf : cells + rm.cells ≤ R.cells ∧ slots + rm.slots ≤ R.slots) (hn : As.length = n) (hsz : ls.size = nL) (hst : st0 = As.reverse ++ .ref b :: rest) (h8 : (rest.map fun v => v.category).sum ≤ 8) (hdg : decode cc pc = .ok (.invokespecial index, 3)) (hZ : Zw G.1 vwC (zA n0) w H) (hS : va_S (zA n0) s.heap H locs)
    (kk : ∀ (v : Option Value) (w1 : zw) (H1 : Heap) (locs1 : List Loc), post v w1 → Zw G.1 vwC (zA n0) w1 H1 → va_S (zA n0) s.heap H1 locs1 → W p l e R s m args below meth c H1 locs1 (cells + rm.cells) (slots + rm.slots) Q (F0 m (pc + 3) ls (v.toList ++ rest))) : W p l e R s m args below meth c H locs cells slots Q (F0 m pc ls st0) :=
  z_call (va_runI ⟨cx.1, cx.2.1, cx.ml, cx.ow, cx.tb⟩ hM ⟨z_cb n cx.tb hy hini hl hd ⟨rfl, rfl⟩ hR, hnm, cx.tb _ him⟩ ⟨zP_blind zX.blind, z_preU (Nat.le_trans cx.n hS.1) hZ cx.K (fun U hU hW => cx.X.warm hS hU hW)⟩ rfl hn hsz hst (lv_room h8) hdg hf) hS kk
theorem z_ivSN {host : String} (cx : Cx G n0 e0 p s m args meth c cc nL own ret) (hy : Cond.code y cy ny ry ∈ TB) (hini : Cond.initialized y.cls ∈ TB) (hl : Cond.methodLinkNest own index y host ∈ NB) (hsta : Cond.static y ∈ TB) (hd : y.cls ≠ "java/lang/invoke/MethodHandle" ∧ y.cls ≠ "java/lang/invoke/VarHandle" ∧ (parseMethodDescriptor y.desc).map (fun d => d.parameters.length) = some n)
    (hM : Ct l G n0 e0 y cy ny ry rm As w post) (hR : rm.frames + 1 ≤ R.frames ∧ 8 + (ny + 11) + rm.locals ≤ R.locals) (hf : cells + rm.cells ≤ R.cells ∧ slots + rm.slots ≤ R.slots) (hn : As.length = n) (hsz : ls.size = nL) (hst : st0 = As.reverse ++ rest) (h8 : (rest.map fun v => v.category).sum ≤ 8) (hdg : decode cc pc = .ok (.invokestatic index, 3)) (hZ : Zw G.1 vwC (zA n0) w H) (hS : va_S (zA n0) s.heap H locs)
    (kk : ∀ (v : Option Value) (w1 : zw) (H1 : Heap) (locs1 : List Loc), post v w1 → Zw G.1 vwC (zA n0) w1 H1 → va_S (zA n0) s.heap H1 locs1 → W p l e R s m args below meth c H1 locs1 (cells + rm.cells) (slots + rm.slots) Q (F0 m (pc + 3) ls (v.toList ++ rest))) : W p l e R s m args below meth c H locs cells slots Q (F0 m pc ls st0) :=
  z_call (va_runSN ⟨cx.1, cx.2.1, cx.ml, cx.ow, cx.tb⟩ hM ⟨va_cnB n cx.tb (zws_good hy) rfl rfl rfl (cx.nw _ hl) (cx.tb _ hini) hd hR, cx.tb _ hsta, trivial⟩ ⟨zP_blind zX.blind, z_preU (Nat.le_trans cx.n hS.1) hZ cx.K (fun U hU hW => cx.X.warm hS hU hW)⟩ rfl hn hsz hst (lv_room h8) hdg hf) hS kk
end ZI
end
section
/-! printed: a row for each entry of the pools -/
theorem up_self {w w1 : zw} {a : Nat} {e : va_E} (h : w1 = va_up w a (some e)) : w1 a = some e := by rw [h, va_up_self]
theorem up_ne {w w1 : zw} {a b : Nat} {e : Option va_E} {x : Option va_E} (h : w1 = va_up w a e) (hb : w b = x) (hne : b ≠ a) : w1 b = x := by rw [h, va_up_ne _ _ hne]; exact hb
theorem z_ne {w : zw} {a b : Nat} {x y : va_E} (ha : w a = some x) (hb : w b = some y) (h : x ≠ y) : a ≠ b := fun q => h (by subst q; rw [ha] at hb; exact Option.some.inj hb)
theorem z_neN {w : zw} {a b : Nat} {x : va_E} (ha : w a = some x) (hb : w b = none) : a ≠ b := fun q => by subst q; rw [ha] at hb; cases hb
section ROWS
variable {p : Program} {l : Launch} {e : Env} {R : Room} {s : State} {m : MethodId} {args : Array Value} {below : List Frame} {meth : Method} {c : Code} {H : Heap} {locs : List Loc} {cells slots : Nat} {Q : State → Prop}
variable {cc : ByteArray} {pc nL : Nat} {ls : Array Slot} {rest : List Value} {G : zG} {n0 e0 : Nat} {w : zw} {ret : Option FieldType} {a : Nat} {fs : List Value} {v : Value} {own : String}
theorem ld_i (cx : Cx G n0 e0 p s m args meth c cc nL own ret) (hZ : Zw G.1 vwC (zA n0) w H) {n : Nat} {f : Nat → Int32} (ha : w a = some (.inl (G.2 0, n, .inl f))) {i : Int32} (hin : vp_in i n) (hdg : decode cc pc = .ok (.iaload, 1)) (kk : W p l e R s m args below meth c H locs cells slots Q (F0 m (pc + 1) ls (.int (f i.toNatClampNeg) :: rest))) : W p l e R s m args below meth c H locs cells slots Q (F0 m pc ls (.int i :: .ref a :: rest)) := z_iald cx.1 cx.2.1 cx.K hZ 0 ha rfl hin hdg kk
theorem ld_l (cx : Cx G n0 e0 p s m args meth c cc nL own ret) (hZ : Zw G.1 vwC (zA n0) w H) {n : Nat} {f : Nat → Int64} (ha : w a = some (.inl (G.2 1, n, .inr (.inl f)))) {i : Int32} (hin : vp_in i n) (hdg : decode cc pc = .ok (.laload, 1)) (kk : W p l e R s m args below meth c H locs cells slots Q (F0 m (pc + 1) ls (.long (f i.toNatClampNeg) :: rest))) : W p l e R s m args below meth c H locs cells slots Q (F0 m pc ls (.int i :: .ref a :: rest)) := z_lald cx.1 cx.2.1 cx.K hZ 1 ha rfl hin hdg kk
theorem ld_q3 (cx : Cx G n0 e0 p s m args meth c cc nL own ret) (hZ : Zw G.1 vwC (zA n0) w H) {n : Nat} {f : Nat → Option Nat} (ha : w a = some (.inl (G.2 3, n, .inr (.inr (.inr (.inr f)))))) {i : Int32} (hin : vp_in i n) (hdg : decode cc pc = .ok (.aaload, 1)) (kk : W p l e R s m args below meth c H locs cells slots Q (F0 m (pc + 1) ls (va_rf (f i.toNatClampNeg) :: rest))) : W p l e R s m args below meth c H locs cells slots Q (F0 m pc ls (.int i :: .ref a :: rest)) := z_aald cx.1 cx.2.1 cx.K hZ 3 ha rfl hin hdg kk
theorem ld_q4 (cx : Cx G n0 e0 p s m args meth c cc nL own ret) (hZ : Zw G.1 vwC (zA n0) w H) {n : Nat} {f : Nat → Option Nat} (ha : w a = some (.inl (G.2 4, n, .inr (.inr (.inr (.inr f)))))) {i : Int32} (hin : vp_in i n) (hdg : decode cc pc = .ok (.aaload, 1)) (kk : W p l e R s m args below meth c H locs cells slots Q (F0 m (pc + 1) ls (va_rf (f i.toNatClampNeg) :: rest))) : W p l e R s m args below meth c H locs cells slots Q (F0 m pc ls (.int i :: .ref a :: rest)) := z_aald cx.1 cx.2.1 cx.K hZ 4 ha rfl hin hdg kk
theorem ld_q5 (cx : Cx G n0 e0 p s m args meth c cc nL own ret) (hZ : Zw G.1 vwC (zA n0) w H) {n : Nat} {f : Nat → Option Nat} (ha : w a = some (.inl (G.2 5, n, .inr (.inr (.inr (.inr f)))))) {i : Int32} (hin : vp_in i n) (hdg : decode cc pc = .ok (.aaload, 1)) (kk : W p l e R s m args below meth c H locs cells slots Q (F0 m (pc + 1) ls (va_rf (f i.toNatClampNeg) :: rest))) : W p l e R s m args below meth c H locs cells slots Q (F0 m pc ls (.int i :: .ref a :: rest)) := z_aald cx.1 cx.2.1 cx.K hZ 5 ha rfl hin hdg kk
theorem st_i (cx : Cx G n0 e0 p s m args meth c cc nL own ret) (hZ : Zw G.1 vwC (zA n0) w H) (hS : va_S (zA n0) s.heap H locs) {n : Nat} {f : Nat → Int32} (ha : w a = some (.inl (G.2 0, n, .inl f))) {i x : Int32} (hin : vp_in i n) (hdg : decode cc pc = .ok (.iastore, 1)) (kk : ∀ (w1 : zw) (H1 : Heap) (locs1 : List Loc), w1 = va_up w a (some (.inl (G.2 0, n, .inl (upd f i.toNatClampNeg x)))) → Zw G.1 vwC (zA n0) w1 H1 → va_S (zA n0) s.heap H1 locs1 → W p l e R s m args below meth c H1 locs1 cells slots Q (F0 m (pc + 1) ls rest)) : W p l e R s m args below meth c H locs cells slots Q (F0 m pc ls (.int x :: .int i :: .ref a :: rest)) := z_iast cx.1 cx.2.1 cx.K hZ hS 0 ha rfl hin hdg (fun H1 locs1 z1 s1 => kk _ H1 locs1 rfl z1 s1)
theorem st_l (cx : Cx G n0 e0 p s m args meth c cc nL own ret) (hZ : Zw G.1 vwC (zA n0) w H) (hS : va_S (zA n0) s.heap H locs) {n : Nat} {f : Nat → Int64} (ha : w a = some (.inl (G.2 1, n, .inr (.inl f)))) {i : Int32} {x : Int64} (hin : vp_in i n) (hdg : decode cc pc = .ok (.lastore, 1)) (kk : ∀ (w1 : zw) (H1 : Heap) (locs1 : List Loc), w1 = va_up w a (some (.inl (G.2 1, n, .inr (.inl (vp_updL f i.toNatClampNeg x))))) → Zw G.1 vwC (zA n0) w1 H1 → va_S (zA n0) s.heap H1 locs1 → W p l e R s m args below meth c H1 locs1 cells slots Q (F0 m (pc + 1) ls rest)) : W p l e R s m args below meth c H locs cells slots Q (F0 m pc ls (.long x :: .int i :: .ref a :: rest)) := z_last cx.1 cx.2.1 cx.K hZ hS 1 ha rfl hin hdg (fun H1 locs1 z1 s1 => kk _ H1 locs1 rfl z1 s1)
theorem st_q4 (cx : Cx G n0 e0 p s m args meth c cc nL own ret) (hZ : Zw G.1 vwC (zA n0) w H) (hS : va_S (zA n0) s.heap H locs) {n x : Nat} {f : Nat → Option Nat} (ha : w a = some (.inl (G.2 4, n, .inr (.inr (.inr (.inr f)))))) (hx : w x = some (.inr (2, fs))) {i : Int32} (hin : vp_in i n) (hdg : decode cc pc = .ok (.aastore, 1)) (kk : ∀ (w1 : zw) (H1 : Heap) (locs1 : List Loc), w1 = va_up w a (some (.inl (G.2 4, n, .inr (.inr (.inr (.inr (va_up f i.toNatClampNeg (some x)))))))) → Zw G.1 vwC (zA n0) w1 H1 → va_S (zA n0) s.heap H1 locs1 → W p l e R s m args below meth c H1 locs1 cells slots Q (F0 m (pc + 1) ls rest)) : W p l e R s m args below meth c H locs cells slots Q (F0 m pc ls (.ref x :: .int i :: .ref a :: rest)) := z_aast cx.1 cx.2.1 cx.K hZ hS 4 2 ha rfl hx rfl hin hdg (fun H1 locs1 z1 s1 => kk _ H1 locs1 rfl z1 s1)
theorem st_qN4 (cx : Cx G n0 e0 p s m args meth c cc nL own ret) (hZ : Zw G.1 vwC (zA n0) w H) (hS : va_S (zA n0) s.heap H locs) {n : Nat} {f : Nat → Option Nat} (ha : w a = some (.inl (G.2 4, n, .inr (.inr (.inr (.inr f)))))) {i : Int32} (hin : vp_in i n) (hdg : decode cc pc = .ok (.aastore, 1)) (kk : ∀ (w1 : zw) (H1 : Heap) (locs1 : List Loc), w1 = va_up w a (some (.inl (G.2 4, n, .inr (.inr (.inr (.inr (va_up f i.toNatClampNeg none))))))) → Zw G.1 vwC (zA n0) w1 H1 → va_S (zA n0) s.heap H1 locs1 → W p l e R s m args below meth c H1 locs1 cells slots Q (F0 m (pc + 1) ls rest)) : W p l e R s m args below meth c H locs cells slots Q (F0 m pc ls (.null :: .int i :: .ref a :: rest)) := z_aastN (C := "BoxDesk$ItemList") cx.1 cx.2.1 cx.K hZ hS 4 ha rfl hin hdg (fun H1 locs1 z1 s1 => kk _ H1 locs1 rfl z1 s1)
theorem st_q5 (cx : Cx G n0 e0 p s m args meth c cc nL own ret) (hZ : Zw G.1 vwC (zA n0) w H) (hS : va_S (zA n0) s.heap H locs) {n x : Nat} {f : Nat → Option Nat} (ha : w a = some (.inl (G.2 5, n, .inr (.inr (.inr (.inr f)))))) (hx : w x = some (.inr (4, fs))) {i : Int32} (hin : vp_in i n) (hdg : decode cc pc = .ok (.aastore, 1)) (kk : ∀ (w1 : zw) (H1 : Heap) (locs1 : List Loc), w1 = va_up w a (some (.inl (G.2 5, n, .inr (.inr (.inr (.inr (va_up f i.toNatClampNeg (some x)))))))) → Zw G.1 vwC (zA n0) w1 H1 → va_S (zA n0) s.heap H1 locs1 → W p l e R s m args below meth c H1 locs1 cells slots Q (F0 m (pc + 1) ls rest)) : W p l e R s m args below meth c H locs cells slots Q (F0 m pc ls (.ref x :: .int i :: .ref a :: rest)) := z_aast cx.1 cx.2.1 cx.K hZ hS 5 4 ha rfl hx rfl hin hdg (fun H1 locs1 z1 s1 => kk _ H1 locs1 rfl z1 s1)
theorem st_qN5 (cx : Cx G n0 e0 p s m args meth c cc nL own ret) (hZ : Zw G.1 vwC (zA n0) w H) (hS : va_S (zA n0) s.heap H locs) {n : Nat} {f : Nat → Option Nat} (ha : w a = some (.inl (G.2 5, n, .inr (.inr (.inr (.inr f)))))) {i : Int32} (hin : vp_in i n) (hdg : decode cc pc = .ok (.aastore, 1)) (kk : ∀ (w1 : zw) (H1 : Heap) (locs1 : List Loc), w1 = va_up w a (some (.inl (G.2 5, n, .inr (.inr (.inr (.inr (va_up f i.toNatClampNeg none))))))) → Zw G.1 vwC (zA n0) w1 H1 → va_S (zA n0) s.heap H1 locs1 → W p l e R s m args below meth c H1 locs1 cells slots Q (F0 m (pc + 1) ls rest)) : W p l e R s m args below meth c H locs cells slots Q (F0 m pc ls (.null :: .int i :: .ref a :: rest)) := z_aastN (C := "BoxDesk$Box") cx.1 cx.2.1 cx.K hZ hS 5 ha rfl hin hdg (fun H1 locs1 z1 s1 => kk _ H1 locs1 rfl z1 s1)
theorem st_o (cx : Cx G n0 e0 p s m args meth c cc nL own ret) (hZ : Zw G.1 vwC (zA n0) w H) (hS : va_S (zA n0) s.heap H locs) {n x : Nat} {f : Nat → Option Nat} (ha : w a = some (.inl (G.2 3, n, .inr (.inr (.inr (.inr f)))))) (hx : w x = some (.inr (1, fs))) {i : Int32} (hin : vp_in i n) (hdg : decode cc pc = .ok (.aastore, 1)) (kk : ∀ (w1 : zw) (H1 : Heap) (locs1 : List Loc), w1 = va_up w a (some (.inl (G.2 3, n, .inr (.inr (.inr (.inr (va_up f i.toNatClampNeg (some x)))))))) → Zw G.1 vwC (zA n0) w1 H1 → va_S (zA n0) s.heap H1 locs1 → W p l e R s m args below meth c H1 locs1 cells slots Q (F0 m (pc + 1) ls rest)) : W p l e R s m args below meth c H locs cells slots Q (F0 m pc ls (.ref x :: .int i :: .ref a :: rest)) := z_aastO (E := "java/lang/Object") (r := (R_I, T_I, 12)) cx.1 cx.2.1 cx.K hZ hS 3 1 ha rfl (cx.nw _ nw_834) hx rfl hin hdg (fun H1 locs1 z1 s1 => kk _ H1 locs1 rfl z1 s1)
theorem len_i (cx : Cx G n0 e0 p s m args meth c cc nL own ret) (hZ : Zw G.1 vwC (zA n0) w H) {x : vp_A} (ha : w a = some (.inl (G.2 0, x))) (hdg : decode cc pc = .ok (.arraylength, 1)) (kk : W p l e R s m args below meth c H locs cells slots Q (F0 m (pc + 1) ls (.int (nI x.1) :: rest))) : W p l e R s m args below meth c H locs cells slots Q (F0 m pc ls (.ref a :: rest)) := z_alen cx.1 cx.2.1 cx.K hZ 0 ha (ty := .int) rfl rfl hdg kk
theorem len_l (cx : Cx G n0 e0 p s m args meth c cc nL own ret) (hZ : Zw G.1 vwC (zA n0) w H) {x : vp_A} (ha : w a = some (.inl (G.2 1, x))) (hdg : decode cc pc = .ok (.arraylength, 1)) (kk : W p l e R s m args below meth c H locs cells slots Q (F0 m (pc + 1) ls (.int (nI x.1) :: rest))) : W p l e R s m args below meth c H locs cells slots Q (F0 m pc ls (.ref a :: rest)) := z_alen cx.1 cx.2.1 cx.K hZ 1 ha (ty := .long) rfl rfl hdg kk
theorem len_z (cx : Cx G n0 e0 p s m args meth c cc nL own ret) (hZ : Zw G.1 vwC (zA n0) w H) {x : vp_A} (ha : w a = some (.inl (G.2 2, x))) (hdg : decode cc pc = .ok (.arraylength, 1)) (kk : W p l e R s m args below meth c H locs cells slots Q (F0 m (pc + 1) ls (.int (nI x.1) :: rest))) : W p l e R s m args below meth c H locs cells slots Q (F0 m pc ls (.ref a :: rest)) := z_alen cx.1 cx.2.1 cx.K hZ 2 ha (ty := .boolean) rfl rfl hdg kk
theorem len_q3 (cx : Cx G n0 e0 p s m args meth c cc nL own ret) (hZ : Zw G.1 vwC (zA n0) w H) {x : vp_A} (ha : w a = some (.inl (G.2 3, x))) (hdg : decode cc pc = .ok (.arraylength, 1)) (kk : W p l e R s m args below meth c H locs cells slots Q (F0 m (pc + 1) ls (.int (nI x.1) :: rest))) : W p l e R s m args below meth c H locs cells slots Q (F0 m pc ls (.ref a :: rest)) := z_alen cx.1 cx.2.1 cx.K hZ 3 ha (ty := .object "java/lang/Object") rfl rfl hdg kk
theorem len_q4 (cx : Cx G n0 e0 p s m args meth c cc nL own ret) (hZ : Zw G.1 vwC (zA n0) w H) {x : vp_A} (ha : w a = some (.inl (G.2 4, x))) (hdg : decode cc pc = .ok (.arraylength, 1)) (kk : W p l e R s m args below meth c H locs cells slots Q (F0 m (pc + 1) ls (.int (nI x.1) :: rest))) : W p l e R s m args below meth c H locs cells slots Q (F0 m pc ls (.ref a :: rest)) := z_alen cx.1 cx.2.1 cx.K hZ 4 ha (ty := .object "BoxDesk$ItemList") rfl rfl hdg kk
theorem len_q5 (cx : Cx G n0 e0 p s m args meth c cc nL own ret) (hZ : Zw G.1 vwC (zA n0) w H) {x : vp_A} (ha : w a = some (.inl (G.2 5, x))) (hdg : decode cc pc = .ok (.arraylength, 1)) (kk : W p l e R s m args below meth c H locs cells slots Q (F0 m (pc + 1) ls (.int (nI x.1) :: rest))) : W p l e R s m args below meth c H locs cells slots Q (F0 m pc ls (.ref a :: rest)) := z_alen cx.1 cx.2.1 cx.K hZ 5 ha (ty := .object "BoxDesk$Box") rfl rfl hdg kk
theorem new_i (cx : Cx G n0 e0 p s m args meth c cc nL own ret) (hZ : Zw G.1 vwC (zA n0) w H) (hS : va_S (zA n0) s.heap H locs) {n : Int32} {N : Nat} (hn : ¬ n < 0) (hN : n.toNatClampNeg = N) (hb : N * 4 ≤ 536870912) (hc : cells + 1 ≤ R.cells) (hs : slots + N ≤ R.slots) (hdg : decode cc pc = .ok (.newarray .int, 2)) (kk : ∀ (q : Nat) (w1 : zw) (H1 : Heap), w q = none → w1 = va_up w q (some (.inl (G.2 0, N, .inl (fun _ => 0)))) → Zw G.1 vwC (zA n0) w1 H1 → va_S (zA n0) s.heap H1 locs → W p l e R s m args below meth c H1 locs (cells + 1) (slots + N) Q (F0 m (pc + 2) ls (.ref q :: rest))) : W p l e R s m args below meth c H locs cells slots Q (F0 m pc ls (.int n :: rest)) := z_newa (atype := .int) (ty := .int) cx.1 cx.2.1 (cx.tb _ tw_559) rfl cx.K hZ hS cx.hA 0 rfl (a0 := (N, .inl (fun _ => 0))) (fun _ => rfl) hn hN hb hc hs hdg (fun q H1 f1 z1 s1 => kk q _ H1 f1 rfl z1 s1)
theorem new_l (cx : Cx G n0 e0 p s m args meth c cc nL own ret) (hZ : Zw G.1 vwC (zA n0) w H) (hS : va_S (zA n0) s.heap H locs) {n : Int32} {N : Nat} (hn : ¬ n < 0) (hN : n.toNatClampNeg = N) (hb : N * 8 ≤ 536870912) (hc : cells + 1 ≤ R.cells) (hs : slots + N ≤ R.slots) (hdg : decode cc pc = .ok (.newarray .long, 2)) (kk : ∀ (q : Nat) (w1 : zw) (H1 : Heap), w q = none → w1 = va_up w q (some (.inl (G.2 1, N, .inr (.inl (fun _ => 0))))) → Zw G.1 vwC (zA n0) w1 H1 → va_S (zA n0) s.heap H1 locs → W p l e R s m args below meth c H1 locs (cells + 1) (slots + N) Q (F0 m (pc + 2) ls (.ref q :: rest))) : W p l e R s m args below meth c H locs cells slots Q (F0 m pc ls (.int n :: rest)) := z_newa (atype := .long) (ty := .long) cx.1 cx.2.1 (cx.tb _ tw_440) rfl cx.K hZ hS cx.hA 1 rfl (a0 := (N, .inr (.inl (fun _ => 0)))) (fun _ => rfl) hn hN hb hc hs hdg (fun q H1 f1 z1 s1 => kk q _ H1 f1 rfl z1 s1)
theorem new_z (cx : Cx G n0 e0 p s m args meth c cc nL own ret) (hZ : Zw G.1 vwC (zA n0) w H) (hS : va_S (zA n0) s.heap H locs) {n : Int32} {N : Nat} (hn : ¬ n < 0) (hN : n.toNatClampNeg = N) (hb : N * 1 ≤ 536870912) (hc : cells + 1 ≤ R.cells) (hs : slots + N ≤ R.slots) (hdg : decode cc pc = .ok (.newarray .boolean, 2)) (kk : ∀ (q : Nat) (w1 : zw) (H1 : Heap), w q = none → w1 = va_up w q (some (.inl (G.2 2, N, .inl (fun _ => 0)))) → Zw G.1 vwC (zA n0) w1 H1 → va_S (zA n0) s.heap H1 locs → W p l e R s m args below meth c H1 locs (cells + 1) (slots + N) Q (F0 m (pc + 2) ls (.ref q :: rest))) : W p l e R s m args below meth c H locs cells slots Q (F0 m pc ls (.int n :: rest)) := z_newa (atype := .boolean) (ty := .boolean) cx.1 cx.2.1 (cx.tb _ tw_677) rfl cx.K hZ hS cx.hA 2 rfl (a0 := (N, .inl (fun _ => 0))) (fun _ => rfl) hn hN hb hc hs hdg (fun q H1 f1 z1 s1 => kk q _ H1 f1 rfl z1 s1)
theorem oi_D_1 (cx : Cx G n0 e0 p s m args meth c cc nL "BoxDesk" ret) (hl : ls.size = nL) (hdg : decode cc pc = .ok (.invokespecial 1, 3)) (hf : 1 ≤ R.frames) (hlo : 2 * (F0 m pc ls (.ref a :: rest)).monitorRoom + (rest.map fun v => v.category).sum + 12 ≤ R.locals) (kk : W p l e R s m args below meth c H locs cells slots Q (F0 m (pc + 3) ls rest)) : W p l e R s m args below meth c H locs cells slots Q (F0 m pc ls (.ref a :: rest)) := W.objInit cx.1 cx.2.1 cx.ow (cx.tb _ tw_28) (cx.tb _ tw_29) (cx.tb _ tw_30) rfl (by rw [cx.ml]; exact hl) rfl hdg hf hlo kk
theorem nq_D_9 (cx : Cx G n0 e0 p s m args meth c cc nL "BoxDesk" ret) (hZ : Zw G.1 vwC (zA n0) w H) (hS : va_S (zA n0) s.heap H locs) {n : Int32} {N : Nat} (hn : ¬ n < 0) (hN : n.toNatClampNeg = N) (hb : N * 4 ≤ 536870912) (hc : cells + 1 ≤ R.cells) (hs : slots + N ≤ R.slots) (hdg : decode cc pc = .ok (.anewarray 9, 3)) (kk : ∀ (q : Nat) (w1 : zw) (H1 : Heap), w q = none → w1 = va_up w q (some (.inl (G.2 4, N, .inr (.inr (.inr (.inr (fun _ => none))))))) → Zw G.1 vwC (zA n0) w1 H1 → va_S (zA n0) s.heap H1 locs → W p l e R s m args below meth c H1 locs (cells + 1) (slots + N) Q (F0 m (pc + 3) ls (.ref q :: rest))) : W p l e R s m args below meth c H locs cells slots Q (F0 m pc ls (.int n :: rest)) := z_newq cx.1 cx.2.1 cx.ow (cx.tb _ tw_31) (cx.nw _ nw_32) cx.K hZ hS cx.hA 4 rfl hn hN hb hc hs hdg (fun q H1 f1 z1 s1 => kk q _ H1 f1 rfl z1 s1)
theorem nw_D_9_o (cx : Cx G n0 e0 p s m args meth c cc nL "BoxDesk" ret) (hZ : Zw G.1 vwC (zA n0) w H) (hS : va_S (zA n0) s.heap H locs) (hc : cells + 1 ≤ R.cells) (hs : slots + 2 ≤ R.slots) (hdg : decode cc pc = .ok (.new 9, 3)) (kk : ∀ (q : Nat) (w1 : zw) (H1 : Heap), w q = none → w1 = va_up w q (some (.inr (2, [.int 0, .null]))) → Zw G.1 vwC (zA n0) w1 H1 → va_S (zA n0) s.heap H1 locs → W p l e R s m args below meth c H1 locs (cells + 1) (slots + 2) Q (F0 m (pc + 3) ls (.ref q :: rest))) : W p l e R s m args below meth c H locs cells slots Q (F0 m pc ls rest) := z_new (T := T_L) cx.1 cx.2.1 cx.tb in_L ty_L ty_L_ok cx.ow (cx.tb _ tw_31) (cx.tb _ tw_52) (cx.tb _ tw_3) cx.K hZ hS cx.hA (ci := 2) rfl (fs := [.int 0, .null]) (fun j hj => by rcases (show j = 0 ∨ j = 1 by omega) with rfl | rfl <;> rfl) hc hs hdg (fun q H1 f1 z1 s1 => kk q _ H1 f1 rfl z1 s1)
theorem gf_D_11 (cx : Cx G n0 e0 p s m args meth c cc nL "BoxDesk" ret) (hZ : Zw G.1 vwC (zA n0) w H) (he : w a = some (.inr (5, fs))) (hv : fs[0]? = some v) (hdg : decode cc pc = .ok (.getfield 11, 3)) (kk : W p l e R s m args below meth c H locs cells slots Q (F0 m (pc + 3) ls (v :: rest))) : W p l e R s m args below meth c H locs cells slots Q (F0 m pc ls (.ref a :: rest)) := z_get (T := T_D) cx.1 cx.2.1 cx.tb in_D cx.ow cx.K hZ he rfl 0 (by decide) (cx.tb _ tw_35) (fun _ h => h) hv hdg kk
theorem pf_D_11 {x : Nat} (cx : Cx G n0 e0 p s m args meth c cc nL "BoxDesk" ret) (hnm : meth.name = "<init>") (hZ : Zw G.1 vwC (zA n0) w H) (hS : va_S (zA n0) s.heap H locs) (he : w a = some (.inr (5, fs))) (hl : 0 < fs.length) (hdg : decode cc pc = .ok (.putfield 11, 3)) (kk : ∀ (w1 : zw) (H1 : Heap) (locs1 : List Loc), w1 = va_up w a (some (.inr (5, fs.set 0 (.ref x)))) → Zw G.1 vwC (zA n0) w1 H1 → va_S (zA n0) s.heap H1 locs1 → W p l e R s m args below meth c H1 locs1 cells slots Q (F0 m (pc + 3) ls rest)) : W p l e R s m args below meth c H locs cells slots Q (F0 m pc ls (.ref x :: .ref a :: rest)) := z_putF (T := T_D) cx.1 cx.2.1 cx.tb in_D ty_D ty_D_ok nm_D cx.ow cx.K hZ hS he rfl 0 (by decide) (cx.tb _ tw_35) (fun _ h => h) rfl hnm rfl (ty_D_ok 0 (by decide)) rfl rfl hl hdg (fun H1 locs1 z1 s1 => kk _ H1 locs1 rfl z1 s1)
theorem nq_D_15 (cx : Cx G n0 e0 p s m args meth c cc nL "BoxDesk" ret) (hZ : Zw G.1 vwC (zA n0) w H) (hS : va_S (zA n0) s.heap H locs) {n : Int32} {N : Nat} (hn : ¬ n < 0) (hN : n.toNatClampNeg = N) (hb : N * 4 ≤ 536870912) (hc : cells + 1 ≤ R.cells) (hs : slots + N ≤ R.slots) (hdg : decode cc pc = .ok (.anewarray 15, 3)) (kk : ∀ (q : Nat) (w1 : zw) (H1 : Heap), w q = none → w1 = va_up w q (some (.inl (G.2 5, N, .inr (.inr (.inr (.inr (fun _ => none))))))) → Zw G.1 vwC (zA n0) w1 H1 → va_S (zA n0) s.heap H1 locs → W p l e R s m args below meth c H1 locs (cells + 1) (slots + N) Q (F0 m (pc + 3) ls (.ref q :: rest))) : W p l e R s m args below meth c H locs cells slots Q (F0 m pc ls (.int n :: rest)) := z_newq cx.1 cx.2.1 cx.ow (cx.tb _ tw_33) (cx.nw _ nw_34) cx.K hZ hS cx.hA 5 rfl hn hN hb hc hs hdg (fun q H1 f1 z1 s1 => kk q _ H1 f1 rfl z1 s1)
theorem nw_D_15_o (cx : Cx G n0 e0 p s m args meth c cc nL "BoxDesk" ret) (hZ : Zw G.1 vwC (zA n0) w H) (hS : va_S (zA n0) s.heap H locs) (hc : cells + 1 ≤ R.cells) (hs : slots + 7 ≤ R.slots) (hdg : decode cc pc = .ok (.new 15, 3)) (kk : ∀ (q : Nat) (w1 : zw) (H1 : Heap), w q = none → w1 = va_up w q (some (.inr (4, [.null, .null, .int 0, .int 0, .int 0, .int 0, .int 0]))) → Zw G.1 vwC (zA n0) w1 H1 → va_S (zA n0) s.heap H1 locs → W p l e R s m args below meth c H1 locs (cells + 1) (slots + 7) Q (F0 m (pc + 3) ls (.ref q :: rest))) : W p l e R s m args below meth c H locs cells slots Q (F0 m pc ls rest) := z_new (T := T_B) cx.1 cx.2.1 cx.tb in_B ty_B ty_B_ok cx.ow (cx.tb _ tw_33) (cx.tb _ tw_493) (cx.tb _ tw_21) cx.K hZ hS cx.hA (ci := 4) rfl (fs := [.null, .null, .int 0, .int 0, .int 0, .int 0, .int 0]) (fun j hj => by rcases (show j = 0 ∨ j = 1 ∨ j = 2 ∨ j = 3 ∨ j = 4 ∨ j = 5 ∨ j = 6 by omega) with rfl | rfl | rfl | rfl | rfl | rfl | rfl <;> rfl) hc hs hdg (fun q H1 f1 z1 s1 => kk q _ H1 f1 rfl z1 s1)
theorem gf_D_17 (cx : Cx G n0 e0 p s m args meth c cc nL "BoxDesk" ret) (hZ : Zw G.1 vwC (zA n0) w H) (he : w a = some (.inr (5, fs))) (hv : fs[2]? = some v) (hdg : decode cc pc = .ok (.getfield 17, 3)) (kk : W p l e R s m args below meth c H locs cells slots Q (F0 m (pc + 3) ls (v :: rest))) : W p l e R s m args below meth c H locs cells slots Q (F0 m pc ls (.ref a :: rest)) := z_get (T := T_D) cx.1 cx.2.1 cx.tb in_D cx.ow cx.K hZ he rfl 2 (by decide) (cx.tb _ tw_37) (fun _ h => h) hv hdg kk
theorem pf_D_17 {x : Nat} (cx : Cx G n0 e0 p s m args meth c cc nL "BoxDesk" ret) (hnm : meth.name = "<init>") (hZ : Zw G.1 vwC (zA n0) w H) (hS : va_S (zA n0) s.heap H locs) (he : w a = some (.inr (5, fs))) (hl : 2 < fs.length) (hdg : decode cc pc = .ok (.putfield 17, 3)) (kk : ∀ (w1 : zw) (H1 : Heap) (locs1 : List Loc), w1 = va_up w a (some (.inr (5, fs.set 2 (.ref x)))) → Zw G.1 vwC (zA n0) w1 H1 → va_S (zA n0) s.heap H1 locs1 → W p l e R s m args below meth c H1 locs1 cells slots Q (F0 m (pc + 3) ls rest)) : W p l e R s m args below meth c H locs cells slots Q (F0 m pc ls (.ref x :: .ref a :: rest)) := z_putF (T := T_D) cx.1 cx.2.1 cx.tb in_D ty_D ty_D_ok nm_D cx.ow cx.K hZ hS he rfl 2 (by decide) (cx.tb _ tw_37) (fun _ h => h) rfl hnm rfl (ty_D_ok 2 (by decide)) rfl rfl hl hdg (fun H1 locs1 z1 s1 => kk _ H1 locs1 rfl z1 s1)
theorem gf_D_21 (cx : Cx G n0 e0 p s m args meth c cc nL "BoxDesk" ret) (hZ : Zw G.1 vwC (zA n0) w H) (he : w a = some (.inr (5, fs))) (hv : fs[1]? = some v) (hdg : decode cc pc = .ok (.getfield 21, 3)) (kk : W p l e R s m args below meth c H locs cells slots Q (F0 m (pc + 3) ls (v :: rest))) : W p l e R s m args below meth c H locs cells slots Q (F0 m pc ls (.ref a :: rest)) := z_get (T := T_D) cx.1 cx.2.1 cx.tb in_D cx.ow cx.K hZ he rfl 1 (by decide) (cx.tb _ tw_36) (fun _ h => h) hv hdg kk
theorem pf_D_21 {x : Int32} (cx : Cx G n0 e0 p s m args meth c cc nL "BoxDesk" ret) (hZ : Zw G.1 vwC (zA n0) w H) (hS : va_S (zA n0) s.heap H locs) (he : w a = some (.inr (5, fs))) (hl : 1 < fs.length) (hdg : decode cc pc = .ok (.putfield 21, 3)) (kk : ∀ (w1 : zw) (H1 : Heap) (locs1 : List Loc), w1 = va_up w a (some (.inr (5, fs.set 1 (.int x)))) → Zw G.1 vwC (zA n0) w1 H1 → va_S (zA n0) s.heap H1 locs1 → W p l e R s m args below meth c H1 locs1 cells slots Q (F0 m (pc + 3) ls rest)) : W p l e R s m args below meth c H locs cells slots Q (F0 m pc ls (.int x :: .ref a :: rest)) := z_put (T := T_D) cx.1 cx.2.1 cx.tb in_D ty_D ty_D_ok nm_D cx.ow cx.K hZ hS he rfl 1 (by decide) (cx.tb _ tw_36) (fun _ h => h) rfl (ty_D_ok 1 (by decide)) rfl rfl hl hdg (fun H1 locs1 z1 s1 => kk _ H1 locs1 rfl z1 s1)
theorem ip_D_25 {rm : Room} {As st0 : List Value} {post : Option Value → zw → Prop} (cx : Cx G n0 e0 p s m args meth c cc nL "BoxDesk" ret) (hM : Ct l G n0 e0 y_L_init b_L_init 2 none rm (.ref a :: As) w post) (hR : rm.frames + 1 ≤ R.frames ∧ 8 + (2 + 11) + rm.locals ≤ R.locals) (hf : cells + rm.cells ≤ R.cells ∧ slots + rm.slots ≤ R.slots) (hn : As.length = 1) (hsz : ls.size = nL) (hst : st0 = As.reverse ++ .ref a :: rest) (h8 : (rest.map fun v => v.category).sum ≤ 8) (hdg : decode cc pc = .ok (.invokespecial 25, 3)) (hZ : Zw G.1 vwC (zA n0) w H) (hS : va_S (zA n0) s.heap H locs) (kk : ∀ (v : Option Value) (w1 : zw) (H1 : Heap) (locs1 : List Loc), post v w1 → Zw G.1 vwC (zA n0) w1 H1 → va_S (zA n0) s.heap H1 locs1 → W p l e R s m args below meth c H1 locs1 (cells + rm.cells) (slots + rm.slots) Q (F0 m (pc + 3) ls (v.toList ++ rest))) : W p l e R s m args below meth c H locs cells slots Q (F0 m pc ls st0) := z_ivI cx tw_55 tw_3 tw_53 tw_54 rfl (by decide +kernel) hM hR hf hn hsz hst h8 hdg hZ hS kk
theorem iv_D_28 {rm : Room} {As st0 : List Value} {post : Option Value → zw → Prop} (cx : Cx G n0 e0 p s m args meth c cc nL "BoxDesk" ret) (hM : Ct l G n0 e0 y_D_innermost b_D_innermost 1 (Option.some (FieldType.object "BoxDesk$ItemList")) rm (.ref a :: As) w post) (he : w a = some (.inr (5, fs))) (hR : rm.frames + 1 ≤ R.frames ∧ 8 + (1 + 11) + rm.locals ≤ R.locals) (hf : cells + rm.cells ≤ R.cells ∧ slots + rm.slots ≤ R.slots) (hn : As.length = 0) (hsz : ls.size = nL) (hst : st0 = As.reverse ++ .ref a :: rest) (h8 : (rest.map fun v => v.category).sum ≤ 8) (hdg : decode cc pc = .ok (.invokevirtual 28, 3)) (hZ : Zw G.1 vwC (zA n0) w H) (hS : va_S (zA n0) s.heap H locs) (kk : ∀ (v : Option Value) (w1 : zw) (H1 : Heap) (locs1 : List Loc), post v w1 → Zw G.1 vwC (zA n0) w1 H1 → va_S (zA n0) s.heap H1 locs1 → W p l e R s m args below meth c H1 locs1 (cells + rm.cells) (slots + rm.slots) Q (F0 m (pc + 3) ls (v.toList ++ rest))) : W p l e R s m args below meth c H locs cells slots Q (F0 m pc ls st0) := z_ivV (C := "BoxDesk") cx tw_102 tw_1 tw_99 tw_101 ts_0 (by decide +kernel) (hZ.recv cx.K rfl he) hM hR hf hn hsz hst h8 hdg hZ hS kk
theorem gf_D_32 (cx : Cx G n0 e0 p s m args meth c cc nL "BoxDesk" ret) (hZ : Zw G.1 vwC (zA n0) w H) (he : w a = some (.inr (2, fs))) (hv : fs[0]? = some v) (hdg : decode cc pc = .ok (.getfield 32, 3)) (kk : W p l e R s m args below meth c H locs cells slots Q (F0 m (pc + 3) ls (v :: rest))) : W p l e R s m args below meth c H locs cells slots Q (F0 m pc ls (.ref a :: rest)) := z_get (T := T_L) cx.1 cx.2.1 cx.tb in_L cx.ow cx.K hZ he rfl 0 (by decide) (cx.tb _ tw_85) (fun _ h => h) hv hdg kk
theorem is_D_36 {rm : Room} {As st0 : List Value} {post : Option Value → zw → Prop} (cx : Cx G n0 e0 p s m args meth c cc nL "BoxDesk" ret) (hM : Ct l G n0 e0 y_D_areSizes b_D_areSizes 3 (Option.some FieldType.boolean) rm As w post) (hR : rm.frames + 1 ≤ R.frames ∧ 8 + (3 + 11) + rm.locals ≤ R.locals) (hf : cells + rm.cells ≤ R.cells ∧ slots + rm.slots ≤ R.slots) (hn : As.length = 3) (hsz : ls.size = nL) (hst : st0 = As.reverse ++ rest) (h8 : (rest.map fun v => v.category).sum ≤ 8) (hdg : decode cc pc = .ok (.invokestatic 36, 3)) (hZ : Zw G.1 vwC (zA n0) w H) (hS : va_S (zA n0) s.heap H locs) (kk : ∀ (v : Option Value) (w1 : zw) (H1 : Heap) (locs1 : List Loc), post v w1 → Zw G.1 vwC (zA n0) w1 H1 → va_S (zA n0) s.heap H1 locs1 → W p l e R s m args below meth c H1 locs1 (cells + rm.cells) (slots + rm.slots) Q (F0 m (pc + 3) ls (v.toList ++ rest))) : W p l e R s m args below meth c H locs cells slots Q (F0 m pc ls st0) := z_ivS cx tw_105 tw_1 tw_103 tw_104 (by decide +kernel) hM hR hf hn hsz hst h8 hdg hZ hS kk
theorem kc_D_40 (cx : Cx G n0 e0 p s m args meth c cc nL "BoxDesk" ret) (hZ : Zw G.1 vwC (zA n0) w H) (he : w a = some (.inr (1, fs))) (hdg : decode cc pc = .ok (.checkcast 40, 3)) (kk : W p l e R s m args below meth c H locs cells slots Q (F0 m (pc + 3) ls (.ref a :: rest))) : W p l e R s m args below meth c H locs cells slots Q (F0 m pc ls (.ref a :: rest)) := va_castY (C := "BoxDesk$Item") cx.1 cx.2.1 cx.ow (cx.tb _ tw_111) (cx.nw _ nw_827) (hZ.recv cx.K rfl he) hdg kk
theorem nw_D_40_o (cx : Cx G n0 e0 p s m args meth c cc nL "BoxDesk" ret) (hZ : Zw G.1 vwC (zA n0) w H) (hS : va_S (zA n0) s.heap H locs) (hc : cells + 1 ≤ R.cells) (hs : slots + 12 ≤ R.slots) (hdg : decode cc pc = .ok (.new 40, 3)) (kk : ∀ (q : Nat) (w1 : zw) (H1 : Heap), w q = none → w1 = va_up w q (some (.inr (1, [.int 0, .int 0, .int 0, .int 0, .int 0, .int 0, .int 0, .int 0, .int 0, .int 0, .int 0, .int 0]))) → Zw G.1 vwC (zA n0) w1 H1 → va_S (zA n0) s.heap H1 locs → W p l e R s m args below meth c H1 locs (cells + 1) (slots + 12) Q (F0 m (pc + 3) ls (.ref q :: rest))) : W p l e R s m args below meth c H locs cells slots Q (F0 m pc ls rest) := z_new (T := T_I) cx.1 cx.2.1 cx.tb in_I ty_I ty_I_ok cx.ow (cx.tb _ tw_111) (cx.tb _ tw_112) (cx.tb _ tw_7) cx.K hZ hS cx.hA (ci := 1) rfl (fs := [.int 0, .int 0, .int 0, .int 0, .int 0, .int 0, .int 0, .int 0, .int 0, .int 0, .int 0, .int 0]) (fun j hj => by rcases (show j = 0 ∨ j = 1 ∨ j = 2 ∨ j = 3 ∨ j = 4 ∨ j = 5 ∨ j = 6 ∨ j = 7 ∨ j = 8 ∨ j = 9 ∨ j = 10 ∨ j = 11 by omega) with rfl | rfl | rfl | rfl | rfl | rfl | rfl | rfl | rfl | rfl | rfl | rfl <;> rfl) hc hs hdg (fun q H1 f1 z1 s1 => kk q _ H1 f1 rfl z1 s1)
theorem ip_D_42 {rm : Room} {As st0 : List Value} {post : Option Value → zw → Prop} (cx : Cx G n0 e0 p s m args meth c cc nL "BoxDesk" ret) (hM : Ct l G n0 e0 y_I_init b_I_init 5 none rm (.ref a :: As) w post) (hR : rm.frames + 1 ≤ R.frames ∧ 8 + (5 + 11) + rm.locals ≤ R.locals) (hf : cells + rm.cells ≤ R.cells ∧ slots + rm.slots ≤ R.slots) (hn : As.length = 4) (hsz : ls.size = nL) (hst : st0 = As.reverse ++ .ref a :: rest) (h8 : (rest.map fun v => v.category).sum ≤ 8) (hdg : decode cc pc = .ok (.invokespecial 42, 3)) (hZ : Zw G.1 vwC (zA n0) w H) (hS : va_S (zA n0) s.heap H locs) (kk : ∀ (v : Option Value) (w1 : zw) (H1 : Heap) (locs1 : List Loc), post v w1 → Zw G.1 vwC (zA n0) w1 H1 → va_S (zA n0) s.heap H1 locs1 → W p l e R s m args below meth c H1 locs1 (cells + rm.cells) (slots + rm.slots) Q (F0 m (pc + 3) ls (v.toList ++ rest))) : W p l e R s m args below meth c H locs cells slots Q (F0 m pc ls st0) := z_ivI cx tw_115 tw_7 tw_113 tw_114 rfl (by decide +kernel) hM hR hf hn hsz hst h8 hdg hZ hS kk
theorem iv_D_45 {rm : Room} {As st0 : List Value} {post : Option Value → zw → Prop} (cx : Cx G n0 e0 p s m args meth c cc nL "BoxDesk" ret) (hM : Ct l G n0 e0 y_D_join b_D_join 3 (Option.some FieldType.boolean) rm (.ref a :: As) w post) (he : w a = some (.inr (5, fs))) (hR : rm.frames + 1 ≤ R.frames ∧ 8 + (3 + 11) + rm.locals ≤ R.locals) (hf : cells + rm.cells ≤ R.cells ∧ slots + rm.slots ≤ R.slots) (hn : As.length = 2) (hsz : ls.size = nL) (hst : st0 = As.reverse ++ .ref a :: rest) (h8 : (rest.map fun v => v.category).sum ≤ 8) (hdg : decode cc pc = .ok (.invokevirtual 45, 3)) (hZ : Zw G.1 vwC (zA n0) w H) (hS : va_S (zA n0) s.heap H locs) (kk : ∀ (v : Option Value) (w1 : zw) (H1 : Heap) (locs1 : List Loc), post v w1 → Zw G.1 vwC (zA n0) w1 H1 → va_S (zA n0) s.heap H1 locs1 → W p l e R s m args below meth c H1 locs1 (cells + rm.cells) (slots + rm.slots) Q (F0 m (pc + 3) ls (v.toList ++ rest))) : W p l e R s m args below meth c H locs cells slots Q (F0 m pc ls st0) := z_ivV (C := "BoxDesk") cx tw_169 tw_1 tw_166 tw_168 ts_1 (by decide +kernel) (hZ.recv cx.K rfl he) hM hR hf hn hsz hst h8 hdg hZ hS kk
theorem is_D_49 {rm : Room} {As st0 : List Value} {post : Option Value → zw → Prop} (cx : Cx G n0 e0 p s m args meth c cc nL "BoxDesk" ret) (hM : Ct l G n0 e0 y_I_ofRule b_I_ofRule 5 (Option.some (FieldType.object "BoxDesk$Item")) rm As w post) (hR : rm.frames + 1 ≤ R.frames ∧ 8 + (5 + 11) + rm.locals ≤ R.locals) (hf : cells + rm.cells ≤ R.cells ∧ slots + rm.slots ≤ R.slots) (hn : As.length = 4) (hsz : ls.size = nL) (hst : st0 = As.reverse ++ rest) (h8 : (rest.map fun v => v.category).sum ≤ 8) (hdg : decode cc pc = .ok (.invokestatic 49, 3)) (hZ : Zw G.1 vwC (zA n0) w H) (hS : va_S (zA n0) s.heap H locs) (kk : ∀ (v : Option Value) (w1 : zw) (H1 : Heap) (locs1 : List Loc), post v w1 → Zw G.1 vwC (zA n0) w1 H1 → va_S (zA n0) s.heap H1 locs1 → W p l e R s m args below meth c H1 locs1 (cells + rm.cells) (slots + rm.slots) Q (F0 m (pc + 3) ls (v.toList ++ rest))) : W p l e R s m args below meth c H locs cells slots Q (F0 m pc ls st0) := z_ivS cx tw_234 tw_7 tw_232 tw_233 (by decide +kernel) hM hR hf hn hsz hst h8 hdg hZ hS kk
theorem is_D_53 {rm : Room} {As st0 : List Value} {post : Option Value → zw → Prop} (cx : Cx G n0 e0 p s m args meth c cc nL "BoxDesk" ret) (hM : Ct l G n0 e0 y_I_ofGlue b_I_ofGlue 5 (Option.some (FieldType.object "BoxDesk$Item")) rm As w post) (hR : rm.frames + 1 ≤ R.frames ∧ 8 + (5 + 11) + rm.locals ≤ R.locals) (hf : cells + rm.cells ≤ R.cells ∧ slots + rm.slots ≤ R.slots) (hn : As.length = 4) (hsz : ls.size = nL) (hst : st0 = As.reverse ++ rest) (h8 : (rest.map fun v => v.category).sum ≤ 8) (hdg : decode cc pc = .ok (.invokestatic 53, 3)) (hZ : Zw G.1 vwC (zA n0) w H) (hS : va_S (zA n0) s.heap H locs) (kk : ∀ (v : Option Value) (w1 : zw) (H1 : Heap) (locs1 : List Loc), post v w1 → Zw G.1 vwC (zA n0) w1 H1 → va_S (zA n0) s.heap H1 locs1 → W p l e R s m args below meth c H1 locs1 (cells + rm.cells) (slots + rm.slots) Q (F0 m (pc + 3) ls (v.toList ++ rest))) : W p l e R s m args below meth c H locs cells slots Q (F0 m pc ls st0) := z_ivS cx tw_243 tw_7 tw_241 tw_242 (by decide +kernel) hM hR hf hn hsz hst h8 hdg hZ hS kk
theorem is_D_56 {rm : Room} {As st0 : List Value} {post : Option Value → zw → Prop} (cx : Cx G n0 e0 p s m args meth c cc nL "BoxDesk" ret) (hM : Ct l G n0 e0 y_D_isSize b_D_isSize 2 (Option.some FieldType.boolean) rm As w post) (hR : rm.frames + 1 ≤ R.frames ∧ 8 + (2 + 11) + rm.locals ≤ R.locals) (hf : cells + rm.cells ≤ R.cells ∧ slots + rm.slots ≤ R.slots) (hn : As.length = 1) (hsz : ls.size = nL) (hst : st0 = As.reverse ++ rest) (h8 : (rest.map fun v => v.category).sum ≤ 8) (hdg : decode cc pc = .ok (.invokestatic 56, 3)) (hZ : Zw G.1 vwC (zA n0) w H) (hS : va_S (zA n0) s.heap H locs) (kk : ∀ (v : Option Value) (w1 : zw) (H1 : Heap) (locs1 : List Loc), post v w1 → Zw G.1 vwC (zA n0) w1 H1 → va_S (zA n0) s.heap H1 locs1 → W p l e R s m args below meth c H1 locs1 (cells + rm.cells) (slots + rm.slots) Q (F0 m (pc + 3) ls (v.toList ++ rest))) : W p l e R s m args below meth c H locs cells slots Q (F0 m pc ls st0) := z_ivS cx tw_108 tw_1 tw_106 tw_107 (by decide +kernel) hM hR hf hn hsz hst h8 hdg hZ hS kk
theorem is_D_60 {rm : Room} {As st0 : List Value} {post : Option Value → zw → Prop} (cx : Cx G n0 e0 p s m args meth c cc nL "BoxDesk" ret) (hM : Ct l G n0 e0 y_I_ofPenalty b_I_ofPenalty 2 (Option.some (FieldType.object "BoxDesk$Item")) rm As w post) (hR : rm.frames + 1 ≤ R.frames ∧ 8 + (2 + 11) + rm.locals ≤ R.locals) (hf : cells + rm.cells ≤ R.cells ∧ slots + rm.slots ≤ R.slots) (hn : As.length = 1) (hsz : ls.size = nL) (hst : st0 = As.reverse ++ rest) (h8 : (rest.map fun v => v.category).sum ≤ 8) (hdg : decode cc pc = .ok (.invokestatic 60, 3)) (hZ : Zw G.1 vwC (zA n0) w H) (hS : va_S (zA n0) s.heap H locs) (kk : ∀ (v : Option Value) (w1 : zw) (H1 : Heap) (locs1 : List Loc), post v w1 → Zw G.1 vwC (zA n0) w1 H1 → va_S (zA n0) s.heap H1 locs1 → W p l e R s m args below meth c H1 locs1 (cells + rm.cells) (slots + rm.slots) Q (F0 m (pc + 3) ls (v.toList ++ rest))) : W p l e R s m args below meth c H locs cells slots Q (F0 m pc ls st0) := z_ivS cx tw_254 tw_7 tw_252 tw_253 (by decide +kernel) hM hR hf hn hsz hst h8 hdg hZ hS kk
theorem is_D_71 {rm : Room} {As st0 : List Value} {post : Option Value → zw → Prop} (cx : Cx G n0 e0 p s m args meth c cc nL "BoxDesk" ret) (hM : Ct l G n0 e0 y_D_isRegister b_D_isRegister 1 (Option.some FieldType.boolean) rm As w post) (hR : rm.frames + 1 ≤ R.frames ∧ 8 + (1 + 11) + rm.locals ≤ R.locals) (hf : cells + rm.cells ≤ R.cells ∧ slots + rm.slots ≤ R.slots) (hn : As.length = 1) (hsz : ls.size = nL) (hst : st0 = As.reverse ++ rest) (h8 : (rest.map fun v => v.category).sum ≤ 8) (hdg : decode cc pc = .ok (.invokestatic 71, 3)) (hZ : Zw G.1 vwC (zA n0) w H) (hS : va_S (zA n0) s.heap H locs) (kk : ∀ (v : Option Value) (w1 : zw) (H1 : Heap) (locs1 : List Loc), post v w1 → Zw G.1 vwC (zA n0) w1 H1 → va_S (zA n0) s.heap H1 locs1 → W p l e R s m args below meth c H1 locs1 (cells + rm.cells) (slots + rm.slots) Q (F0 m (pc + 3) ls (v.toList ++ rest))) : W p l e R s m args below meth c H locs cells slots Q (F0 m pc ls st0) := z_ivS cx tw_265 tw_1 tw_263 tw_264 (by decide +kernel) hM hR hf hn hsz hst h8 hdg hZ hS kk
theorem is_D_80 {rm : Room} {As st0 : List Value} {post : Option Value → zw → Prop} (cx : Cx G n0 e0 p s m args meth c cc nL "BoxDesk" ret) (hM : Ct l G n0 e0 y_D_measured b_D_measured 5 (Option.some (FieldType.object "BoxDesk$Measure")) rm As w post) (hR : rm.frames + 1 ≤ R.frames ∧ 8 + (5 + 11) + rm.locals ≤ R.locals) (hf : cells + rm.cells ≤ R.cells ∧ slots + rm.slots ≤ R.slots) (hn : As.length = 2) (hsz : ls.size = nL) (hst : st0 = As.reverse ++ rest) (h8 : (rest.map fun v => v.category).sum ≤ 8) (hdg : decode cc pc = .ok (.invokestatic 80, 3)) (hZ : Zw G.1 vwC (zA n0) w H) (hS : va_S (zA n0) s.heap H locs) (kk : ∀ (v : Option Value) (w1 : zw) (H1 : Heap) (locs1 : List Loc), post v w1 → Zw G.1 vwC (zA n0) w1 H1 → va_S (zA n0) s.heap H1 locs1 → W p l e R s m args below meth c H1 locs1 (cells + rm.cells) (slots + rm.slots) Q (F0 m (pc + 3) ls (v.toList ++ rest))) : W p l e R s m args below meth c H locs cells slots Q (F0 m pc ls st0) := z_ivS cx tw_399 tw_1 tw_397 tw_398 (by decide +kernel) hM hR hf hn hsz hst h8 hdg hZ hS kk
theorem gf_D_84 (cx : Cx G n0 e0 p s m args meth c cc nL "BoxDesk" ret) (hZ : Zw G.1 vwC (zA n0) w H) (he : w a = some (.inr (3, fs))) (hv : fs[0]? = some v) (hdg : decode cc pc = .ok (.getfield 84, 3)) (kk : W p l e R s m args below meth c H locs cells slots Q (F0 m (pc + 3) ls (v :: rest))) : W p l e R s m args below meth c H locs cells slots Q (F0 m pc ls (.ref a :: rest)) := z_get (T := T_M) cx.1 cx.2.1 cx.tb in_M cx.ow cx.K hZ he rfl 0 (by decide) (cx.tb _ tw_408) (fun _ h => h) hv hdg kk
theorem nw_D_85_o (cx : Cx G n0 e0 p s m args meth c cc nL "BoxDesk" ret) (hZ : Zw G.1 vwC (zA n0) w H) (hS : va_S (zA n0) s.heap H locs) (hc : cells + 1 ≤ R.cells) (hs : slots + 8 ≤ R.slots) (hdg : decode cc pc = .ok (.new 85, 3)) (kk : ∀ (q : Nat) (w1 : zw) (H1 : Heap), w q = none → w1 = va_up w q (some (.inr (3, [.long 0, .long 0, .long 0, .long 0, .null, .long 0, .int 0, .int 0]))) → Zw G.1 vwC (zA n0) w1 H1 → va_S (zA n0) s.heap H1 locs → W p l e R s m args below meth c H1 locs (cells + 1) (slots + 8) Q (F0 m (pc + 3) ls (.ref q :: rest))) : W p l e R s m args below meth c H locs cells slots Q (F0 m pc ls rest) := z_new (T := T_M) cx.1 cx.2.1 cx.tb in_M ty_M ty_M_ok cx.ow (cx.tb _ tw_400) (cx.tb _ tw_401) (cx.tb _ tw_17) cx.K hZ hS cx.hA (ci := 3) rfl (fs := [.long 0, .long 0, .long 0, .long 0, .null, .long 0, .int 0, .int 0]) (fun j hj => by rcases (show j = 0 ∨ j = 1 ∨ j = 2 ∨ j = 3 ∨ j = 4 ∨ j = 5 ∨ j = 6 ∨ j = 7 by omega) with rfl | rfl | rfl | rfl | rfl | rfl | rfl | rfl <;> rfl) hc hs hdg (fun q H1 f1 z1 s1 => kk q _ H1 f1 rfl z1 s1)
theorem is_D_90 {rm : Room} {As st0 : List Value} {post : Option Value → zw → Prop} (cx : Cx G n0 e0 p s m args meth c cc nL "BoxDesk" ret) (hM : Ct l G n0 e0 y_D_wanted b_D_wanted 4 (Option.some FieldType.long) rm As w post) (hR : rm.frames + 1 ≤ R.frames ∧ 8 + (4 + 11) + rm.locals ≤ R.locals) (hf : cells + rm.cells ≤ R.cells ∧ slots + rm.slots ≤ R.slots) (hn : As.length = 3) (hsz : ls.size = nL) (hst : st0 = As.reverse ++ rest) (h8 : (rest.map fun v => v.category).sum ≤ 8) (hdg : decode cc pc = .ok (.invokestatic 90, 3)) (hZ : Zw G.1 vwC (zA n0) w H) (hS : va_S (zA n0) s.heap H locs) (kk : ∀ (v : Option Value) (w1 : zw) (H1 : Heap) (locs1 : List Loc), post v w1 → Zw G.1 vwC (zA n0) w1 H1 → va_S (zA n0) s.heap H1 locs1 → W p l e R s m args below meth c H1 locs1 (cells + rm.cells) (slots + rm.slots) Q (F0 m (pc + 3) ls (v.toList ++ rest))) : W p l e R s m args below meth c H locs cells slots Q (F0 m pc ls st0) := z_ivS cx tw_471 tw_1 tw_469 tw_470 (by decide +kernel) hM hR hf hn hsz hst h8 hdg hZ hS kk
theorem gf_D_94 (cx : Cx G n0 e0 p s m args meth c cc nL "BoxDesk" ret) (hZ : Zw G.1 vwC (zA n0) w H) (he : w a = some (.inr (5, fs))) (hv : fs[3]? = some v) (hdg : decode cc pc = .ok (.getfield 94, 3)) (kk : W p l e R s m args below meth c H locs cells slots Q (F0 m (pc + 3) ls (v :: rest))) : W p l e R s m args below meth c H locs cells slots Q (F0 m pc ls (.ref a :: rest)) := z_get (T := T_D) cx.1 cx.2.1 cx.tb in_D cx.ow cx.K hZ he rfl 3 (by decide) (cx.tb _ tw_38) (fun _ h => h) hv hdg kk
theorem pf_D_94 {x : Int32} (cx : Cx G n0 e0 p s m args meth c cc nL "BoxDesk" ret) (hZ : Zw G.1 vwC (zA n0) w H) (hS : va_S (zA n0) s.heap H locs) (he : w a = some (.inr (5, fs))) (hl : 3 < fs.length) (hdg : decode cc pc = .ok (.putfield 94, 3)) (kk : ∀ (w1 : zw) (H1 : Heap) (locs1 : List Loc), w1 = va_up w a (some (.inr (5, fs.set 3 (.int x)))) → Zw G.1 vwC (zA n0) w1 H1 → va_S (zA n0) s.heap H1 locs1 → W p l e R s m args below meth c H1 locs1 cells slots Q (F0 m (pc + 3) ls rest)) : W p l e R s m args below meth c H locs cells slots Q (F0 m pc ls (.int x :: .ref a :: rest)) := z_put (T := T_D) cx.1 cx.2.1 cx.tb in_D ty_D ty_D_ok nm_D cx.ow cx.K hZ hS he rfl 3 (by decide) (cx.tb _ tw_38) (fun _ h => h) rfl (ty_D_ok 3 (by decide)) rfl rfl hl hdg (fun H1 locs1 z1 s1 => kk _ H1 locs1 rfl z1 s1)
theorem iv_D_97 {rm : Room} {As st0 : List Value} {post : Option Value → zw → Prop} (cx : Cx G n0 e0 p s m args meth c cc nL "BoxDesk" ret) (hM : Ct l G n0 e0 y_M_canBeBoxed b_M_canBeBoxed 2 (Option.some FieldType.boolean) rm (.ref a :: As) w post) (he : w a = some (.inr (3, fs))) (hR : rm.frames + 1 ≤ R.frames ∧ 8 + (2 + 11) + rm.locals ≤ R.locals) (hf : cells + rm.cells ≤ R.cells ∧ slots + rm.slots ≤ R.slots) (hn : As.length = 0) (hsz : ls.size = nL) (hst : st0 = As.reverse ++ .ref a :: rest) (h8 : (rest.map fun v => v.category).sum ≤ 8) (hdg : decode cc pc = .ok (.invokevirtual 97, 3)) (hZ : Zw G.1 vwC (zA n0) w H) (hS : va_S (zA n0) s.heap H locs) (kk : ∀ (v : Option Value) (w1 : zw) (H1 : Heap) (locs1 : List Loc), post v w1 → Zw G.1 vwC (zA n0) w1 H1 → va_S (zA n0) s.heap H1 locs1 → W p l e R s m args below meth c H1 locs1 (cells + rm.cells) (slots + rm.slots) Q (F0 m (pc + 3) ls (v.toList ++ rest))) : W p l e R s m args below meth c H locs cells slots Q (F0 m pc ls st0) := z_ivV (C := "BoxDesk$Measure") cx tw_475 tw_17 tw_472 tw_473 tw_474 (by decide +kernel) (hZ.recv cx.K rfl he) hM hR hf hn hsz hst h8 hdg hZ hS kk
theorem ip_D_106 {rm : Room} {As st0 : List Value} {post : Option Value → zw → Prop} (cx : Cx G n0 e0 p s m args meth c cc nL "BoxDesk" ret) (hM : Ct l G n0 e0 y_B_init b_B_init 4 none rm (.ref a :: As) w post) (hR : rm.frames + 1 ≤ R.frames ∧ 8 + (4 + 11) + rm.locals ≤ R.locals) (hf : cells + rm.cells ≤ R.cells ∧ slots + rm.slots ≤ R.slots) (hn : As.length = 3) (hsz : ls.size = nL) (hst : st0 = As.reverse ++ .ref a :: rest) (h8 : (rest.map fun v => v.category).sum ≤ 8) (hdg : decode cc pc = .ok (.invokespecial 106, 3)) (hZ : Zw G.1 vwC (zA n0) w H) (hS : va_S (zA n0) s.heap H locs) (kk : ∀ (v : Option Value) (w1 : zw) (H1 : Heap) (locs1 : List Loc), post v w1 → Zw G.1 vwC (zA n0) w1 H1 → va_S (zA n0) s.heap H1 locs1 → W p l e R s m args below meth c H1 locs1 (cells + rm.cells) (slots + rm.slots) Q (F0 m (pc + 3) ls (v.toList ++ rest))) : W p l e R s m args below meth c H locs cells slots Q (F0 m pc ls st0) := z_ivI cx tw_496 tw_21 tw_494 tw_495 rfl (by decide +kernel) hM hR hf hn hsz hst h8 hdg hZ hS kk
theorem is_D_109 {rm : Room} {As st0 : List Value} {post : Option Value → zw → Prop} (cx : Cx G n0 e0 p s m args meth c cc nL "BoxDesk" ret) (hM : Ct l G n0 e0 y_D_itemsOf b_D_itemsOf 1 (Option.some FieldType.int) rm As w post) (hR : rm.frames + 1 ≤ R.frames ∧ 8 + (1 + 11) + rm.locals ≤ R.locals) (hf : cells + rm.cells ≤ R.cells ∧ slots + rm.slots ≤ R.slots) (hn : As.length = 1) (hsz : ls.size = nL) (hst : st0 = As.reverse ++ rest) (h8 : (rest.map fun v => v.category).sum ≤ 8) (hdg : decode cc pc = .ok (.invokestatic 109, 3)) (hZ : Zw G.1 vwC (zA n0) w H) (hS : va_S (zA n0) s.heap H locs) (kk : ∀ (v : Option Value) (w1 : zw) (H1 : Heap) (locs1 : List Loc), post v w1 → Zw G.1 vwC (zA n0) w1 H1 → va_S (zA n0) s.heap H1 locs1 → W p l e R s m args below meth c H1 locs1 (cells + rm.cells) (slots + rm.slots) Q (F0 m (pc + 3) ls (v.toList ++ rest))) : W p l e R s m args below meth c H locs cells slots Q (F0 m pc ls st0) := z_ivS cx tw_268 tw_1 tw_266 tw_267 (by decide +kernel) hM hR hf hn hsz hst h8 hdg hZ hS kk
theorem iv_D_113 {rm : Room} {As st0 : List Value} {post : Option Value → zw → Prop} (cx : Cx G n0 e0 p s m args meth c cc nL "BoxDesk" ret) (hM : Ct l G n0 e0 y_D_boxIn b_D_boxIn 2 (Option.some (FieldType.object "BoxDesk$Box")) rm (.ref a :: As) w post) (he : w a = some (.inr (5, fs))) (hR : rm.frames + 1 ≤ R.frames ∧ 8 + (2 + 11) + rm.locals ≤ R.locals) (hf : cells + rm.cells ≤ R.cells ∧ slots + rm.slots ≤ R.slots) (hn : As.length = 1) (hsz : ls.size = nL) (hst : st0 = As.reverse ++ .ref a :: rest) (h8 : (rest.map fun v => v.category).sum ≤ 8) (hdg : decode cc pc = .ok (.invokevirtual 113, 3)) (hZ : Zw G.1 vwC (zA n0) w H) (hS : va_S (zA n0) s.heap H locs) (kk : ∀ (v : Option Value) (w1 : zw) (H1 : Heap) (locs1 : List Loc), post v w1 → Zw G.1 vwC (zA n0) w1 H1 → va_S (zA n0) s.heap H1 locs1 → W p l e R s m args below meth c H1 locs1 (cells + rm.cells) (slots + rm.slots) Q (F0 m (pc + 3) ls (v.toList ++ rest))) : W p l e R s m args below meth c H locs cells slots Q (F0 m pc ls st0) := z_ivV (C := "BoxDesk") cx tw_262 tw_1 tw_259 tw_261 ts_5 (by decide +kernel) (hZ.recv cx.K rfl he) hM hR hf hn hsz hst h8 hdg hZ hS kk
theorem gf_D_117 (cx : Cx G n0 e0 p s m args meth c cc nL "BoxDesk" ret) (hZ : Zw G.1 vwC (zA n0) w H) (he : w a = some (.inr (2, fs))) (hv : fs[1]? = some v) (hdg : decode cc pc = .ok (.getfield 117, 3)) (kk : W p l e R s m args below meth c H locs cells slots Q (F0 m (pc + 3) ls (v :: rest))) : W p l e R s m args below meth c H locs cells slots Q (F0 m pc ls (.ref a :: rest)) := z_get (T := T_L) cx.1 cx.2.1 cx.tb in_L cx.ow cx.K hZ he rfl 1 (by decide) (cx.tb _ tw_89) (fun _ h => h) hv hdg kk
theorem is_D_121 {rm : Room} {As st0 : List Value} {post : Option Value → zw → Prop} (cx : Cx G n0 e0 p s m args meth c cc nL "BoxDesk" ret) (hM : Ct l G n0 e0 y_I_ofBox b_I_ofBox 3 (Option.some (FieldType.object "BoxDesk$Item")) rm As w post) (hR : rm.frames + 1 ≤ R.frames ∧ 8 + (3 + 11) + rm.locals ≤ R.locals) (hf : cells + rm.cells ≤ R.cells ∧ slots + rm.slots ≤ R.slots) (hn : As.length = 2) (hsz : ls.size = nL) (hst : st0 = As.reverse ++ rest) (h8 : (rest.map fun v => v.category).sum ≤ 8) (hdg : decode cc pc = .ok (.invokestatic 121, 3)) (hZ : Zw G.1 vwC (zA n0) w H) (hS : va_S (zA n0) s.heap H locs) (kk : ∀ (v : Option Value) (w1 : zw) (H1 : Heap) (locs1 : List Loc), post v w1 → Zw G.1 vwC (zA n0) w1 H1 → va_S (zA n0) s.heap H1 locs1 → W p l e R s m args below meth c H1 locs1 (cells + rm.cells) (slots + rm.slots) Q (F0 m (pc + 3) ls (v.toList ++ rest))) : W p l e R s m args below meth c H locs cells slots Q (F0 m pc ls st0) := z_ivS cx tw_271 tw_7 tw_269 tw_270 (by decide +kernel) hM hR hf hn hsz hst h8 hdg hZ hS kk
theorem iv_D_125 {rm : Room} {As st0 : List Value} {post : Option Value → zw → Prop} (cx : Cx G n0 e0 p s m args meth c cc nL "BoxDesk" ret) (hM : Ct l G n0 e0 y_A_add_O b_A_add_O 2 (Option.some FieldType.boolean) rm (.ref a :: As) w post) (he : w a = some (.inr (0, fs))) (hR : rm.frames + 1 ≤ R.frames ∧ 8 + (2 + 11) + rm.locals ≤ R.locals) (hf : cells + rm.cells ≤ R.cells ∧ slots + rm.slots ≤ R.slots) (hn : As.length = 1) (hsz : ls.size = nL) (hst : st0 = As.reverse ++ .ref a :: rest) (h8 : (rest.map fun v => v.category).sum ≤ 8) (hdg : decode cc pc = .ok (.invokevirtual 125, 3)) (hZ : Zw G.1 vwC (zA n0) w H) (hS : va_S (zA n0) s.heap H locs) (kk : ∀ (v : Option Value) (w1 : zw) (H1 : Heap) (locs1 : List Loc), post v w1 → Zw G.1 vwC (zA n0) w1 H1 → va_S (zA n0) s.heap H1 locs1 → W p l e R s m args below meth c H1 locs1 (cells + rm.cells) (slots + rm.slots) Q (F0 m (pc + 3) ls (v.toList ++ rest))) : W p l e R s m args below meth c H locs cells slots Q (F0 m pc ls st0) := z_ivV (C := "java/util/ArrayList") cx tw_173 tw_6 tw_170 tw_171 tw_172 (by decide +kernel) (hZ.recv cx.K rfl he) hM hR hf hn hsz hst h8 hdg hZ hS kk
theorem gf_D_131 (cx : Cx G n0 e0 p s m args meth c cc nL "BoxDesk" ret) (hZ : Zw G.1 vwC (zA n0) w H) (he : w a = some (.inr (4, fs))) (hv : fs[0]? = some v) (hdg : decode cc pc = .ok (.getfield 131, 3)) (kk : W p l e R s m args below meth c H locs cells slots Q (F0 m (pc + 3) ls (v :: rest))) : W p l e R s m args below meth c H locs cells slots Q (F0 m pc ls (.ref a :: rest)) := z_get (T := T_B) cx.1 cx.2.1 cx.tb in_B cx.ow cx.K hZ he rfl 0 (by decide) (cx.tb _ tw_527) (fun _ h => h) hv hdg kk
theorem iv_D_135 {rm : Room} {As st0 : List Value} {post : Option Value → zw → Prop} (cx : Cx G n0 e0 p s m args meth c cc nL "BoxDesk" ret) (hM : Ct l G n0 e0 y_A_size b_A_size 1 (Option.some FieldType.int) rm (.ref a :: As) w post) (he : w a = some (.inr (0, fs))) (hR : rm.frames + 1 ≤ R.frames ∧ 8 + (1 + 11) + rm.locals ≤ R.locals) (hf : cells + rm.cells ≤ R.cells ∧ slots + rm.slots ≤ R.slots) (hn : As.length = 0) (hsz : ls.size = nL) (hst : st0 = As.reverse ++ .ref a :: rest) (h8 : (rest.map fun v => v.category).sum ≤ 8) (hdg : decode cc pc = .ok (.invokevirtual 135, 3)) (hZ : Zw G.1 vwC (zA n0) w H) (hS : va_S (zA n0) s.heap H locs) (kk : ∀ (v : Option Value) (w1 : zw) (H1 : Heap) (locs1 : List Loc), post v w1 → Zw G.1 vwC (zA n0) w1 H1 → va_S (zA n0) s.heap H1 locs1 → W p l e R s m args below meth c H1 locs1 (cells + rm.cells) (slots + rm.slots) Q (F0 m (pc + 3) ls (v.toList ++ rest))) : W p l e R s m args below meth c H locs cells slots Q (F0 m pc ls st0) := z_ivV (C := "java/util/ArrayList") cx tw_279 tw_6 tw_276 tw_277 tw_278 (by decide +kernel) (hZ.recv cx.K rfl he) hM hR hf hn hsz hst h8 hdg hZ hS kk
theorem iv_D_139 {rm : Room} {As st0 : List Value} {post : Option Value → zw → Prop} (cx : Cx G n0 e0 p s m args meth c cc nL "BoxDesk" ret) (hM : Ct l G n0 e0 y_A_get b_A_get 2 (Option.some (FieldType.object "java/lang/Object")) rm (.ref a :: As) w post) (he : w a = some (.inr (0, fs))) (hR : rm.frames + 1 ≤ R.frames ∧ 8 + (2 + 11) + rm.locals ≤ R.locals) (hf : cells + rm.cells ≤ R.cells ∧ slots + rm.slots ≤ R.slots) (hn : As.length = 1) (hsz : ls.size = nL) (hst : st0 = As.reverse ++ .ref a :: rest) (h8 : (rest.map fun v => v.category).sum ≤ 8) (hdg : decode cc pc = .ok (.invokevirtual 139, 3)) (hZ : Zw G.1 vwC (zA n0) w H) (hS : va_S (zA n0) s.heap H locs) (kk : ∀ (v : Option Value) (w1 : zw) (H1 : Heap) (locs1 : List Loc), post v w1 → Zw G.1 vwC (zA n0) w1 H1 → va_S (zA n0) s.heap H1 locs1 → W p l e R s m args below meth c H1 locs1 (cells + rm.cells) (slots + rm.slots) Q (F0 m (pc + 3) ls (v.toList ++ rest))) : W p l e R s m args below meth c H locs cells slots Q (F0 m pc ls st0) := z_ivV (C := "java/util/ArrayList") cx tw_283 tw_6 tw_280 tw_281 tw_282 (by decide +kernel) (hZ.recv cx.K rfl he) hM hR hf hn hsz hst h8 hdg hZ hS kk
theorem pf_D_143 {x : Int32} (cx : Cx G n0 e0 p s m args meth c cc nL "BoxDesk" ret) (hZ : Zw G.1 vwC (zA n0) w H) (hS : va_S (zA n0) s.heap H locs) (he : w a = some (.inr (4, fs))) (hl : 4 < fs.length) (hdg : decode cc pc = .ok (.putfield 143, 3)) (kk : ∀ (w1 : zw) (H1 : Heap) (locs1 : List Loc), w1 = va_up w a (some (.inr (4, fs.set 4 (.int x)))) → Zw G.1 vwC (zA n0) w1 H1 → va_S (zA n0) s.heap H1 locs1 → W p l e R s m args below meth c H1 locs1 cells slots Q (F0 m (pc + 3) ls rest)) : W p l e R s m args below meth c H locs cells slots Q (F0 m pc ls (.int x :: .ref a :: rest)) := z_put (T := T_B) cx.1 cx.2.1 cx.tb in_B ty_B ty_B_ok nm_B cx.ow cx.K hZ hS he rfl 4 (by decide) (cx.tb _ tw_537) (fun _ h => h) rfl (ty_B_ok 4 (by decide)) rfl rfl hl hdg (fun H1 locs1 z1 s1 => kk _ H1 locs1 rfl z1 s1)
theorem pf_D_146 {x : Int32} (cx : Cx G n0 e0 p s m args meth c cc nL "BoxDesk" ret) (hZ : Zw G.1 vwC (zA n0) w H) (hS : va_S (zA n0) s.heap H locs) (he : w a = some (.inr (4, fs))) (hl : 5 < fs.length) (hdg : decode cc pc = .ok (.putfield 146, 3)) (kk : ∀ (w1 : zw) (H1 : Heap) (locs1 : List Loc), w1 = va_up w a (some (.inr (4, fs.set 5 (.int x)))) → Zw G.1 vwC (zA n0) w1 H1 → va_S (zA n0) s.heap H1 locs1 → W p l e R s m args below meth c H1 locs1 cells slots Q (F0 m (pc + 3) ls rest)) : W p l e R s m args below meth c H locs cells slots Q (F0 m pc ls (.int x :: .ref a :: rest)) := z_put (T := T_B) cx.1 cx.2.1 cx.tb in_B ty_B ty_B_ok nm_B cx.ow cx.K hZ hS he rfl 5 (by decide) (cx.tb _ tw_540) (fun _ h => h) rfl (ty_B_ok 5 (by decide)) rfl rfl hl hdg (fun H1 locs1 z1 s1 => kk _ H1 locs1 rfl z1 s1)
theorem pf_D_149 {x : Int32} (cx : Cx G n0 e0 p s m args meth c cc nL "BoxDesk" ret) (hZ : Zw G.1 vwC (zA n0) w H) (hS : va_S (zA n0) s.heap H locs) (he : w a = some (.inr (4, fs))) (hl : 6 < fs.length) (hdg : decode cc pc = .ok (.putfield 149, 3)) (kk : ∀ (w1 : zw) (H1 : Heap) (locs1 : List Loc), w1 = va_up w a (some (.inr (4, fs.set 6 (.int x)))) → Zw G.1 vwC (zA n0) w1 H1 → va_S (zA n0) s.heap H1 locs1 → W p l e R s m args below meth c H1 locs1 cells slots Q (F0 m (pc + 3) ls rest)) : W p l e R s m args below meth c H locs cells slots Q (F0 m pc ls (.int x :: .ref a :: rest)) := z_put (T := T_B) cx.1 cx.2.1 cx.tb in_B ty_B ty_B_ok nm_B cx.ow cx.K hZ hS he rfl 6 (by decide) (cx.tb _ tw_543) (fun _ h => h) rfl (ty_B_ok 6 (by decide)) rfl rfl hl hdg (fun H1 locs1 z1 s1 => kk _ H1 locs1 rfl z1 s1)
theorem iv_D_157 {rm : Room} {As st0 : List Value} {post : Option Value → zw → Prop} (cx : Cx G n0 e0 p s m args meth c cc nL "BoxDesk" ret) (hM : Ct l G n0 e0 y_B_tell b_B_tell 2 (Option.some FieldType.int) rm (.ref a :: As) w post) (he : w a = some (.inr (4, fs))) (hR : rm.frames + 1 ≤ R.frames ∧ 8 + (2 + 11) + rm.locals ≤ R.locals) (hf : cells + rm.cells ≤ R.cells ∧ slots + rm.slots ≤ R.slots) (hn : As.length = 1) (hsz : ls.size = nL) (hst : st0 = As.reverse ++ .ref a :: rest) (h8 : (rest.map fun v => v.category).sum ≤ 8) (hdg : decode cc pc = .ok (.invokevirtual 157, 3)) (hZ : Zw G.1 vwC (zA n0) w H) (hS : va_S (zA n0) s.heap H locs) (kk : ∀ (v : Option Value) (w1 : zw) (H1 : Heap) (locs1 : List Loc), post v w1 → Zw G.1 vwC (zA n0) w1 H1 → va_S (zA n0) s.heap H1 locs1 → W p l e R s m args below meth c H1 locs1 (cells + rm.cells) (slots + rm.slots) Q (F0 m (pc + 3) ls (v.toList ++ rest))) : W p l e R s m args below meth c H locs cells slots Q (F0 m pc ls st0) := z_ivV (C := "BoxDesk$Box") cx tw_587 tw_21 tw_584 tw_585 tw_586 (by decide +kernel) (hZ.recv cx.K rfl he) hM hR hf hn hsz hst h8 hdg hZ hS kk
theorem gf_D_163 (cx : Cx G n0 e0 p s m args meth c cc nL "BoxDesk" ret) (hZ : Zw G.1 vwC (zA n0) w H) (he : w a = some (.inr (1, fs))) (hv : fs[0]? = some v) (hdg : decode cc pc = .ok (.getfield 163, 3)) (kk : W p l e R s m args below meth c H locs cells slots Q (F0 m (pc + 3) ls (v :: rest))) : W p l e R s m args below meth c H locs cells slots Q (F0 m pc ls (.ref a :: rest)) := z_get (T := T_I) cx.1 cx.2.1 cx.tb in_I cx.ow cx.K hZ he rfl 0 (by decide) (cx.tb _ tw_118) (fun _ h => h) hv hdg kk
theorem gf_D_166 (cx : Cx G n0 e0 p s m args meth c cc nL "BoxDesk" ret) (hZ : Zw G.1 vwC (zA n0) w H) (he : w a = some (.inr (4, fs))) (hv : fs[1]? = some v) (hdg : decode cc pc = .ok (.getfield 166, 3)) (kk : W p l e R s m args below meth c H locs cells slots Q (F0 m (pc + 3) ls (v :: rest))) : W p l e R s m args below meth c H locs cells slots Q (F0 m pc ls (.ref a :: rest)) := z_get (T := T_B) cx.1 cx.2.1 cx.tb in_B cx.ow cx.K hZ he rfl 1 (by decide) (cx.tb _ tw_529) (fun _ h => h) hv hdg kk
theorem iv_D_170 {rm : Room} {As st0 : List Value} {post : Option Value → zw → Prop} (cx : Cx G n0 e0 p s m args meth c cc nL "BoxDesk" ret) (hM : Ct l G n0 e0 y_I_tell b_I_tell 2 (Option.some FieldType.int) rm (.ref a :: As) w post) (he : w a = some (.inr (1, fs))) (hR : rm.frames + 1 ≤ R.frames ∧ 8 + (2 + 11) + rm.locals ≤ R.locals) (hf : cells + rm.cells ≤ R.cells ∧ slots + rm.slots ≤ R.slots) (hn : As.length = 1) (hsz : ls.size = nL) (hst : st0 = As.reverse ++ .ref a :: rest) (h8 : (rest.map fun v => v.category).sum ≤ 8) (hdg : decode cc pc = .ok (.invokevirtual 170, 3)) (hZ : Zw G.1 vwC (zA n0) w H) (hS : va_S (zA n0) s.heap H locs) (kk : ∀ (v : Option Value) (w1 : zw) (H1 : Heap) (locs1 : List Loc), post v w1 → Zw G.1 vwC (zA n0) w1 H1 → va_S (zA n0) s.heap H1 locs1 → W p l e R s m args below meth c H1 locs1 (cells + rm.cells) (slots + rm.slots) Q (F0 m (pc + 3) ls (v.toList ++ rest))) : W p l e R s m args below meth c H locs cells slots Q (F0 m pc ls st0) := z_ivV (C := "BoxDesk$Item") cx tw_600 tw_7 tw_597 tw_598 tw_599 (by decide +kernel) (hZ.recv cx.K rfl he) hM hR hf hn hsz hst h8 hdg hZ hS kk
theorem gf_D_171 (cx : Cx G n0 e0 p s m args meth c cc nL "BoxDesk" ret) (hZ : Zw G.1 vwC (zA n0) w H) (he : w a = some (.inr (4, fs))) (hv : fs[2]? = some v) (hdg : decode cc pc = .ok (.getfield 171, 3)) (kk : W p l e R s m args below meth c H locs cells slots Q (F0 m (pc + 3) ls (v :: rest))) : W p l e R s m args below meth c H locs cells slots Q (F0 m pc ls (.ref a :: rest)) := z_get (T := T_B) cx.1 cx.2.1 cx.tb in_B cx.ow cx.K hZ he rfl 2 (by decide) (cx.tb _ tw_532) (fun _ h => h) hv hdg kk
theorem lc_D_174 (cx : Cx G n0 e0 p s m args meth c cc nL "BoxDesk" ret) (hdg : decode cc pc = .ok (.ldc2_w 174, 3)) (kk : W p l e R s m args below meth c H locs cells slots Q (F0 m (pc + 3) ls (.long (-1073741823) :: rest))) : W p l e R s m args below meth c H locs cells slots Q (F0 m pc ls rest) := lv_ldc2 cx.1 cx.2.1 cx.ow (cx.tb _ tw_109) hdg kk
theorem lc_D_176 (cx : Cx G n0 e0 p s m args meth c cc nL "BoxDesk" ret) (hdg : decode cc pc = .ok (.ldc2_w 176, 3)) (kk : W p l e R s m args below meth c H locs cells slots Q (F0 m (pc + 3) ls (.long (1073741823) :: rest))) : W p l e R s m args below meth c H locs cells slots Q (F0 m pc ls rest) := lv_ldc2 cx.1 cx.2.1 cx.ow (cx.tb _ tw_110) hdg kk
theorem ip_D_178 {rm : Room} {As st0 : List Value} {post : Option Value → zw → Prop} (cx : Cx G n0 e0 p s m args meth c cc nL "BoxDesk" ret) (hM : Ct l G n0 e0 y_M_init b_M_init 1 none rm (.ref a :: As) w post) (hR : rm.frames + 1 ≤ R.frames ∧ 8 + (1 + 11) + rm.locals ≤ R.locals) (hf : cells + rm.cells ≤ R.cells ∧ slots + rm.slots ≤ R.slots) (hn : As.length = 0) (hsz : ls.size = nL) (hst : st0 = As.reverse ++ .ref a :: rest) (h8 : (rest.map fun v => v.category).sum ≤ 8) (hdg : decode cc pc = .ok (.invokespecial 178, 3)) (hZ : Zw G.1 vwC (zA n0) w H) (hS : va_S (zA n0) s.heap H locs) (kk : ∀ (v : Option Value) (w1 : zw) (H1 : Heap) (locs1 : List Loc), post v w1 → Zw G.1 vwC (zA n0) w1 H1 → va_S (zA n0) s.heap H1 locs1 → W p l e R s m args below meth c H1 locs1 (cells + rm.cells) (slots + rm.slots) Q (F0 m (pc + 3) ls (v.toList ++ rest))) : W p l e R s m args below meth c H locs cells slots Q (F0 m pc ls st0) := z_ivI cx tw_404 tw_17 tw_402 tw_403 rfl (by decide +kernel) hM hR hf hn hsz hst h8 hdg hZ hS kk
theorem iv_D_179 {rm : Room} {As st0 : List Value} {post : Option Value → zw → Prop} (cx : Cx G n0 e0 p s m args meth c cc nL "BoxDesk" ret) (hM : Ct l G n0 e0 y_M_takeGlueAndBoxes b_M_takeGlueAndBoxes 2 (Option.none : Option FieldType) rm (.ref a :: As) w post) (he : w a = some (.inr (3, fs))) (hR : rm.frames + 1 ≤ R.frames ∧ 8 + (2 + 11) + rm.locals ≤ R.locals) (hf : cells + rm.cells ≤ R.cells ∧ slots + rm.slots ≤ R.slots) (hn : As.length = 1) (hsz : ls.size = nL) (hst : st0 = As.reverse ++ .ref a :: rest) (h8 : (rest.map fun v => v.category).sum ≤ 8) (hdg : decode cc pc = .ok (.invokevirtual 179, 3)) (hZ : Zw G.1 vwC (zA n0) w H) (hS : va_S (zA n0) s.heap H locs) (kk : ∀ (v : Option Value) (w1 : zw) (H1 : Heap) (locs1 : List Loc), post v w1 → Zw G.1 vwC (zA n0) w1 H1 → va_S (zA n0) s.heap H1 locs1 → W p l e R s m args below meth c H1 locs1 (cells + rm.cells) (slots + rm.slots) Q (F0 m (pc + 3) ls (v.toList ++ rest))) : W p l e R s m args below meth c H locs cells slots Q (F0 m pc ls st0) := z_ivV (C := "BoxDesk$Measure") cx tw_444 tw_17 tw_441 tw_442 tw_443 (by decide +kernel) (hZ.recv cx.K rfl he) hM hR hf hn hsz hst h8 hdg hZ hS kk
theorem iv_D_183 {rm : Room} {As st0 : List Value} {post : Option Value → zw → Prop} (cx : Cx G n0 e0 p s m args meth c cc nL "BoxDesk" ret) (hM : Ct l G n0 e0 y_M_takeDownwards b_M_takeDownwards 2 (Option.none : Option FieldType) rm (.ref a :: As) w post) (he : w a = some (.inr (3, fs))) (hR : rm.frames + 1 ≤ R.frames ∧ 8 + (2 + 11) + rm.locals ≤ R.locals) (hf : cells + rm.cells ≤ R.cells ∧ slots + rm.slots ≤ R.slots) (hn : As.length = 1) (hsz : ls.size = nL) (hst : st0 = As.reverse ++ .ref a :: rest) (h8 : (rest.map fun v => v.category).sum ≤ 8) (hdg : decode cc pc = .ok (.invokevirtual 183, 3)) (hZ : Zw G.1 vwC (zA n0) w H) (hS : va_S (zA n0) s.heap H locs) (kk : ∀ (v : Option Value) (w1 : zw) (H1 : Heap) (locs1 : List Loc), post v w1 → Zw G.1 vwC (zA n0) w1 H1 → va_S (zA n0) s.heap H1 locs1 → W p l e R s m args below meth c H1 locs1 (cells + rm.cells) (slots + rm.slots) Q (F0 m (pc + 3) ls (v.toList ++ rest))) : W p l e R s m args below meth c H locs cells slots Q (F0 m pc ls st0) := z_ivV (C := "BoxDesk$Measure") cx tw_449 tw_17 tw_446 tw_447 tw_448 (by decide +kernel) (hZ.recv cx.K rfl he) hM hR hf hn hsz hst h8 hdg hZ hS kk
theorem iv_D_186 {rm : Room} {As st0 : List Value} {post : Option Value → zw → Prop} (cx : Cx G n0 e0 p s m args meth c cc nL "BoxDesk" ret) (hM : Ct l G n0 e0 y_M_takeAcross b_M_takeAcross 2 (Option.none : Option FieldType) rm (.ref a :: As) w post) (he : w a = some (.inr (3, fs))) (hR : rm.frames + 1 ≤ R.frames ∧ 8 + (2 + 11) + rm.locals ≤ R.locals) (hf : cells + rm.cells ≤ R.cells ∧ slots + rm.slots ≤ R.slots) (hn : As.length = 1) (hsz : ls.size = nL) (hst : st0 = As.reverse ++ .ref a :: rest) (h8 : (rest.map fun v => v.category).sum ≤ 8) (hdg : decode cc pc = .ok (.invokevirtual 186, 3)) (hZ : Zw G.1 vwC (zA n0) w H) (hS : va_S (zA n0) s.heap H locs) (kk : ∀ (v : Option Value) (w1 : zw) (H1 : Heap) (locs1 : List Loc), post v w1 → Zw G.1 vwC (zA n0) w1 H1 → va_S (zA n0) s.heap H1 locs1 → W p l e R s m args below meth c H1 locs1 (cells + rm.cells) (slots + rm.slots) Q (F0 m (pc + 3) ls (v.toList ++ rest))) : W p l e R s m args below meth c H locs cells slots Q (F0 m pc ls st0) := z_ivV (C := "BoxDesk$Measure") cx tw_464 tw_17 tw_461 tw_462 tw_463 (by decide +kernel) (hZ.recv cx.K rfl he) hM hR hf hn hsz hst h8 hdg hZ hS kk
theorem iv_D_189 {rm : Room} {As st0 : List Value} {post : Option Value → zw → Prop} (cx : Cx G n0 e0 p s m args meth c cc nL "BoxDesk" ret) (hM : Ct l G n0 e0 y_M_limitDepth b_M_limitDepth 2 (Option.none : Option FieldType) rm (.ref a :: As) w post) (he : w a = some (.inr (3, fs))) (hR : rm.frames + 1 ≤ R.frames ∧ 8 + (2 + 11) + rm.locals ≤ R.locals) (hf : cells + rm.cells ≤ R.cells ∧ slots + rm.slots ≤ R.slots) (hn : As.length = 1) (hsz : ls.size = nL) (hst : st0 = As.reverse ++ .ref a :: rest) (h8 : (rest.map fun v => v.category).sum ≤ 8) (hdg : decode cc pc = .ok (.invokevirtual 189, 3)) (hZ : Zw G.1 vwC (zA n0) w H) (hS : va_S (zA n0) s.heap H locs) (kk : ∀ (v : Option Value) (w1 : zw) (H1 : Heap) (locs1 : List Loc), post v w1 → Zw G.1 vwC (zA n0) w1 H1 → va_S (zA n0) s.heap H1 locs1 → W p l e R s m args below meth c H1 locs1 (cells + rm.cells) (slots + rm.slots) Q (F0 m (pc + 3) ls (v.toList ++ rest))) : W p l e R s m args below meth c H locs cells slots Q (F0 m pc ls st0) := z_ivV (C := "BoxDesk$Measure") cx tw_468 tw_17 tw_465 tw_466 tw_467 (by decide +kernel) (hZ.recv cx.K rfl he) hM hR hf hn hsz hst h8 hdg hZ hS kk
theorem iv_D_193 {rm : Room} {As st0 : List Value} {post : Option Value → zw → Prop} (cx : Cx G n0 e0 p s m args meth c cc nL "BoxDesk" ret) (hM : Ct l G n0 e0 y_M_highestOrder b_M_highestOrder 2 (Option.some FieldType.int) rm (.ref a :: As) w post) (he : w a = some (.inr (3, fs))) (hR : rm.frames + 1 ≤ R.frames ∧ 8 + (2 + 11) + rm.locals ≤ R.locals) (hf : cells + rm.cells ≤ R.cells ∧ slots + rm.slots ≤ R.slots) (hn : As.length = 0) (hsz : ls.size = nL) (hst : st0 = As.reverse ++ .ref a :: rest) (h8 : (rest.map fun v => v.category).sum ≤ 8) (hdg : decode cc pc = .ok (.invokevirtual 193, 3)) (hZ : Zw G.1 vwC (zA n0) w H) (hS : va_S (zA n0) s.heap H locs) (kk : ∀ (v : Option Value) (w1 : zw) (H1 : Heap) (locs1 : List Loc), post v w1 → Zw G.1 vwC (zA n0) w1 H1 → va_S (zA n0) s.heap H1 locs1 → W p l e R s m args below meth c H1 locs1 (cells + rm.cells) (slots + rm.slots) Q (F0 m (pc + 3) ls (v.toList ++ rest))) : W p l e R s m args below meth c H locs cells slots Q (F0 m pc ls st0) := z_ivV (C := "BoxDesk$Measure") cx tw_504 tw_17 tw_501 tw_502 tw_503 (by decide +kernel) (hZ.recv cx.K rfl he) hM hR hf hn hsz hst h8 hdg hZ hS kk
theorem gf_D_196 (cx : Cx G n0 e0 p s m args meth c cc nL "BoxDesk" ret) (hZ : Zw G.1 vwC (zA n0) w H) (he : w a = some (.inr (3, fs))) (hv : fs[5]? = some v) (hdg : decode cc pc = .ok (.getfield 196, 3)) (kk : W p l e R s m args below meth c H locs cells slots Q (F0 m (pc + 3) ls (v :: rest))) : W p l e R s m args below meth c H locs cells slots Q (F0 m pc ls (.ref a :: rest)) := z_get (T := T_M) cx.1 cx.2.1 cx.tb in_M cx.ow cx.K hZ he rfl 5 (by decide) (cx.tb _ tw_418) (fun _ h => h) hv hdg kk
theorem gf_D_199 (cx : Cx G n0 e0 p s m args meth c cc nL "BoxDesk" ret) (hZ : Zw G.1 vwC (zA n0) w H) (he : w a = some (.inr (3, fs))) (hv : fs[4]? = some v) (hdg : decode cc pc = .ok (.getfield 199, 3)) (kk : W p l e R s m args below meth c H locs cells slots Q (F0 m (pc + 3) ls (v :: rest))) : W p l e R s m args below meth c H locs cells slots Q (F0 m pc ls (.ref a :: rest)) := z_get (T := T_M) cx.1 cx.2.1 cx.tb in_M cx.ow cx.K hZ he rfl 4 (by decide) (cx.tb _ tw_416) (fun _ h => h) hv hdg kk
theorem mm_D_203 {x y : Int64} (cx : Cx G n0 e0 p s m args meth c cc nL "BoxDesk" ret) (hsz : ls.size = nL) (hdg : decode cc pc = .ok (.invokestatic 203, 3)) (hf : 1 ≤ R.frames) (hlo : (rest.map fun v => v.category).sum + 15 ≤ R.locals) (hc : cells ≤ R.cells) (hs : slots ≤ R.slots) (kk : W p l e R s m args below meth c H locs cells slots Q (F0 m (pc + 3) ls (.long (if y < x then x else y) :: rest))) : W p l e R s m args below meth c H locs cells slots Q (F0 m pc ls (.long y :: .long x :: rest)) := va_mmax_long cx.1 cx.2.1 (by rw [cx.ml, hsz]) cx.ow (cx.tb _ tw_505) (cx.tb _ tw_459) (cx.tb _ tw_9) (cx.tb _ tw_460) hf hlo hc hs hdg kk
theorem gf_D_209 (cx : Cx G n0 e0 p s m args meth c cc nL "BoxDesk" ret) (hZ : Zw G.1 vwC (zA n0) w H) (he : w a = some (.inr (1, fs))) (hv : fs[8]? = some v) (hdg : decode cc pc = .ok (.getfield 209, 3)) (kk : W p l e R s m args below meth c H locs cells slots Q (F0 m (pc + 3) ls (v :: rest))) : W p l e R s m args below meth c H locs cells slots Q (F0 m pc ls (.ref a :: rest)) := z_get (T := T_I) cx.1 cx.2.1 cx.tb in_I cx.ow cx.K hZ he rfl 8 (by decide) (cx.tb _ tw_134) (fun _ h => h) hv hdg kk
theorem iv_D_212 {rm : Room} {As st0 : List Value} {post : Option Value → zw → Prop} (cx : Cx G n0 e0 p s m args meth c cc nL "BoxDesk" ret) (hM : Ct l G n0 e0 y_I_stretchOf b_I_stretchOf 2 (Option.some FieldType.int) rm (.ref a :: As) w post) (he : w a = some (.inr (1, fs))) (hR : rm.frames + 1 ≤ R.frames ∧ 8 + (2 + 11) + rm.locals ≤ R.locals) (hf : cells + rm.cells ≤ R.cells ∧ slots + rm.slots ≤ R.slots) (hn : As.length = 1) (hsz : ls.size = nL) (hst : st0 = As.reverse ++ .ref a :: rest) (h8 : (rest.map fun v => v.category).sum ≤ 8) (hdg : decode cc pc = .ok (.invokevirtual 212, 3)) (hZ : Zw G.1 vwC (zA n0) w H) (hS : va_S (zA n0) s.heap H locs) (kk : ∀ (v : Option Value) (w1 : zw) (H1 : Heap) (locs1 : List Loc), post v w1 → Zw G.1 vwC (zA n0) w1 H1 → va_S (zA n0) s.heap H1 locs1 → W p l e R s m args below meth c H1 locs1 (cells + rm.cells) (slots + rm.slots) Q (F0 m (pc + 3) ls (v.toList ++ rest))) : W p l e R s m args below meth c H locs cells slots Q (F0 m pc ls st0) := z_ivV (C := "BoxDesk$Item") cx tw_509 tw_7 tw_506 tw_507 tw_508 (by decide +kernel) (hZ.recv cx.K rfl he) hM hR hf hn hsz hst h8 hdg hZ hS kk
theorem is_D_215 {rm : Room} {As st0 : List Value} {post : Option Value → zw → Prop} (cx : Cx G n0 e0 p s m args meth c cc nL "BoxDesk" ret) (hM : Ct l G n0 e0 y_D_near b_D_near 6 (Option.some FieldType.long) rm As w post) (hR : rm.frames + 1 ≤ R.frames ∧ 8 + (6 + 11) + rm.locals ≤ R.locals) (hf : cells + rm.cells ≤ R.cells ∧ slots + rm.slots ≤ R.slots) (hn : As.length = 2) (hsz : ls.size = nL) (hst : st0 = As.reverse ++ rest) (h8 : (rest.map fun v => v.category).sum ≤ 8) (hdg : decode cc pc = .ok (.invokestatic 215, 3)) (hZ : Zw G.1 vwC (zA n0) w H) (hS : va_S (zA n0) s.heap H locs) (kk : ∀ (v : Option Value) (w1 : zw) (H1 : Heap) (locs1 : List Loc), post v w1 → Zw G.1 vwC (zA n0) w1 H1 → va_S (zA n0) s.heap H1 locs1 → W p l e R s m args below meth c H1 locs1 (cells + rm.cells) (slots + rm.slots) Q (F0 m (pc + 3) ls (v.toList ++ rest))) : W p l e R s m args below meth c H locs cells slots Q (F0 m pc ls st0) := z_ivS cx tw_512 tw_1 tw_510 tw_511 (by decide +kernel) hM hR hf hn hsz hst h8 hdg hZ hS kk
theorem gf_D_218 (cx : Cx G n0 e0 p s m args meth c cc nL "BoxDesk" ret) (hZ : Zw G.1 vwC (zA n0) w H) (he : w a = some (.inr (1, fs))) (hv : fs[1]? = some v) (hdg : decode cc pc = .ok (.getfield 218, 3)) (kk : W p l e R s m args below meth c H locs cells slots Q (F0 m (pc + 3) ls (v :: rest))) : W p l e R s m args below meth c H locs cells slots Q (F0 m pc ls (.ref a :: rest)) := z_get (T := T_I) cx.1 cx.2.1 cx.tb in_I cx.ow cx.K hZ he rfl 1 (by decide) (cx.tb _ tw_121) (fun _ h => h) hv hdg kk
theorem is_D_219 {rm : Room} {As st0 : List Value} {post : Option Value → zw → Prop} (cx : Cx G n0 e0 p s m args meth c cc nL "BoxDesk" ret) (hM : Ct l G n0 e0 y_D_asSetWidth b_D_asSetWidth 2 (Option.some FieldType.int) rm As w post) (hR : rm.frames + 1 ≤ R.frames ∧ 8 + (2 + 11) + rm.locals ≤ R.locals) (hf : cells + rm.cells ≤ R.cells ∧ slots + rm.slots ≤ R.slots) (hn : As.length = 1) (hsz : ls.size = nL) (hst : st0 = As.reverse ++ rest) (h8 : (rest.map fun v => v.category).sum ≤ 8) (hdg : decode cc pc = .ok (.invokestatic 219, 3)) (hZ : Zw G.1 vwC (zA n0) w H) (hS : va_S (zA n0) s.heap H locs) (kk : ∀ (v : Option Value) (w1 : zw) (H1 : Heap) (locs1 : List Loc), post v w1 → Zw G.1 vwC (zA n0) w1 H1 → va_S (zA n0) s.heap H1 locs1 → W p l e R s m args below meth c H1 locs1 (cells + rm.cells) (slots + rm.slots) Q (F0 m (pc + 3) ls (v.toList ++ rest))) : W p l e R s m args below meth c H locs cells slots Q (F0 m pc ls st0) := z_ivS cx tw_519 tw_1 tw_517 tw_518 (by decide +kernel) hM hR hf hn hsz hst h8 hdg hZ hS kk
theorem lc_D_223 (cx : Cx G n0 e0 p s m args meth c cc nL "BoxDesk" ret) (hdg : decode cc pc = .ok (.ldc2_w 223, 3)) (kk : W p l e R s m args below meth c H locs cells slots Q (F0 m (pc + 3) ls (.long (-2147483647) :: rest))) : W p l e R s m args below meth c H locs cells slots Q (F0 m pc ls rest) := lv_ldc2 cx.1 cx.2.1 cx.ow (cx.tb _ tw_520) hdg kk
theorem lc_D_225 (cx : Cx G n0 e0 p s m args meth c cc nL "BoxDesk" ret) (hdg : decode cc pc = .ok (.ldc2_w 225, 3)) (kk : W p l e R s m args below meth c H locs cells slots Q (F0 m (pc + 3) ls (.long (2147483647) :: rest))) : W p l e R s m args below meth c H locs cells slots Q (F0 m pc ls rest) := lv_ldc2 cx.1 cx.2.1 cx.ow (cx.tb _ tw_521) hdg kk
theorem mm_D_227 {x y : Int64} (cx : Cx G n0 e0 p s m args meth c cc nL "BoxDesk" ret) (hsz : ls.size = nL) (hdg : decode cc pc = .ok (.invokestatic 227, 3)) (hf : 1 ≤ R.frames) (hlo : (rest.map fun v => v.category).sum + 15 ≤ R.locals) (hc : cells ≤ R.cells) (hs : slots ≤ R.slots) (kk : W p l e R s m args below meth c H locs cells slots Q (F0 m (pc + 3) ls (.long (if y < x then y else x) :: rest))) : W p l e R s m args below meth c H locs cells slots Q (F0 m pc ls (.long y :: .long x :: rest)) := va_mmin_long cx.1 cx.2.1 (by rw [cx.ml, hsz]) cx.ow (cx.tb _ tw_522) (cx.tb _ tw_523) (cx.tb _ tw_9) (cx.tb _ tw_524) hf hlo hc hs hdg kk
theorem lc_D_230 (cx : Cx G n0 e0 p s m args meth c cc nL "BoxDesk" ret) (hdg : decode cc pc = .ok (.ldc2_w 230, 3)) (kk : W p l e R s m args below meth c H locs cells slots Q (F0 m (pc + 3) ls (.long (2) :: rest))) : W p l e R s m args below meth c H locs cells slots Q (F0 m pc ls rest) := lv_ldc2 cx.1 cx.2.1 cx.ow (cx.tb _ tw_513) hdg kk
theorem mm_D_232 {x : Int64} (cx : Cx G n0 e0 p s m args meth c cc nL "BoxDesk" ret) (hsz : ls.size = nL) (hdg : decode cc pc = .ok (.invokestatic 232, 3)) (hf : 1 ≤ R.frames) (hlo : (rest.map fun v => v.category).sum + 13 ≤ R.locals) (hc : cells ≤ R.cells) (hs : slots ≤ R.slots) (kk : W p l e R s m args below meth c H locs cells slots Q (F0 m (pc + 3) ls (.long (if 0 < x then x else -x) :: rest))) : W p l e R s m args below meth c H locs cells slots Q (F0 m pc ls (.long x :: rest)) := va_mabs_long cx.1 cx.2.1 (by rw [cx.ml, hsz]) cx.ow (cx.tb _ tw_514) (cx.tb _ tw_515) (cx.tb _ tw_9) (cx.tb _ tw_516) hf hlo hc hs hdg kk
theorem oi_B_1 (cx : Cx G n0 e0 p s m args meth c cc nL "BoxDesk$Box" ret) (hl : ls.size = nL) (hdg : decode cc pc = .ok (.invokespecial 1, 3)) (hf : 1 ≤ R.frames) (hlo : 2 * (F0 m pc ls (.ref a :: rest)).monitorRoom + (rest.map fun v => v.category).sum + 12 ≤ R.locals) (kk : W p l e R s m args below meth c H locs cells slots Q (F0 m (pc + 3) ls rest)) : W p l e R s m args below meth c H locs cells slots Q (F0 m pc ls (.ref a :: rest)) := W.objInit cx.1 cx.2.1 cx.ow (cx.tb _ tw_497) (cx.tb _ tw_29) (cx.tb _ tw_30) rfl (by rw [cx.ml]; exact hl) rfl hdg hf hlo kk
theorem gf_B_7 (cx : Cx G n0 e0 p s m args meth c cc nL "BoxDesk$Box" ret) (hZ : Zw G.1 vwC (zA n0) w H) (he : w a = some (.inr (4, fs))) (hv : fs[0]? = some v) (hdg : decode cc pc = .ok (.getfield 7, 3)) (kk : W p l e R s m args below meth c H locs cells slots Q (F0 m (pc + 3) ls (v :: rest))) : W p l e R s m args below meth c H locs cells slots Q (F0 m pc ls (.ref a :: rest)) := z_get (T := T_B) cx.1 cx.2.1 cx.tb in_B cx.ow cx.K hZ he rfl 0 (by decide) (cx.tb _ tw_525) (fun _ h => h) hv hdg kk
theorem pf_B_7 {x : Nat} (cx : Cx G n0 e0 p s m args meth c cc nL "BoxDesk$Box" ret) (hnm : meth.name = "<init>") (hZ : Zw G.1 vwC (zA n0) w H) (hS : va_S (zA n0) s.heap H locs) (he : w a = some (.inr (4, fs))) (hl : 0 < fs.length) (hdg : decode cc pc = .ok (.putfield 7, 3)) (kk : ∀ (w1 : zw) (H1 : Heap) (locs1 : List Loc), w1 = va_up w a (some (.inr (4, fs.set 0 (.ref x)))) → Zw G.1 vwC (zA n0) w1 H1 → va_S (zA n0) s.heap H1 locs1 → W p l e R s m args below meth c H1 locs1 cells slots Q (F0 m (pc + 3) ls rest)) : W p l e R s m args below meth c H locs cells slots Q (F0 m pc ls (.ref x :: .ref a :: rest)) := z_putF (T := T_B) cx.1 cx.2.1 cx.tb in_B ty_B ty_B_ok nm_B cx.ow cx.K hZ hS he rfl 0 (by decide) (cx.tb _ tw_525) (fun _ h => h) rfl hnm rfl (ty_B_ok 0 (by decide)) rfl rfl hl hdg (fun H1 locs1 z1 s1 => kk _ H1 locs1 rfl z1 s1)
theorem gf_B_13 (cx : Cx G n0 e0 p s m args meth c cc nL "BoxDesk$Box" ret) (hZ : Zw G.1 vwC (zA n0) w H) (he : w a = some (.inr (3, fs))) (hv : fs[0]? = some v) (hdg : decode cc pc = .ok (.getfield 13, 3)) (kk : W p l e R s m args below meth c H locs cells slots Q (F0 m (pc + 3) ls (v :: rest))) : W p l e R s m args below meth c H locs cells slots Q (F0 m pc ls (.ref a :: rest)) := z_get (T := T_M) cx.1 cx.2.1 cx.tb in_M cx.ow cx.K hZ he rfl 0 (by decide) (cx.tb _ tw_406) (fun _ h => h) hv hdg kk
theorem is_B_19 {rm : Room} {As st0 : List Value} {post : Option Value → zw → Prop} (cx : Cx G n0 e0 p s m args meth c cc nL "BoxDesk$Box" ret) (hM : Ct l G n0 e0 y_D_setGlue b_D_setGlue 18 (Option.some (FieldType.array FieldType.int)) rm As w post) (hR : rm.frames + 1 ≤ R.frames ∧ 8 + (18 + 11) + rm.locals ≤ R.locals) (hf : cells + rm.cells ≤ R.cells ∧ slots + rm.slots ≤ R.slots) (hn : As.length = 3) (hsz : ls.size = nL) (hst : st0 = As.reverse ++ rest) (h8 : (rest.map fun v => v.category).sum ≤ 8) (hdg : decode cc pc = .ok (.invokestatic 19, 3)) (hZ : Zw G.1 vwC (zA n0) w H) (hS : va_S (zA n0) s.heap H locs) (kk : ∀ (v : Option Value) (w1 : zw) (H1 : Heap) (locs1 : List Loc), post v w1 → Zw G.1 vwC (zA n0) w1 H1 → va_S (zA n0) s.heap H1 locs1 → W p l e R s m args below meth c H1 locs1 (cells + rm.cells) (slots + rm.slots) Q (F0 m (pc + 3) ls (v.toList ++ rest))) : W p l e R s m args below meth c H locs cells slots Q (F0 m pc ls st0) := z_ivSN cx tw_500 tw_1 nw_498 tw_499 (by decide +kernel) hM hR hf hn hsz hst h8 hdg hZ hS kk
theorem pf_B_25 {x : Nat} (cx : Cx G n0 e0 p s m args meth c cc nL "BoxDesk$Box" ret) (hnm : meth.name = "<init>") (hZ : Zw G.1 vwC (zA n0) w H) (hS : va_S (zA n0) s.heap H locs) (he : w a = some (.inr (4, fs))) (hl : 1 < fs.length) (hdg : decode cc pc = .ok (.putfield 25, 3)) (kk : ∀ (w1 : zw) (H1 : Heap) (locs1 : List Loc), w1 = va_up w a (some (.inr (4, fs.set 1 (.ref x)))) → Zw G.1 vwC (zA n0) w1 H1 → va_S (zA n0) s.heap H1 locs1 → W p l e R s m args below meth c H1 locs1 cells slots Q (F0 m (pc + 3) ls rest)) : W p l e R s m args below meth c H locs cells slots Q (F0 m pc ls (.ref x :: .ref a :: rest)) := z_putF (T := T_B) cx.1 cx.2.1 cx.tb in_B ty_B ty_B_ok nm_B cx.ow cx.K hZ hS he rfl 1 (by decide) (cx.tb _ tw_528) (fun _ h => h) rfl hnm rfl (ty_B_ok 1 (by decide)) rfl rfl hl hdg (fun H1 locs1 z1 s1 => kk _ H1 locs1 rfl z1 s1)
theorem gf_B_29 (cx : Cx G n0 e0 p s m args meth c cc nL "BoxDesk$Box" ret) (hZ : Zw G.1 vwC (zA n0) w H) (he : w a = some (.inr (3, fs))) (hv : fs[6]? = some v) (hdg : decode cc pc = .ok (.getfield 29, 3)) (kk : W p l e R s m args below meth c H locs cells slots Q (F0 m (pc + 3) ls (v :: rest))) : W p l e R s m args below meth c H locs cells slots Q (F0 m pc ls (.ref a :: rest)) := z_get (T := T_M) cx.1 cx.2.1 cx.tb in_M cx.ow cx.K hZ he rfl 6 (by decide) (cx.tb _ tw_419) (fun _ h => h) hv hdg kk
theorem gf_B_33 (cx : Cx G n0 e0 p s m args meth c cc nL "BoxDesk$Box" ret) (hZ : Zw G.1 vwC (zA n0) w H) (he : w a = some (.inr (4, fs))) (hv : fs[2]? = some v) (hdg : decode cc pc = .ok (.getfield 33, 3)) (kk : W p l e R s m args below meth c H locs cells slots Q (F0 m (pc + 3) ls (v :: rest))) : W p l e R s m args below meth c H locs cells slots Q (F0 m pc ls (.ref a :: rest)) := z_get (T := T_B) cx.1 cx.2.1 cx.tb in_B cx.ow cx.K hZ he rfl 2 (by decide) (cx.tb _ tw_530) (fun _ h => h) hv hdg kk
theorem pf_B_33 {x : Int32} (cx : Cx G n0 e0 p s m args meth c cc nL "BoxDesk$Box" ret) (hnm : meth.name = "<init>") (hZ : Zw G.1 vwC (zA n0) w H) (hS : va_S (zA n0) s.heap H locs) (he : w a = some (.inr (4, fs))) (hl : 2 < fs.length) (hdg : decode cc pc = .ok (.putfield 33, 3)) (kk : ∀ (w1 : zw) (H1 : Heap) (locs1 : List Loc), w1 = va_up w a (some (.inr (4, fs.set 2 (.int x)))) → Zw G.1 vwC (zA n0) w1 H1 → va_S (zA n0) s.heap H1 locs1 → W p l e R s m args below meth c H1 locs1 cells slots Q (F0 m (pc + 3) ls rest)) : W p l e R s m args below meth c H locs cells slots Q (F0 m pc ls (.int x :: .ref a :: rest)) := z_putF (T := T_B) cx.1 cx.2.1 cx.tb in_B ty_B ty_B_ok nm_B cx.ow cx.K hZ hS he rfl 2 (by decide) (cx.tb _ tw_530) (fun _ h => h) rfl hnm rfl (ty_B_ok 2 (by decide)) rfl rfl hl hdg (fun H1 locs1 z1 s1 => kk _ H1 locs1 rfl z1 s1)
theorem gf_B_34 (cx : Cx G n0 e0 p s m args meth c cc nL "BoxDesk$Box" ret) (hZ : Zw G.1 vwC (zA n0) w H) (he : w a = some (.inr (3, fs))) (hv : fs[7]? = some v) (hdg : decode cc pc = .ok (.getfield 34, 3)) (kk : W p l e R s m args below meth c H locs cells slots Q (F0 m (pc + 3) ls (v :: rest))) : W p l e R s m args below meth c H locs cells slots Q (F0 m pc ls (.ref a :: rest)) := z_get (T := T_M) cx.1 cx.2.1 cx.tb in_M cx.ow cx.K hZ he rfl 7 (by decide) (cx.tb _ tw_421) (fun _ h => h) hv hdg kk
theorem pf_B_37 {x : Int32} (cx : Cx G n0 e0 p s m args meth c cc nL "BoxDesk$Box" ret) (hnm : meth.name = "<init>") (hZ : Zw G.1 vwC (zA n0) w H) (hS : va_S (zA n0) s.heap H locs) (he : w a = some (.inr (4, fs))) (hl : 3 < fs.length) (hdg : decode cc pc = .ok (.putfield 37, 3)) (kk : ∀ (w1 : zw) (H1 : Heap) (locs1 : List Loc), w1 = va_up w a (some (.inr (4, fs.set 3 (.int x)))) → Zw G.1 vwC (zA n0) w1 H1 → va_S (zA n0) s.heap H1 locs1 → W p l e R s m args below meth c H1 locs1 cells slots Q (F0 m (pc + 3) ls rest)) : W p l e R s m args below meth c H locs cells slots Q (F0 m pc ls (.int x :: .ref a :: rest)) := z_putF (T := T_B) cx.1 cx.2.1 cx.tb in_B ty_B ty_B_ok nm_B cx.ow cx.K hZ hS he rfl 3 (by decide) (cx.tb _ tw_533) (fun _ h => h) rfl hnm rfl (ty_B_ok 3 (by decide)) rfl rfl hl hdg (fun H1 locs1 z1 s1 => kk _ H1 locs1 rfl z1 s1)
theorem gf_B_40 (cx : Cx G n0 e0 p s m args meth c cc nL "BoxDesk$Box" ret) (hZ : Zw G.1 vwC (zA n0) w H) (he : w a = some (.inr (2, fs))) (hv : fs[0]? = some v) (hdg : decode cc pc = .ok (.getfield 40, 3)) (kk : W p l e R s m args below meth c H locs cells slots Q (F0 m (pc + 3) ls (v :: rest))) : W p l e R s m args below meth c H locs cells slots Q (F0 m pc ls (.ref a :: rest)) := z_get (T := T_L) cx.1 cx.2.1 cx.tb in_L cx.ow cx.K hZ he rfl 0 (by decide) (cx.tb _ tw_84) (fun _ h => h) hv hdg kk
theorem gf_B_46 (cx : Cx G n0 e0 p s m args meth c cc nL "BoxDesk$Box" ret) (hZ : Zw G.1 vwC (zA n0) w H) (he : w a = some (.inr (3, fs))) (hv : fs[1]? = some v) (hdg : decode cc pc = .ok (.getfield 46, 3)) (kk : W p l e R s m args below meth c H locs cells slots Q (F0 m (pc + 3) ls (v :: rest))) : W p l e R s m args below meth c H locs cells slots Q (F0 m pc ls (.ref a :: rest)) := z_get (T := T_M) cx.1 cx.2.1 cx.tb in_M cx.ow cx.K hZ he rfl 1 (by decide) (cx.tb _ tw_409) (fun _ h => h) hv hdg kk
theorem gf_B_49 (cx : Cx G n0 e0 p s m args meth c cc nL "BoxDesk$Box" ret) (hZ : Zw G.1 vwC (zA n0) w H) (he : w a = some (.inr (4, fs))) (hv : fs[4]? = some v) (hdg : decode cc pc = .ok (.getfield 49, 3)) (kk : W p l e R s m args below meth c H locs cells slots Q (F0 m (pc + 3) ls (v :: rest))) : W p l e R s m args below meth c H locs cells slots Q (F0 m pc ls (.ref a :: rest)) := z_get (T := T_B) cx.1 cx.2.1 cx.tb in_B cx.ow cx.K hZ he rfl 4 (by decide) (cx.tb _ tw_535) (fun _ h => h) hv hdg kk
theorem pf_B_49 {x : Int32} (cx : Cx G n0 e0 p s m args meth c cc nL "BoxDesk$Box" ret) (hZ : Zw G.1 vwC (zA n0) w H) (hS : va_S (zA n0) s.heap H locs) (he : w a = some (.inr (4, fs))) (hl : 4 < fs.length) (hdg : decode cc pc = .ok (.putfield 49, 3)) (kk : ∀ (w1 : zw) (H1 : Heap) (locs1 : List Loc), w1 = va_up w a (some (.inr (4, fs.set 4 (.int x)))) → Zw G.1 vwC (zA n0) w1 H1 → va_S (zA n0) s.heap H1 locs1 → W p l e R s m args below meth c H1 locs1 cells slots Q (F0 m (pc + 3) ls rest)) : W p l e R s m args below meth c H locs cells slots Q (F0 m pc ls (.int x :: .ref a :: rest)) := z_put (T := T_B) cx.1 cx.2.1 cx.tb in_B ty_B ty_B_ok nm_B cx.ow cx.K hZ hS he rfl 4 (by decide) (cx.tb _ tw_535) (fun _ h => h) rfl (ty_B_ok 4 (by decide)) rfl rfl hl hdg (fun H1 locs1 z1 s1 => kk _ H1 locs1 rfl z1 s1)
theorem gf_B_52 (cx : Cx G n0 e0 p s m args meth c cc nL "BoxDesk$Box" ret) (hZ : Zw G.1 vwC (zA n0) w H) (he : w a = some (.inr (3, fs))) (hv : fs[2]? = some v) (hdg : decode cc pc = .ok (.getfield 52, 3)) (kk : W p l e R s m args below meth c H locs cells slots Q (F0 m (pc + 3) ls (v :: rest))) : W p l e R s m args below meth c H locs cells slots Q (F0 m pc ls (.ref a :: rest)) := z_get (T := T_M) cx.1 cx.2.1 cx.tb in_M cx.ow cx.K hZ he rfl 2 (by decide) (cx.tb _ tw_411) (fun _ h => h) hv hdg kk
theorem gf_B_55 (cx : Cx G n0 e0 p s m args meth c cc nL "BoxDesk$Box" ret) (hZ : Zw G.1 vwC (zA n0) w H) (he : w a = some (.inr (4, fs))) (hv : fs[5]? = some v) (hdg : decode cc pc = .ok (.getfield 55, 3)) (kk : W p l e R s m args below meth c H locs cells slots Q (F0 m (pc + 3) ls (v :: rest))) : W p l e R s m args below meth c H locs cells slots Q (F0 m pc ls (.ref a :: rest)) := z_get (T := T_B) cx.1 cx.2.1 cx.tb in_B cx.ow cx.K hZ he rfl 5 (by decide) (cx.tb _ tw_538) (fun _ h => h) hv hdg kk
theorem pf_B_55 {x : Int32} (cx : Cx G n0 e0 p s m args meth c cc nL "BoxDesk$Box" ret) (hZ : Zw G.1 vwC (zA n0) w H) (hS : va_S (zA n0) s.heap H locs) (he : w a = some (.inr (4, fs))) (hl : 5 < fs.length) (hdg : decode cc pc = .ok (.putfield 55, 3)) (kk : ∀ (w1 : zw) (H1 : Heap) (locs1 : List Loc), w1 = va_up w a (some (.inr (4, fs.set 5 (.int x)))) → Zw G.1 vwC (zA n0) w1 H1 → va_S (zA n0) s.heap H1 locs1 → W p l e R s m args below meth c H1 locs1 cells slots Q (F0 m (pc + 3) ls rest)) : W p l e R s m args below meth c H locs cells slots Q (F0 m pc ls (.int x :: .ref a :: rest)) := z_put (T := T_B) cx.1 cx.2.1 cx.tb in_B ty_B ty_B_ok nm_B cx.ow cx.K hZ hS he rfl 5 (by decide) (cx.tb _ tw_538) (fun _ h => h) rfl (ty_B_ok 5 (by decide)) rfl rfl hl hdg (fun H1 locs1 z1 s1 => kk _ H1 locs1 rfl z1 s1)
theorem gf_B_57 (cx : Cx G n0 e0 p s m args meth c cc nL "BoxDesk$Box" ret) (hZ : Zw G.1 vwC (zA n0) w H) (he : w a = some (.inr (3, fs))) (hv : fs[3]? = some v) (hdg : decode cc pc = .ok (.getfield 57, 3)) (kk : W p l e R s m args below meth c H locs cells slots Q (F0 m (pc + 3) ls (v :: rest))) : W p l e R s m args below meth c H locs cells slots Q (F0 m pc ls (.ref a :: rest)) := z_get (T := T_M) cx.1 cx.2.1 cx.tb in_M cx.ow cx.K hZ he rfl 3 (by decide) (cx.tb _ tw_413) (fun _ h => h) hv hdg kk
theorem gf_B_60 (cx : Cx G n0 e0 p s m args meth c cc nL "BoxDesk$Box" ret) (hZ : Zw G.1 vwC (zA n0) w H) (he : w a = some (.inr (4, fs))) (hv : fs[6]? = some v) (hdg : decode cc pc = .ok (.getfield 60, 3)) (kk : W p l e R s m args below meth c H locs cells slots Q (F0 m (pc + 3) ls (v :: rest))) : W p l e R s m args below meth c H locs cells slots Q (F0 m pc ls (.ref a :: rest)) := z_get (T := T_B) cx.1 cx.2.1 cx.tb in_B cx.ow cx.K hZ he rfl 6 (by decide) (cx.tb _ tw_541) (fun _ h => h) hv hdg kk
theorem pf_B_60 {x : Int32} (cx : Cx G n0 e0 p s m args meth c cc nL "BoxDesk$Box" ret) (hZ : Zw G.1 vwC (zA n0) w H) (hS : va_S (zA n0) s.heap H locs) (he : w a = some (.inr (4, fs))) (hl : 6 < fs.length) (hdg : decode cc pc = .ok (.putfield 60, 3)) (kk : ∀ (w1 : zw) (H1 : Heap) (locs1 : List Loc), w1 = va_up w a (some (.inr (4, fs.set 6 (.int x)))) → Zw G.1 vwC (zA n0) w1 H1 → va_S (zA n0) s.heap H1 locs1 → W p l e R s m args below meth c H1 locs1 cells slots Q (F0 m (pc + 3) ls rest)) : W p l e R s m args below meth c H locs cells slots Q (F0 m pc ls (.int x :: .ref a :: rest)) := z_put (T := T_B) cx.1 cx.2.1 cx.tb in_B ty_B ty_B_ok nm_B cx.ow cx.K hZ hS he rfl 6 (by decide) (cx.tb _ tw_541) (fun _ h => h) rfl (ty_B_ok 6 (by decide)) rfl rfl hl hdg (fun H1 locs1 z1 s1 => kk _ H1 locs1 rfl z1 s1)
theorem gf_B_62 (cx : Cx G n0 e0 p s m args meth c cc nL "BoxDesk$Box" ret) (hZ : Zw G.1 vwC (zA n0) w H) (he : w a = some (.inr (2, fs))) (hv : fs[1]? = some v) (hdg : decode cc pc = .ok (.getfield 62, 3)) (kk : W p l e R s m args below meth c H locs cells slots Q (F0 m (pc + 3) ls (v :: rest))) : W p l e R s m args below meth c H locs cells slots Q (F0 m pc ls (.ref a :: rest)) := z_get (T := T_L) cx.1 cx.2.1 cx.tb in_L cx.ow cx.K hZ he rfl 1 (by decide) (cx.tb _ tw_88) (fun _ h => h) hv hdg kk
theorem iv_B_66 {rm : Room} {As st0 : List Value} {post : Option Value → zw → Prop} (cx : Cx G n0 e0 p s m args meth c cc nL "BoxDesk$Box" ret) (hM : Ct l G n0 e0 y_A_size b_A_size 1 (Option.some FieldType.int) rm (.ref a :: As) w post) (he : w a = some (.inr (0, fs))) (hR : rm.frames + 1 ≤ R.frames ∧ 8 + (1 + 11) + rm.locals ≤ R.locals) (hf : cells + rm.cells ≤ R.cells ∧ slots + rm.slots ≤ R.slots) (hn : As.length = 0) (hsz : ls.size = nL) (hst : st0 = As.reverse ++ .ref a :: rest) (h8 : (rest.map fun v => v.category).sum ≤ 8) (hdg : decode cc pc = .ok (.invokevirtual 66, 3)) (hZ : Zw G.1 vwC (zA n0) w H) (hS : va_S (zA n0) s.heap H locs) (kk : ∀ (v : Option Value) (w1 : zw) (H1 : Heap) (locs1 : List Loc), post v w1 → Zw G.1 vwC (zA n0) w1 H1 → va_S (zA n0) s.heap H1 locs1 → W p l e R s m args below meth c H1 locs1 (cells + rm.cells) (slots + rm.slots) Q (F0 m (pc + 3) ls (v.toList ++ rest))) : W p l e R s m args below meth c H locs cells slots Q (F0 m pc ls st0) := z_ivV (C := "java/util/ArrayList") cx tw_279 tw_6 tw_588 tw_277 tw_278 (by decide +kernel) (hZ.recv cx.K rfl he) hM hR hf hn hsz hst h8 hdg hZ hS kk
theorem oi_I_3 (cx : Cx G n0 e0 p s m args meth c cc nL "BoxDesk$Item" ret) (hl : ls.size = nL) (hdg : decode cc pc = .ok (.invokespecial 3, 3)) (hf : 1 ≤ R.frames) (hlo : 2 * (F0 m pc ls (.ref a :: rest)).monitorRoom + (rest.map fun v => v.category).sum + 12 ≤ R.locals) (kk : W p l e R s m args below meth c H locs cells slots Q (F0 m (pc + 3) ls rest)) : W p l e R s m args below meth c H locs cells slots Q (F0 m pc ls (.ref a :: rest)) := W.objInit cx.1 cx.2.1 cx.ow (cx.tb _ tw_116) (cx.tb _ tw_29) (cx.tb _ tw_30) rfl (by rw [cx.ml]; exact hl) rfl hdg hf hlo kk
theorem gf_I_9 (cx : Cx G n0 e0 p s m args meth c cc nL "BoxDesk$Item" ret) (hZ : Zw G.1 vwC (zA n0) w H) (he : w a = some (.inr (1, fs))) (hv : fs[0]? = some v) (hdg : decode cc pc = .ok (.getfield 9, 3)) (kk : W p l e R s m args below meth c H locs cells slots Q (F0 m (pc + 3) ls (v :: rest))) : W p l e R s m args below meth c H locs cells slots Q (F0 m pc ls (.ref a :: rest)) := z_get (T := T_I) cx.1 cx.2.1 cx.tb in_I cx.ow cx.K hZ he rfl 0 (by decide) (cx.tb _ tw_117) (fun _ h => h) hv hdg kk
theorem pf_I_9 {x : Int32} (cx : Cx G n0 e0 p s m args meth c cc nL "BoxDesk$Item" ret) (hnm : meth.name = "<init>") (hZ : Zw G.1 vwC (zA n0) w H) (hS : va_S (zA n0) s.heap H locs) (he : w a = some (.inr (1, fs))) (hl : 0 < fs.length) (hdg : decode cc pc = .ok (.putfield 9, 3)) (kk : ∀ (w1 : zw) (H1 : Heap) (locs1 : List Loc), w1 = va_up w a (some (.inr (1, fs.set 0 (.int x)))) → Zw G.1 vwC (zA n0) w1 H1 → va_S (zA n0) s.heap H1 locs1 → W p l e R s m args below meth c H1 locs1 cells slots Q (F0 m (pc + 3) ls rest)) : W p l e R s m args below meth c H locs cells slots Q (F0 m pc ls (.int x :: .ref a :: rest)) := z_putF (T := T_I) cx.1 cx.2.1 cx.tb in_I ty_I ty_I_ok nm_I cx.ow cx.K hZ hS he rfl 0 (by decide) (cx.tb _ tw_117) (fun _ h => h) rfl hnm rfl (ty_I_ok 0 (by decide)) rfl rfl hl hdg (fun H1 locs1 z1 s1 => kk _ H1 locs1 rfl z1 s1)
theorem nw_I_10_o (cx : Cx G n0 e0 p s m args meth c cc nL "BoxDesk$Item" ret) (hZ : Zw G.1 vwC (zA n0) w H) (hS : va_S (zA n0) s.heap H locs) (hc : cells + 1 ≤ R.cells) (hs : slots + 12 ≤ R.slots) (hdg : decode cc pc = .ok (.new 10, 3)) (kk : ∀ (q : Nat) (w1 : zw) (H1 : Heap), w q = none → w1 = va_up w q (some (.inr (1, [.int 0, .int 0, .int 0, .int 0, .int 0, .int 0, .int 0, .int 0, .int 0, .int 0, .int 0, .int 0]))) → Zw G.1 vwC (zA n0) w1 H1 → va_S (zA n0) s.heap H1 locs → W p l e R s m args below meth c H1 locs (cells + 1) (slots + 12) Q (F0 m (pc + 3) ls (.ref q :: rest))) : W p l e R s m args below meth c H locs cells slots Q (F0 m pc ls rest) := z_new (T := T_I) cx.1 cx.2.1 cx.tb in_I ty_I ty_I_ok cx.ow (cx.tb _ tw_235) (cx.tb _ tw_112) (cx.tb _ tw_7) cx.K hZ hS cx.hA (ci := 1) rfl (fs := [.int 0, .int 0, .int 0, .int 0, .int 0, .int 0, .int 0, .int 0, .int 0, .int 0, .int 0, .int 0]) (fun j hj => by rcases (show j = 0 ∨ j = 1 ∨ j = 2 ∨ j = 3 ∨ j = 4 ∨ j = 5 ∨ j = 6 ∨ j = 7 ∨ j = 8 ∨ j = 9 ∨ j = 10 ∨ j = 11 by omega) with rfl | rfl | rfl | rfl | rfl | rfl | rfl | rfl | rfl | rfl | rfl | rfl <;> rfl) hc hs hdg (fun q H1 f1 z1 s1 => kk q _ H1 f1 rfl z1 s1)
theorem gf_I_15 (cx : Cx G n0 e0 p s m args meth c cc nL "BoxDesk$Item" ret) (hZ : Zw G.1 vwC (zA n0) w H) (he : w a = some (.inr (1, fs))) (hv : fs[1]? = some v) (hdg : decode cc pc = .ok (.getfield 15, 3)) (kk : W p l e R s m args below meth c H locs cells slots Q (F0 m (pc + 3) ls (v :: rest))) : W p l e R s m args below meth c H locs cells slots Q (F0 m pc ls (.ref a :: rest)) := z_get (T := T_I) cx.1 cx.2.1 cx.tb in_I cx.ow cx.K hZ he rfl 1 (by decide) (cx.tb _ tw_119) (fun _ h => h) hv hdg kk
theorem pf_I_15 {x : Int32} (cx : Cx G n0 e0 p s m args meth c cc nL "BoxDesk$Item" ret) (hnm : meth.name = "<init>") (hZ : Zw G.1 vwC (zA n0) w H) (hS : va_S (zA n0) s.heap H locs) (he : w a = some (.inr (1, fs))) (hl : 1 < fs.length) (hdg : decode cc pc = .ok (.putfield 15, 3)) (kk : ∀ (w1 : zw) (H1 : Heap) (locs1 : List Loc), w1 = va_up w a (some (.inr (1, fs.set 1 (.int x)))) → Zw G.1 vwC (zA n0) w1 H1 → va_S (zA n0) s.heap H1 locs1 → W p l e R s m args below meth c H1 locs1 cells slots Q (F0 m (pc + 3) ls rest)) : W p l e R s m args below meth c H locs cells slots Q (F0 m pc ls (.int x :: .ref a :: rest)) := z_putF (T := T_I) cx.1 cx.2.1 cx.tb in_I ty_I ty_I_ok nm_I cx.ow cx.K hZ hS he rfl 1 (by decide) (cx.tb _ tw_119) (fun _ h => h) rfl hnm rfl (ty_I_ok 1 (by decide)) rfl rfl hl hdg (fun H1 locs1 z1 s1 => kk _ H1 locs1 rfl z1 s1)
theorem gf_I_18 (cx : Cx G n0 e0 p s m args meth c cc nL "BoxDesk$Item" ret) (hZ : Zw G.1 vwC (zA n0) w H) (he : w a = some (.inr (1, fs))) (hv : fs[2]? = some v) (hdg : decode cc pc = .ok (.getfield 18, 3)) (kk : W p l e R s m args below meth c H locs cells slots Q (F0 m (pc + 3) ls (v :: rest))) : W p l e R s m args below meth c H locs cells slots Q (F0 m pc ls (.ref a :: rest)) := z_get (T := T_I) cx.1 cx.2.1 cx.tb in_I cx.ow cx.K hZ he rfl 2 (by decide) (cx.tb _ tw_122) (fun _ h => h) hv hdg kk
theorem pf_I_18 {x : Int32} (cx : Cx G n0 e0 p s m args meth c cc nL "BoxDesk$Item" ret) (hnm : meth.name = "<init>") (hZ : Zw G.1 vwC (zA n0) w H) (hS : va_S (zA n0) s.heap H locs) (he : w a = some (.inr (1, fs))) (hl : 2 < fs.length) (hdg : decode cc pc = .ok (.putfield 18, 3)) (kk : ∀ (w1 : zw) (H1 : Heap) (locs1 : List Loc), w1 = va_up w a (some (.inr (1, fs.set 2 (.int x)))) → Zw G.1 vwC (zA n0) w1 H1 → va_S (zA n0) s.heap H1 locs1 → W p l e R s m args below meth c H1 locs1 cells slots Q (F0 m (pc + 3) ls rest)) : W p l e R s m args below meth c H locs cells slots Q (F0 m pc ls (.int x :: .ref a :: rest)) := z_putF (T := T_I) cx.1 cx.2.1 cx.tb in_I ty_I ty_I_ok nm_I cx.ow cx.K hZ hS he rfl 2 (by decide) (cx.tb _ tw_122) (fun _ h => h) rfl hnm rfl (ty_I_ok 2 (by decide)) rfl rfl hl hdg (fun H1 locs1 z1 s1 => kk _ H1 locs1 rfl z1 s1)
theorem gf_I_21 (cx : Cx G n0 e0 p s m args meth c cc nL "BoxDesk$Item" ret) (hZ : Zw G.1 vwC (zA n0) w H) (he : w a = some (.inr (1, fs))) (hv : fs[3]? = some v) (hdg : decode cc pc = .ok (.getfield 21, 3)) (kk : W p l e R s m args below meth c H locs cells slots Q (F0 m (pc + 3) ls (v :: rest))) : W p l e R s m args below meth c H locs cells slots Q (F0 m pc ls (.ref a :: rest)) := z_get (T := T_I) cx.1 cx.2.1 cx.tb in_I cx.ow cx.K hZ he rfl 3 (by decide) (cx.tb _ tw_124) (fun _ h => h) hv hdg kk
theorem pf_I_21 {x : Int32} (cx : Cx G n0 e0 p s m args meth c cc nL "BoxDesk$Item" ret) (hnm : meth.name = "<init>") (hZ : Zw G.1 vwC (zA n0) w H) (hS : va_S (zA n0) s.heap H locs) (he : w a = some (.inr (1, fs))) (hl : 3 < fs.length) (hdg : decode cc pc = .ok (.putfield 21, 3)) (kk : ∀ (w1 : zw) (H1 : Heap) (locs1 : List Loc), w1 = va_up w a (some (.inr (1, fs.set 3 (.int x)))) → Zw G.1 vwC (zA n0) w1 H1 → va_S (zA n0) s.heap H1 locs1 → W p l e R s m args below meth c H1 locs1 cells slots Q (F0 m (pc + 3) ls rest)) : W p l e R s m args below meth c H locs cells slots Q (F0 m pc ls (.int x :: .ref a :: rest)) := z_putF (T := T_I) cx.1 cx.2.1 cx.tb in_I ty_I ty_I_ok nm_I cx.ow cx.K hZ hS he rfl 3 (by decide) (cx.tb _ tw_124) (fun _ h => h) rfl hnm rfl (ty_I_ok 3 (by decide)) rfl rfl hl hdg (fun H1 locs1 z1 s1 => kk _ H1 locs1 rfl z1 s1)
theorem ip_I_24 {rm : Room} {As st0 : List Value} {post : Option Value → zw → Prop} (cx : Cx G n0 e0 p s m args meth c cc nL "BoxDesk$Item" ret) (hM : Ct l G n0 e0 y_I_init b_I_init 5 none rm (.ref a :: As) w post) (hR : rm.frames + 1 ≤ R.frames ∧ 8 + (5 + 11) + rm.locals ≤ R.locals) (hf : cells + rm.cells ≤ R.cells ∧ slots + rm.slots ≤ R.slots) (hn : As.length = 4) (hsz : ls.size = nL) (hst : st0 = As.reverse ++ .ref a :: rest) (h8 : (rest.map fun v => v.category).sum ≤ 8) (hdg : decode cc pc = .ok (.invokespecial 24, 3)) (hZ : Zw G.1 vwC (zA n0) w H) (hS : va_S (zA n0) s.heap H locs) (kk : ∀ (v : Option Value) (w1 : zw) (H1 : Heap) (locs1 : List Loc), post v w1 → Zw G.1 vwC (zA n0) w1 H1 → va_S (zA n0) s.heap H1 locs1 → W p l e R s m args below meth c H1 locs1 (cells + rm.cells) (slots + rm.slots) Q (F0 m (pc + 3) ls (v.toList ++ rest))) : W p l e R s m args below meth c H locs cells slots Q (F0 m pc ls st0) := z_ivI cx tw_115 tw_7 tw_236 tw_114 rfl (by decide +kernel) hM hR hf hn hsz hst h8 hdg hZ hS kk
theorem gf_I_27 (cx : Cx G n0 e0 p s m args meth c cc nL "BoxDesk$Item" ret) (hZ : Zw G.1 vwC (zA n0) w H) (he : w a = some (.inr (1, fs))) (hv : fs[4]? = some v) (hdg : decode cc pc = .ok (.getfield 27, 3)) (kk : W p l e R s m args below meth c H locs cells slots Q (F0 m (pc + 3) ls (v :: rest))) : W p l e R s m args below meth c H locs cells slots Q (F0 m pc ls (.ref a :: rest)) := z_get (T := T_I) cx.1 cx.2.1 cx.tb in_I cx.ow cx.K hZ he rfl 4 (by decide) (cx.tb _ tw_126) (fun _ h => h) hv hdg kk
theorem pf_I_27 {x : Int32} (cx : Cx G n0 e0 p s m args meth c cc nL "BoxDesk$Item" ret) (hZ : Zw G.1 vwC (zA n0) w H) (hS : va_S (zA n0) s.heap H locs) (he : w a = some (.inr (1, fs))) (hl : 4 < fs.length) (hdg : decode cc pc = .ok (.putfield 27, 3)) (kk : ∀ (w1 : zw) (H1 : Heap) (locs1 : List Loc), w1 = va_up w a (some (.inr (1, fs.set 4 (.int x)))) → Zw G.1 vwC (zA n0) w1 H1 → va_S (zA n0) s.heap H1 locs1 → W p l e R s m args below meth c H1 locs1 cells slots Q (F0 m (pc + 3) ls rest)) : W p l e R s m args below meth c H locs cells slots Q (F0 m pc ls (.int x :: .ref a :: rest)) := z_put (T := T_I) cx.1 cx.2.1 cx.tb in_I ty_I ty_I_ok nm_I cx.ow cx.K hZ hS he rfl 4 (by decide) (cx.tb _ tw_126) (fun _ h => h) rfl (ty_I_ok 4 (by decide)) rfl rfl hl hdg (fun H1 locs1 z1 s1 => kk _ H1 locs1 rfl z1 s1)
theorem gf_I_30 (cx : Cx G n0 e0 p s m args meth c cc nL "BoxDesk$Item" ret) (hZ : Zw G.1 vwC (zA n0) w H) (he : w a = some (.inr (1, fs))) (hv : fs[6]? = some v) (hdg : decode cc pc = .ok (.getfield 30, 3)) (kk : W p l e R s m args below meth c H locs cells slots Q (F0 m (pc + 3) ls (v :: rest))) : W p l e R s m args below meth c H locs cells slots Q (F0 m pc ls (.ref a :: rest)) := z_get (T := T_I) cx.1 cx.2.1 cx.tb in_I cx.ow cx.K hZ he rfl 6 (by decide) (cx.tb _ tw_129) (fun _ h => h) hv hdg kk
theorem pf_I_30 {x : Int32} (cx : Cx G n0 e0 p s m args meth c cc nL "BoxDesk$Item" ret) (hZ : Zw G.1 vwC (zA n0) w H) (hS : va_S (zA n0) s.heap H locs) (he : w a = some (.inr (1, fs))) (hl : 6 < fs.length) (hdg : decode cc pc = .ok (.putfield 30, 3)) (kk : ∀ (w1 : zw) (H1 : Heap) (locs1 : List Loc), w1 = va_up w a (some (.inr (1, fs.set 6 (.int x)))) → Zw G.1 vwC (zA n0) w1 H1 → va_S (zA n0) s.heap H1 locs1 → W p l e R s m args below meth c H1 locs1 cells slots Q (F0 m (pc + 3) ls rest)) : W p l e R s m args below meth c H locs cells slots Q (F0 m pc ls (.int x :: .ref a :: rest)) := z_put (T := T_I) cx.1 cx.2.1 cx.tb in_I ty_I ty_I_ok nm_I cx.ow cx.K hZ hS he rfl 6 (by decide) (cx.tb _ tw_129) (fun _ h => h) rfl (ty_I_ok 6 (by decide)) rfl rfl hl hdg (fun H1 locs1 z1 s1 => kk _ H1 locs1 rfl z1 s1)
theorem gf_I_33 (cx : Cx G n0 e0 p s m args meth c cc nL "BoxDesk$Item" ret) (hZ : Zw G.1 vwC (zA n0) w H) (he : w a = some (.inr (1, fs))) (hv : fs[7]? = some v) (hdg : decode cc pc = .ok (.getfield 33, 3)) (kk : W p l e R s m args below meth c H locs cells slots Q (F0 m (pc + 3) ls (v :: rest))) : W p l e R s m args below meth c H locs cells slots Q (F0 m pc ls (.ref a :: rest)) := z_get (T := T_I) cx.1 cx.2.1 cx.tb in_I cx.ow cx.K hZ he rfl 7 (by decide) (cx.tb _ tw_131) (fun _ h => h) hv hdg kk
theorem pf_I_33 {x : Int32} (cx : Cx G n0 e0 p s m args meth c cc nL "BoxDesk$Item" ret) (hZ : Zw G.1 vwC (zA n0) w H) (hS : va_S (zA n0) s.heap H locs) (he : w a = some (.inr (1, fs))) (hl : 7 < fs.length) (hdg : decode cc pc = .ok (.putfield 33, 3)) (kk : ∀ (w1 : zw) (H1 : Heap) (locs1 : List Loc), w1 = va_up w a (some (.inr (1, fs.set 7 (.int x)))) → Zw G.1 vwC (zA n0) w1 H1 → va_S (zA n0) s.heap H1 locs1 → W p l e R s m args below meth c H1 locs1 cells slots Q (F0 m (pc + 3) ls rest)) : W p l e R s m args below meth c H locs cells slots Q (F0 m pc ls (.int x :: .ref a :: rest)) := z_put (T := T_I) cx.1 cx.2.1 cx.tb in_I ty_I ty_I_ok nm_I cx.ow cx.K hZ hS he rfl 7 (by decide) (cx.tb _ tw_131) (fun _ h => h) rfl (ty_I_ok 7 (by decide)) rfl rfl hl hdg (fun H1 locs1 z1 s1 => kk _ H1 locs1 rfl z1 s1)
theorem gf_I_36 (cx : Cx G n0 e0 p s m args meth c cc nL "BoxDesk$Item" ret) (hZ : Zw G.1 vwC (zA n0) w H) (he : w a = some (.inr (1, fs))) (hv : fs[8]? = some v) (hdg : decode cc pc = .ok (.getfield 36, 3)) (kk : W p l e R s m args below meth c H locs cells slots Q (F0 m (pc + 3) ls (v :: rest))) : W p l e R s m args below meth c H locs cells slots Q (F0 m pc ls (.ref a :: rest)) := z_get (T := T_I) cx.1 cx.2.1 cx.tb in_I cx.ow cx.K hZ he rfl 8 (by decide) (cx.tb _ tw_133) (fun _ h => h) hv hdg kk
theorem pf_I_36 {x : Int32} (cx : Cx G n0 e0 p s m args meth c cc nL "BoxDesk$Item" ret) (hZ : Zw G.1 vwC (zA n0) w H) (hS : va_S (zA n0) s.heap H locs) (he : w a = some (.inr (1, fs))) (hl : 8 < fs.length) (hdg : decode cc pc = .ok (.putfield 36, 3)) (kk : ∀ (w1 : zw) (H1 : Heap) (locs1 : List Loc), w1 = va_up w a (some (.inr (1, fs.set 8 (.int x)))) → Zw G.1 vwC (zA n0) w1 H1 → va_S (zA n0) s.heap H1 locs1 → W p l e R s m args below meth c H1 locs1 cells slots Q (F0 m (pc + 3) ls rest)) : W p l e R s m args below meth c H locs cells slots Q (F0 m pc ls (.int x :: .ref a :: rest)) := z_put (T := T_I) cx.1 cx.2.1 cx.tb in_I ty_I ty_I_ok nm_I cx.ow cx.K hZ hS he rfl 8 (by decide) (cx.tb _ tw_133) (fun _ h => h) rfl (ty_I_ok 8 (by decide)) rfl rfl hl hdg (fun H1 locs1 z1 s1 => kk _ H1 locs1 rfl z1 s1)
theorem gf_I_39 (cx : Cx G n0 e0 p s m args meth c cc nL "BoxDesk$Item" ret) (hZ : Zw G.1 vwC (zA n0) w H) (he : w a = some (.inr (1, fs))) (hv : fs[5]? = some v) (hdg : decode cc pc = .ok (.getfield 39, 3)) (kk : W p l e R s m args below meth c H locs cells slots Q (F0 m (pc + 3) ls (v :: rest))) : W p l e R s m args below meth c H locs cells slots Q (F0 m pc ls (.ref a :: rest)) := z_get (T := T_I) cx.1 cx.2.1 cx.tb in_I cx.ow cx.K hZ he rfl 5 (by decide) (cx.tb _ tw_127) (fun _ h => h) hv hdg kk
theorem pf_I_39 {x : Int32} (cx : Cx G n0 e0 p s m args meth c cc nL "BoxDesk$Item" ret) (hZ : Zw G.1 vwC (zA n0) w H) (hS : va_S (zA n0) s.heap H locs) (he : w a = some (.inr (1, fs))) (hl : 5 < fs.length) (hdg : decode cc pc = .ok (.putfield 39, 3)) (kk : ∀ (w1 : zw) (H1 : Heap) (locs1 : List Loc), w1 = va_up w a (some (.inr (1, fs.set 5 (.int x)))) → Zw G.1 vwC (zA n0) w1 H1 → va_S (zA n0) s.heap H1 locs1 → W p l e R s m args below meth c H1 locs1 cells slots Q (F0 m (pc + 3) ls rest)) : W p l e R s m args below meth c H locs cells slots Q (F0 m pc ls (.int x :: .ref a :: rest)) := z_put (T := T_I) cx.1 cx.2.1 cx.tb in_I ty_I ty_I_ok nm_I cx.ow cx.K hZ hS he rfl 5 (by decide) (cx.tb _ tw_127) (fun _ h => h) rfl (ty_I_ok 5 (by decide)) rfl rfl hl hdg (fun H1 locs1 z1 s1 => kk _ H1 locs1 rfl z1 s1)
theorem gf_I_42 (cx : Cx G n0 e0 p s m args meth c cc nL "BoxDesk$Item" ret) (hZ : Zw G.1 vwC (zA n0) w H) (he : w a = some (.inr (4, fs))) (hv : fs[0]? = some v) (hdg : decode cc pc = .ok (.getfield 42, 3)) (kk : W p l e R s m args below meth c H locs cells slots Q (F0 m (pc + 3) ls (v :: rest))) : W p l e R s m args below meth c H locs cells slots Q (F0 m pc ls (.ref a :: rest)) := z_get (T := T_B) cx.1 cx.2.1 cx.tb in_B cx.ow cx.K hZ he rfl 0 (by decide) (cx.tb _ tw_526) (fun _ h => h) hv hdg kk
theorem gf_I_48 (cx : Cx G n0 e0 p s m args meth c cc nL "BoxDesk$Item" ret) (hZ : Zw G.1 vwC (zA n0) w H) (he : w a = some (.inr (2, fs))) (hv : fs[0]? = some v) (hdg : decode cc pc = .ok (.getfield 48, 3)) (kk : W p l e R s m args below meth c H locs cells slots Q (F0 m (pc + 3) ls (v :: rest))) : W p l e R s m args below meth c H locs cells slots Q (F0 m pc ls (.ref a :: rest)) := z_get (T := T_L) cx.1 cx.2.1 cx.tb in_L cx.ow cx.K hZ he rfl 0 (by decide) (cx.tb _ tw_86) (fun _ h => h) hv hdg kk
theorem gf_I_54 (cx : Cx G n0 e0 p s m args meth c cc nL "BoxDesk$Item" ret) (hZ : Zw G.1 vwC (zA n0) w H) (he : w a = some (.inr (4, fs))) (hv : fs[4]? = some v) (hdg : decode cc pc = .ok (.getfield 54, 3)) (kk : W p l e R s m args below meth c H locs cells slots Q (F0 m (pc + 3) ls (v :: rest))) : W p l e R s m args below meth c H locs cells slots Q (F0 m pc ls (.ref a :: rest)) := z_get (T := T_B) cx.1 cx.2.1 cx.tb in_B cx.ow cx.K hZ he rfl 4 (by decide) (cx.tb _ tw_536) (fun _ h => h) hv hdg kk
theorem gf_I_55 (cx : Cx G n0 e0 p s m args meth c cc nL "BoxDesk$Item" ret) (hZ : Zw G.1 vwC (zA n0) w H) (he : w a = some (.inr (4, fs))) (hv : fs[5]? = some v) (hdg : decode cc pc = .ok (.getfield 55, 3)) (kk : W p l e R s m args below meth c H locs cells slots Q (F0 m (pc + 3) ls (v :: rest))) : W p l e R s m args below meth c H locs cells slots Q (F0 m pc ls (.ref a :: rest)) := z_get (T := T_B) cx.1 cx.2.1 cx.tb in_B cx.ow cx.K hZ he rfl 5 (by decide) (cx.tb _ tw_539) (fun _ h => h) hv hdg kk
theorem gf_I_56 (cx : Cx G n0 e0 p s m args meth c cc nL "BoxDesk$Item" ret) (hZ : Zw G.1 vwC (zA n0) w H) (he : w a = some (.inr (4, fs))) (hv : fs[6]? = some v) (hdg : decode cc pc = .ok (.getfield 56, 3)) (kk : W p l e R s m args below meth c H locs cells slots Q (F0 m (pc + 3) ls (v :: rest))) : W p l e R s m args below meth c H locs cells slots Q (F0 m pc ls (.ref a :: rest)) := z_get (T := T_B) cx.1 cx.2.1 cx.tb in_B cx.ow cx.K hZ he rfl 6 (by decide) (cx.tb _ tw_542) (fun _ h => h) hv hdg kk
theorem gf_I_57 (cx : Cx G n0 e0 p s m args meth c cc nL "BoxDesk$Item" ret) (hZ : Zw G.1 vwC (zA n0) w H) (he : w a = some (.inr (1, fs))) (hv : fs[9]? = some v) (hdg : decode cc pc = .ok (.getfield 57, 3)) (kk : W p l e R s m args below meth c H locs cells slots Q (F0 m (pc + 3) ls (v :: rest))) : W p l e R s m args below meth c H locs cells slots Q (F0 m pc ls (.ref a :: rest)) := z_get (T := T_I) cx.1 cx.2.1 cx.tb in_I cx.ow cx.K hZ he rfl 9 (by decide) (cx.tb _ tw_136) (fun _ h => h) hv hdg kk
theorem pf_I_57 {x : Int32} (cx : Cx G n0 e0 p s m args meth c cc nL "BoxDesk$Item" ret) (hZ : Zw G.1 vwC (zA n0) w H) (hS : va_S (zA n0) s.heap H locs) (he : w a = some (.inr (1, fs))) (hl : 9 < fs.length) (hdg : decode cc pc = .ok (.putfield 57, 3)) (kk : ∀ (w1 : zw) (H1 : Heap) (locs1 : List Loc), w1 = va_up w a (some (.inr (1, fs.set 9 (.int x)))) → Zw G.1 vwC (zA n0) w1 H1 → va_S (zA n0) s.heap H1 locs1 → W p l e R s m args below meth c H1 locs1 cells slots Q (F0 m (pc + 3) ls rest)) : W p l e R s m args below meth c H locs cells slots Q (F0 m pc ls (.int x :: .ref a :: rest)) := z_put (T := T_I) cx.1 cx.2.1 cx.tb in_I ty_I ty_I_ok nm_I cx.ow cx.K hZ hS he rfl 9 (by decide) (cx.tb _ tw_136) (fun _ h => h) rfl (ty_I_ok 9 (by decide)) rfl rfl hl hdg (fun H1 locs1 z1 s1 => kk _ H1 locs1 rfl z1 s1)
theorem gf_I_60 (cx : Cx G n0 e0 p s m args meth c cc nL "BoxDesk$Item" ret) (hZ : Zw G.1 vwC (zA n0) w H) (he : w a = some (.inr (4, fs))) (hv : fs[2]? = some v) (hdg : decode cc pc = .ok (.getfield 60, 3)) (kk : W p l e R s m args below meth c H locs cells slots Q (F0 m (pc + 3) ls (v :: rest))) : W p l e R s m args below meth c H locs cells slots Q (F0 m pc ls (.ref a :: rest)) := z_get (T := T_B) cx.1 cx.2.1 cx.tb in_B cx.ow cx.K hZ he rfl 2 (by decide) (cx.tb _ tw_531) (fun _ h => h) hv hdg kk
theorem pf_I_63 {x : Int32} (cx : Cx G n0 e0 p s m args meth c cc nL "BoxDesk$Item" ret) (hZ : Zw G.1 vwC (zA n0) w H) (hS : va_S (zA n0) s.heap H locs) (he : w a = some (.inr (1, fs))) (hl : 10 < fs.length) (hdg : decode cc pc = .ok (.putfield 63, 3)) (kk : ∀ (w1 : zw) (H1 : Heap) (locs1 : List Loc), w1 = va_up w a (some (.inr (1, fs.set 10 (.int x)))) → Zw G.1 vwC (zA n0) w1 H1 → va_S (zA n0) s.heap H1 locs1 → W p l e R s m args below meth c H1 locs1 cells slots Q (F0 m (pc + 3) ls rest)) : W p l e R s m args below meth c H locs cells slots Q (F0 m pc ls (.int x :: .ref a :: rest)) := z_put (T := T_I) cx.1 cx.2.1 cx.tb in_I ty_I ty_I_ok nm_I cx.ow cx.K hZ hS he rfl 10 (by decide) (cx.tb _ tw_138) (fun _ h => h) rfl (ty_I_ok 10 (by decide)) rfl rfl hl hdg (fun H1 locs1 z1 s1 => kk _ H1 locs1 rfl z1 s1)
theorem gf_I_64 (cx : Cx G n0 e0 p s m args meth c cc nL "BoxDesk$Item" ret) (hZ : Zw G.1 vwC (zA n0) w H) (he : w a = some (.inr (4, fs))) (hv : fs[3]? = some v) (hdg : decode cc pc = .ok (.getfield 64, 3)) (kk : W p l e R s m args below meth c H locs cells slots Q (F0 m (pc + 3) ls (v :: rest))) : W p l e R s m args below meth c H locs cells slots Q (F0 m pc ls (.ref a :: rest)) := z_get (T := T_B) cx.1 cx.2.1 cx.tb in_B cx.ow cx.K hZ he rfl 3 (by decide) (cx.tb _ tw_534) (fun _ h => h) hv hdg kk
theorem pf_I_67 {x : Int32} (cx : Cx G n0 e0 p s m args meth c cc nL "BoxDesk$Item" ret) (hZ : Zw G.1 vwC (zA n0) w H) (hS : va_S (zA n0) s.heap H locs) (he : w a = some (.inr (1, fs))) (hl : 11 < fs.length) (hdg : decode cc pc = .ok (.putfield 67, 3)) (kk : ∀ (w1 : zw) (H1 : Heap) (locs1 : List Loc), w1 = va_up w a (some (.inr (1, fs.set 11 (.int x)))) → Zw G.1 vwC (zA n0) w1 H1 → va_S (zA n0) s.heap H1 locs1 → W p l e R s m args below meth c H1 locs1 cells slots Q (F0 m (pc + 3) ls rest)) : W p l e R s m args below meth c H locs cells slots Q (F0 m pc ls (.int x :: .ref a :: rest)) := z_put (T := T_I) cx.1 cx.2.1 cx.tb in_I ty_I ty_I_ok nm_I cx.ow cx.K hZ hS he rfl 11 (by decide) (cx.tb _ tw_140) (fun _ h => h) rfl (ty_I_ok 11 (by decide)) rfl rfl hl hdg (fun H1 locs1 z1 s1 => kk _ H1 locs1 rfl z1 s1)
theorem iv_I_68 {rm : Room} {As st0 : List Value} {post : Option Value → zw → Prop} (cx : Cx G n0 e0 p s m args meth c cc nL "BoxDesk$Item" ret) (hM : Ct l G n0 e0 y_I_runs b_I_runs 2 (Option.some FieldType.boolean) rm (.ref a :: As) w post) (he : w a = some (.inr (1, fs))) (hR : rm.frames + 1 ≤ R.frames ∧ 8 + (2 + 11) + rm.locals ≤ R.locals) (hf : cells + rm.cells ≤ R.cells ∧ slots + rm.slots ≤ R.slots) (hn : As.length = 1) (hsz : ls.size = nL) (hst : st0 = As.reverse ++ .ref a :: rest) (h8 : (rest.map fun v => v.category).sum ≤ 8) (hdg : decode cc pc = .ok (.invokevirtual 68, 3)) (hZ : Zw G.1 vwC (zA n0) w H) (hS : va_S (zA n0) s.heap H locs) (kk : ∀ (v : Option Value) (w1 : zw) (H1 : Heap) (locs1 : List Loc), post v w1 → Zw G.1 vwC (zA n0) w1 H1 → va_S (zA n0) s.heap H1 locs1 → W p l e R s m args below meth c H1 locs1 (cells + rm.cells) (slots + rm.slots) Q (F0 m (pc + 3) ls (v.toList ++ rest))) : W p l e R s m args below meth c H locs cells slots Q (F0 m pc ls st0) := z_ivV (C := "BoxDesk$Item") cx tw_457 tw_7 tw_601 tw_455 tw_456 (by decide +kernel) (hZ.recv cx.K rfl he) hM hR hf hn hsz hst h8 hdg hZ hS kk
theorem lc_I_72 (cx : Cx G n0 e0 p s m args meth c cc nL "BoxDesk$Item" ret) (hdg : decode cc pc = .ok (.ldc 72, 2)) (kk : W p l e R s m args below meth c H locs cells slots Q (F0 m (pc + 2) ls (.int (-2147483648) :: rest))) : W p l e R s m args below meth c H locs cells slots Q (F0 m pc ls rest) := lv_ldc cx.1 cx.2.1 cx.ow (cx.tb _ tw_602) hdg kk
theorem iv_I_73 {rm : Room} {As st0 : List Value} {post : Option Value → zw → Prop} (cx : Cx G n0 e0 p s m args meth c cc nL "BoxDesk$Item" ret) (hM : Ct l G n0 e0 y_I_widthOrNumber b_I_widthOrNumber 1 (Option.some FieldType.int) rm (.ref a :: As) w post) (he : w a = some (.inr (1, fs))) (hR : rm.frames + 1 ≤ R.frames ∧ 8 + (1 + 11) + rm.locals ≤ R.locals) (hf : cells + rm.cells ≤ R.cells ∧ slots + rm.slots ≤ R.slots) (hn : As.length = 0) (hsz : ls.size = nL) (hst : st0 = As.reverse ++ .ref a :: rest) (h8 : (rest.map fun v => v.category).sum ≤ 8) (hdg : decode cc pc = .ok (.invokevirtual 73, 3)) (hZ : Zw G.1 vwC (zA n0) w H) (hS : va_S (zA n0) s.heap H locs) (kk : ∀ (v : Option Value) (w1 : zw) (H1 : Heap) (locs1 : List Loc), post v w1 → Zw G.1 vwC (zA n0) w1 H1 → va_S (zA n0) s.heap H1 locs1 → W p l e R s m args below meth c H1 locs1 (cells + rm.cells) (slots + rm.slots) Q (F0 m (pc + 3) ls (v.toList ++ rest))) : W p l e R s m args below meth c H locs cells slots Q (F0 m pc ls st0) := z_ivV (C := "BoxDesk$Item") cx tw_606 tw_7 tw_603 tw_604 tw_605 (by decide +kernel) (hZ.recv cx.K rfl he) hM hR hf hn hsz hst h8 hdg hZ hS kk
theorem oi_L_1 (cx : Cx G n0 e0 p s m args meth c cc nL "BoxDesk$ItemList" ret) (hl : ls.size = nL) (hdg : decode cc pc = .ok (.invokespecial 1, 3)) (hf : 1 ≤ R.frames) (hlo : 2 * (F0 m pc ls (.ref a :: rest)).monitorRoom + (rest.map fun v => v.category).sum + 12 ≤ R.locals) (kk : W p l e R s m args below meth c H locs cells slots Q (F0 m (pc + 3) ls rest)) : W p l e R s m args below meth c H locs cells slots Q (F0 m pc ls (.ref a :: rest)) := W.objInit cx.1 cx.2.1 cx.ow (cx.tb _ tw_56) (cx.tb _ tw_29) (cx.tb _ tw_30) rfl (by rw [cx.ml]; exact hl) rfl hdg hf hlo kk
theorem pf_L_7 {x : Int32} (cx : Cx G n0 e0 p s m args meth c cc nL "BoxDesk$ItemList" ret) (hnm : meth.name = "<init>") (hnar : narrow .boolean (.int x) = .int x) (hfit : fits .boolean (.int x) = true) (hZ : Zw G.1 vwC (zA n0) w H) (hS : va_S (zA n0) s.heap H locs) (he : w a = some (.inr (2, fs))) (hl : 0 < fs.length) (hdg : decode cc pc = .ok (.putfield 7, 3)) (kk : ∀ (w1 : zw) (H1 : Heap) (locs1 : List Loc), w1 = va_up w a (some (.inr (2, fs.set 0 (.int x)))) → Zw G.1 vwC (zA n0) w1 H1 → va_S (zA n0) s.heap H1 locs1 → W p l e R s m args below meth c H1 locs1 cells slots Q (F0 m (pc + 3) ls rest)) : W p l e R s m args below meth c H locs cells slots Q (F0 m pc ls (.int x :: .ref a :: rest)) := z_putF (T := T_L) cx.1 cx.2.1 cx.tb in_L ty_L ty_L_ok nm_L cx.ow cx.K hZ hS he rfl 0 (by decide) (cx.tb _ tw_83) (fun _ h => h) rfl hnm rfl (ty_L_ok 0 (by decide)) hnar hfit hl hdg (fun H1 locs1 z1 s1 => kk _ H1 locs1 rfl z1 s1)
theorem nw_L_13_o (cx : Cx G n0 e0 p s m args meth c cc nL "BoxDesk$ItemList" ret) (hZ : Zw G.1 vwC (zA n0) w H) (hS : va_S (zA n0) s.heap H locs) (hc : cells + 1 ≤ R.cells) (hs : slots + 3 ≤ R.slots) (hdg : decode cc pc = .ok (.new 13, 3)) (kk : ∀ (q : Nat) (w1 : zw) (H1 : Heap), w q = none → w1 = va_up w q (some (.inr (0, [.int 0, .null, .int 0]))) → Zw G.1 vwC (zA n0) w1 H1 → va_S (zA n0) s.heap H1 locs → W p l e R s m args below meth c H1 locs (cells + 1) (slots + 3) Q (F0 m (pc + 3) ls (.ref q :: rest))) : W p l e R s m args below meth c H locs cells slots Q (F0 m pc ls rest) := z_new (T := T_A) cx.1 cx.2.1 cx.tb in_A ty_A ty_A_ok cx.ow (cx.tb _ tw_57) (cx.tb _ tw_58) (cx.tb _ tw_6) cx.K hZ hS cx.hA (ci := 0) rfl (fs := [.int 0, .null, .int 0]) (fun j hj => by rcases (show j = 0 ∨ j = 1 ∨ j = 2 by omega) with rfl | rfl | rfl <;> rfl) hc hs hdg (fun q H1 f1 z1 s1 => kk q _ H1 f1 rfl z1 s1)
theorem ip_L_15 {rm : Room} {As st0 : List Value} {post : Option Value → zw → Prop} (cx : Cx G n0 e0 p s m args meth c cc nL "BoxDesk$ItemList" ret) (hM : Ct l G n0 e0 y_A_init b_A_init 1 none rm (.ref a :: As) w post) (hR : rm.frames + 1 ≤ R.frames ∧ 8 + (1 + 11) + rm.locals ≤ R.locals) (hf : cells + rm.cells ≤ R.cells ∧ slots + rm.slots ≤ R.slots) (hn : As.length = 0) (hsz : ls.size = nL) (hst : st0 = As.reverse ++ .ref a :: rest) (h8 : (rest.map fun v => v.category).sum ≤ 8) (hdg : decode cc pc = .ok (.invokespecial 15, 3)) (hZ : Zw G.1 vwC (zA n0) w H) (hS : va_S (zA n0) s.heap H locs) (kk : ∀ (v : Option Value) (w1 : zw) (H1 : Heap) (locs1 : List Loc), post v w1 → Zw G.1 vwC (zA n0) w1 H1 → va_S (zA n0) s.heap H1 locs1 → W p l e R s m args below meth c H1 locs1 (cells + rm.cells) (slots + rm.slots) Q (F0 m (pc + 3) ls (v.toList ++ rest))) : W p l e R s m args below meth c H locs cells slots Q (F0 m pc ls st0) := z_ivI cx tw_61 tw_6 tw_59 tw_60 rfl (by decide +kernel) hM hR hf hn hsz hst h8 hdg hZ hS kk
theorem pf_L_16 {x : Nat} (cx : Cx G n0 e0 p s m args meth c cc nL "BoxDesk$ItemList" ret) (hnm : meth.name = "<init>") (hZ : Zw G.1 vwC (zA n0) w H) (hS : va_S (zA n0) s.heap H locs) (he : w a = some (.inr (2, fs))) (hl : 1 < fs.length) (hdg : decode cc pc = .ok (.putfield 16, 3)) (kk : ∀ (w1 : zw) (H1 : Heap) (locs1 : List Loc), w1 = va_up w a (some (.inr (2, fs.set 1 (.ref x)))) → Zw G.1 vwC (zA n0) w1 H1 → va_S (zA n0) s.heap H1 locs1 → W p l e R s m args below meth c H1 locs1 cells slots Q (F0 m (pc + 3) ls rest)) : W p l e R s m args below meth c H locs cells slots Q (F0 m pc ls (.ref x :: .ref a :: rest)) := z_putF (T := T_L) cx.1 cx.2.1 cx.tb in_L ty_L ty_L_ok nm_L cx.ow cx.K hZ hS he rfl 1 (by decide) (cx.tb _ tw_87) (fun _ h => h) rfl hnm rfl (ty_L_ok 1 (by decide)) rfl rfl hl hdg (fun H1 locs1 z1 s1 => kk _ H1 locs1 rfl z1 s1)
theorem oi_M_3 (cx : Cx G n0 e0 p s m args meth c cc nL "BoxDesk$Measure" ret) (hl : ls.size = nL) (hdg : decode cc pc = .ok (.invokespecial 3, 3)) (hf : 1 ≤ R.frames) (hlo : 2 * (F0 m pc ls (.ref a :: rest)).monitorRoom + (rest.map fun v => v.category).sum + 12 ≤ R.locals) (kk : W p l e R s m args below meth c H locs cells slots Q (F0 m (pc + 3) ls rest)) : W p l e R s m args below meth c H locs cells slots Q (F0 m pc ls (.ref a :: rest)) := W.objInit cx.1 cx.2.1 cx.ow (cx.tb _ tw_405) (cx.tb _ tw_29) (cx.tb _ tw_30) rfl (by rw [cx.ml]; exact hl) rfl hdg hf hlo kk
theorem gf_M_9 (cx : Cx G n0 e0 p s m args meth c cc nL "BoxDesk$Measure" ret) (hZ : Zw G.1 vwC (zA n0) w H) (he : w a = some (.inr (3, fs))) (hv : fs[4]? = some v) (hdg : decode cc pc = .ok (.getfield 9, 3)) (kk : W p l e R s m args below meth c H locs cells slots Q (F0 m (pc + 3) ls (v :: rest))) : W p l e R s m args below meth c H locs cells slots Q (F0 m pc ls (.ref a :: rest)) := z_get (T := T_M) cx.1 cx.2.1 cx.tb in_M cx.ow cx.K hZ he rfl 4 (by decide) (cx.tb _ tw_415) (fun _ h => h) hv hdg kk
theorem pf_M_9 {x : Nat} (cx : Cx G n0 e0 p s m args meth c cc nL "BoxDesk$Measure" ret) (hnm : meth.name = "<init>") (hZ : Zw G.1 vwC (zA n0) w H) (hS : va_S (zA n0) s.heap H locs) (he : w a = some (.inr (3, fs))) (hl : 4 < fs.length) (hdg : decode cc pc = .ok (.putfield 9, 3)) (kk : ∀ (w1 : zw) (H1 : Heap) (locs1 : List Loc), w1 = va_up w a (some (.inr (3, fs.set 4 (.ref x)))) → Zw G.1 vwC (zA n0) w1 H1 → va_S (zA n0) s.heap H1 locs1 → W p l e R s m args below meth c H1 locs1 cells slots Q (F0 m (pc + 3) ls rest)) : W p l e R s m args below meth c H locs cells slots Q (F0 m pc ls (.ref x :: .ref a :: rest)) := z_putF (T := T_M) cx.1 cx.2.1 cx.tb in_M ty_M ty_M_ok nm_M cx.ow cx.K hZ hS he rfl 4 (by decide) (cx.tb _ tw_415) (fun _ h => h) rfl hnm rfl (ty_M_ok 4 (by decide)) rfl rfl hl hdg (fun H1 locs1 z1 s1 => kk _ H1 locs1 rfl z1 s1)
theorem gf_M_15 (cx : Cx G n0 e0 p s m args meth c cc nL "BoxDesk$Measure" ret) (hZ : Zw G.1 vwC (zA n0) w H) (he : w a = some (.inr (1, fs))) (hv : fs[7]? = some v) (hdg : decode cc pc = .ok (.getfield 15, 3)) (kk : W p l e R s m args below meth c H locs cells slots Q (F0 m (pc + 3) ls (v :: rest))) : W p l e R s m args below meth c H locs cells slots Q (F0 m pc ls (.ref a :: rest)) := z_get (T := T_I) cx.1 cx.2.1 cx.tb in_I cx.ow cx.K hZ he rfl 7 (by decide) (cx.tb _ tw_130) (fun _ h => h) hv hdg kk
theorem gf_M_21 (cx : Cx G n0 e0 p s m args meth c cc nL "BoxDesk$Measure" ret) (hZ : Zw G.1 vwC (zA n0) w H) (he : w a = some (.inr (1, fs))) (hv : fs[6]? = some v) (hdg : decode cc pc = .ok (.getfield 21, 3)) (kk : W p l e R s m args below meth c H locs cells slots Q (F0 m (pc + 3) ls (v :: rest))) : W p l e R s m args below meth c H locs cells slots Q (F0 m pc ls (.ref a :: rest)) := z_get (T := T_I) cx.1 cx.2.1 cx.tb in_I cx.ow cx.K hZ he rfl 6 (by decide) (cx.tb _ tw_128) (fun _ h => h) hv hdg kk
theorem gf_M_24 (cx : Cx G n0 e0 p s m args meth c cc nL "BoxDesk$Measure" ret) (hZ : Zw G.1 vwC (zA n0) w H) (he : w a = some (.inr (3, fs))) (hv : fs[5]? = some v) (hdg : decode cc pc = .ok (.getfield 24, 3)) (kk : W p l e R s m args below meth c H locs cells slots Q (F0 m (pc + 3) ls (v :: rest))) : W p l e R s m args below meth c H locs cells slots Q (F0 m pc ls (.ref a :: rest)) := z_get (T := T_M) cx.1 cx.2.1 cx.tb in_M cx.ow cx.K hZ he rfl 5 (by decide) (cx.tb _ tw_417) (fun _ h => h) hv hdg kk
theorem pf_M_24 {x : Int64} (cx : Cx G n0 e0 p s m args meth c cc nL "BoxDesk$Measure" ret) (hZ : Zw G.1 vwC (zA n0) w H) (hS : va_S (zA n0) s.heap H locs) (he : w a = some (.inr (3, fs))) (hl : 5 < fs.length) (hdg : decode cc pc = .ok (.putfield 24, 3)) (kk : ∀ (w1 : zw) (H1 : Heap) (locs1 : List Loc), w1 = va_up w a (some (.inr (3, fs.set 5 (.long x)))) → Zw G.1 vwC (zA n0) w1 H1 → va_S (zA n0) s.heap H1 locs1 → W p l e R s m args below meth c H1 locs1 cells slots Q (F0 m (pc + 3) ls rest)) : W p l e R s m args below meth c H locs cells slots Q (F0 m pc ls (.long x :: .ref a :: rest)) := z_put (T := T_M) cx.1 cx.2.1 cx.tb in_M ty_M ty_M_ok nm_M cx.ow cx.K hZ hS he rfl 5 (by decide) (cx.tb _ tw_417) (fun _ h => h) rfl (ty_M_ok 5 (by decide)) rfl rfl hl hdg (fun H1 locs1 z1 s1 => kk _ H1 locs1 rfl z1 s1)
theorem gf_M_28 (cx : Cx G n0 e0 p s m args meth c cc nL "BoxDesk$Measure" ret) (hZ : Zw G.1 vwC (zA n0) w H) (he : w a = some (.inr (1, fs))) (hv : fs[8]? = some v) (hdg : decode cc pc = .ok (.getfield 28, 3)) (kk : W p l e R s m args below meth c H locs cells slots Q (F0 m (pc + 3) ls (v :: rest))) : W p l e R s m args below meth c H locs cells slots Q (F0 m pc ls (.ref a :: rest)) := z_get (T := T_I) cx.1 cx.2.1 cx.tb in_I cx.ow cx.K hZ he rfl 8 (by decide) (cx.tb _ tw_132) (fun _ h => h) hv hdg kk
theorem gf_M_31 (cx : Cx G n0 e0 p s m args meth c cc nL "BoxDesk$Measure" ret) (hZ : Zw G.1 vwC (zA n0) w H) (he : w a = some (.inr (3, fs))) (hv : fs[6]? = some v) (hdg : decode cc pc = .ok (.getfield 31, 3)) (kk : W p l e R s m args below meth c H locs cells slots Q (F0 m (pc + 3) ls (v :: rest))) : W p l e R s m args below meth c H locs cells slots Q (F0 m pc ls (.ref a :: rest)) := z_get (T := T_M) cx.1 cx.2.1 cx.tb in_M cx.ow cx.K hZ he rfl 6 (by decide) (cx.tb _ tw_420) (fun _ h => h) hv hdg kk
theorem pf_M_31 {x : Int32} (cx : Cx G n0 e0 p s m args meth c cc nL "BoxDesk$Measure" ret) (hZ : Zw G.1 vwC (zA n0) w H) (hS : va_S (zA n0) s.heap H locs) (he : w a = some (.inr (3, fs))) (hl : 6 < fs.length) (hdg : decode cc pc = .ok (.putfield 31, 3)) (kk : ∀ (w1 : zw) (H1 : Heap) (locs1 : List Loc), w1 = va_up w a (some (.inr (3, fs.set 6 (.int x)))) → Zw G.1 vwC (zA n0) w1 H1 → va_S (zA n0) s.heap H1 locs1 → W p l e R s m args below meth c H1 locs1 cells slots Q (F0 m (pc + 3) ls rest)) : W p l e R s m args below meth c H locs cells slots Q (F0 m pc ls (.int x :: .ref a :: rest)) := z_put (T := T_M) cx.1 cx.2.1 cx.tb in_M ty_M ty_M_ok nm_M cx.ow cx.K hZ hS he rfl 6 (by decide) (cx.tb _ tw_420) (fun _ h => h) rfl (ty_M_ok 6 (by decide)) rfl rfl hl hdg (fun H1 locs1 z1 s1 => kk _ H1 locs1 rfl z1 s1)
theorem gf_M_34 (cx : Cx G n0 e0 p s m args meth c cc nL "BoxDesk$Measure" ret) (hZ : Zw G.1 vwC (zA n0) w H) (he : w a = some (.inr (1, fs))) (hv : fs[10]? = some v) (hdg : decode cc pc = .ok (.getfield 34, 3)) (kk : W p l e R s m args below meth c H locs cells slots Q (F0 m (pc + 3) ls (v :: rest))) : W p l e R s m args below meth c H locs cells slots Q (F0 m pc ls (.ref a :: rest)) := z_get (T := T_I) cx.1 cx.2.1 cx.tb in_I cx.ow cx.K hZ he rfl 10 (by decide) (cx.tb _ tw_137) (fun _ h => h) hv hdg kk
theorem gf_M_35 (cx : Cx G n0 e0 p s m args meth c cc nL "BoxDesk$Measure" ret) (hZ : Zw G.1 vwC (zA n0) w H) (he : w a = some (.inr (3, fs))) (hv : fs[7]? = some v) (hdg : decode cc pc = .ok (.getfield 35, 3)) (kk : W p l e R s m args below meth c H locs cells slots Q (F0 m (pc + 3) ls (v :: rest))) : W p l e R s m args below meth c H locs cells slots Q (F0 m pc ls (.ref a :: rest)) := z_get (T := T_M) cx.1 cx.2.1 cx.tb in_M cx.ow cx.K hZ he rfl 7 (by decide) (cx.tb _ tw_422) (fun _ h => h) hv hdg kk
theorem pf_M_35 {x : Int32} (cx : Cx G n0 e0 p s m args meth c cc nL "BoxDesk$Measure" ret) (hZ : Zw G.1 vwC (zA n0) w H) (hS : va_S (zA n0) s.heap H locs) (he : w a = some (.inr (3, fs))) (hl : 7 < fs.length) (hdg : decode cc pc = .ok (.putfield 35, 3)) (kk : ∀ (w1 : zw) (H1 : Heap) (locs1 : List Loc), w1 = va_up w a (some (.inr (3, fs.set 7 (.int x)))) → Zw G.1 vwC (zA n0) w1 H1 → va_S (zA n0) s.heap H1 locs1 → W p l e R s m args below meth c H1 locs1 cells slots Q (F0 m (pc + 3) ls rest)) : W p l e R s m args below meth c H locs cells slots Q (F0 m pc ls (.int x :: .ref a :: rest)) := z_put (T := T_M) cx.1 cx.2.1 cx.tb in_M ty_M ty_M_ok nm_M cx.ow cx.K hZ hS he rfl 7 (by decide) (cx.tb _ tw_422) (fun _ h => h) rfl (ty_M_ok 7 (by decide)) rfl rfl hl hdg (fun H1 locs1 z1 s1 => kk _ H1 locs1 rfl z1 s1)
theorem gf_M_38 (cx : Cx G n0 e0 p s m args meth c cc nL "BoxDesk$Measure" ret) (hZ : Zw G.1 vwC (zA n0) w H) (he : w a = some (.inr (1, fs))) (hv : fs[11]? = some v) (hdg : decode cc pc = .ok (.getfield 38, 3)) (kk : W p l e R s m args below meth c H locs cells slots Q (F0 m (pc + 3) ls (v :: rest))) : W p l e R s m args below meth c H locs cells slots Q (F0 m pc ls (.ref a :: rest)) := z_get (T := T_I) cx.1 cx.2.1 cx.tb in_I cx.ow cx.K hZ he rfl 11 (by decide) (cx.tb _ tw_139) (fun _ h => h) hv hdg kk
theorem mm_M_41 {x y : Int32} (cx : Cx G n0 e0 p s m args meth c cc nL "BoxDesk$Measure" ret) (hsz : ls.size = nL) (hdg : decode cc pc = .ok (.invokestatic 41, 3)) (hf : 1 ≤ R.frames) (hlo : (rest.map fun v => v.category).sum + 13 ≤ R.locals) (hc : cells ≤ R.cells) (hs : slots ≤ R.slots) (kk : W p l e R s m args below meth c H locs cells slots Q (F0 m (pc + 3) ls (.int (if x < y then y else x) :: rest))) : W p l e R s m args below meth c H locs cells slots Q (F0 m pc ls (.int y :: .int x :: rest)) := va_mmax cx.1 cx.2.1 (by rw [cx.ml, hsz]) cx.ow (cx.tb _ tw_445) (cx.tb _ tw_190) (cx.tb _ tw_9) (cx.tb _ tw_191) hf hlo hc hs hdg kk
theorem gf_M_47 (cx : Cx G n0 e0 p s m args meth c cc nL "BoxDesk$Measure" ret) (hZ : Zw G.1 vwC (zA n0) w H) (he : w a = some (.inr (3, fs))) (hv : fs[0]? = some v) (hdg : decode cc pc = .ok (.getfield 47, 3)) (kk : W p l e R s m args below meth c H locs cells slots Q (F0 m (pc + 3) ls (v :: rest))) : W p l e R s m args below meth c H locs cells slots Q (F0 m pc ls (.ref a :: rest)) := z_get (T := T_M) cx.1 cx.2.1 cx.tb in_M cx.ow cx.K hZ he rfl 0 (by decide) (cx.tb _ tw_407) (fun _ h => h) hv hdg kk
theorem pf_M_47 {x : Int64} (cx : Cx G n0 e0 p s m args meth c cc nL "BoxDesk$Measure" ret) (hZ : Zw G.1 vwC (zA n0) w H) (hS : va_S (zA n0) s.heap H locs) (he : w a = some (.inr (3, fs))) (hl : 0 < fs.length) (hdg : decode cc pc = .ok (.putfield 47, 3)) (kk : ∀ (w1 : zw) (H1 : Heap) (locs1 : List Loc), w1 = va_up w a (some (.inr (3, fs.set 0 (.long x)))) → Zw G.1 vwC (zA n0) w1 H1 → va_S (zA n0) s.heap H1 locs1 → W p l e R s m args below meth c H1 locs1 cells slots Q (F0 m (pc + 3) ls rest)) : W p l e R s m args below meth c H locs cells slots Q (F0 m pc ls (.long x :: .ref a :: rest)) := z_put (T := T_M) cx.1 cx.2.1 cx.tb in_M ty_M ty_M_ok nm_M cx.ow cx.K hZ hS he rfl 0 (by decide) (cx.tb _ tw_407) (fun _ h => h) rfl (ty_M_ok 0 (by decide)) rfl rfl hl hdg (fun H1 locs1 z1 s1 => kk _ H1 locs1 rfl z1 s1)
theorem gf_M_50 (cx : Cx G n0 e0 p s m args meth c cc nL "BoxDesk$Measure" ret) (hZ : Zw G.1 vwC (zA n0) w H) (he : w a = some (.inr (1, fs))) (hv : fs[1]? = some v) (hdg : decode cc pc = .ok (.getfield 50, 3)) (kk : W p l e R s m args below meth c H locs cells slots Q (F0 m (pc + 3) ls (v :: rest))) : W p l e R s m args below meth c H locs cells slots Q (F0 m pc ls (.ref a :: rest)) := z_get (T := T_I) cx.1 cx.2.1 cx.tb in_I cx.ow cx.K hZ he rfl 1 (by decide) (cx.tb _ tw_120) (fun _ h => h) hv hdg kk
theorem iv_M_53 {rm : Room} {As st0 : List Value} {post : Option Value → zw → Prop} (cx : Cx G n0 e0 p s m args meth c cc nL "BoxDesk$Measure" ret) (hM : Ct l G n0 e0 y_I_runs b_I_runs 2 (Option.some FieldType.boolean) rm (.ref a :: As) w post) (he : w a = some (.inr (1, fs))) (hR : rm.frames + 1 ≤ R.frames ∧ 8 + (2 + 11) + rm.locals ≤ R.locals) (hf : cells + rm.cells ≤ R.cells ∧ slots + rm.slots ≤ R.slots) (hn : As.length = 1) (hsz : ls.size = nL) (hst : st0 = As.reverse ++ .ref a :: rest) (h8 : (rest.map fun v => v.category).sum ≤ 8) (hdg : decode cc pc = .ok (.invokevirtual 53, 3)) (hZ : Zw G.1 vwC (zA n0) w H) (hS : va_S (zA n0) s.heap H locs) (kk : ∀ (v : Option Value) (w1 : zw) (H1 : Heap) (locs1 : List Loc), post v w1 → Zw G.1 vwC (zA n0) w1 H1 → va_S (zA n0) s.heap H1 locs1 → W p l e R s m args below meth c H1 locs1 (cells + rm.cells) (slots + rm.slots) Q (F0 m (pc + 3) ls (v.toList ++ rest))) : W p l e R s m args below meth c H locs cells slots Q (F0 m pc ls st0) := z_ivV (C := "BoxDesk$Item") cx tw_457 tw_7 tw_454 tw_455 tw_456 (by decide +kernel) (hZ.recv cx.K rfl he) hM hR hf hn hsz hst h8 hdg hZ hS kk
theorem gf_M_57 (cx : Cx G n0 e0 p s m args meth c cc nL "BoxDesk$Measure" ret) (hZ : Zw G.1 vwC (zA n0) w H) (he : w a = some (.inr (3, fs))) (hv : fs[2]? = some v) (hdg : decode cc pc = .ok (.getfield 57, 3)) (kk : W p l e R s m args below meth c H locs cells slots Q (F0 m (pc + 3) ls (v :: rest))) : W p l e R s m args below meth c H locs cells slots Q (F0 m pc ls (.ref a :: rest)) := z_get (T := T_M) cx.1 cx.2.1 cx.tb in_M cx.ow cx.K hZ he rfl 2 (by decide) (cx.tb _ tw_412) (fun _ h => h) hv hdg kk
theorem pf_M_57 {x : Int64} (cx : Cx G n0 e0 p s m args meth c cc nL "BoxDesk$Measure" ret) (hZ : Zw G.1 vwC (zA n0) w H) (hS : va_S (zA n0) s.heap H locs) (he : w a = some (.inr (3, fs))) (hl : 2 < fs.length) (hdg : decode cc pc = .ok (.putfield 57, 3)) (kk : ∀ (w1 : zw) (H1 : Heap) (locs1 : List Loc), w1 = va_up w a (some (.inr (3, fs.set 2 (.long x)))) → Zw G.1 vwC (zA n0) w1 H1 → va_S (zA n0) s.heap H1 locs1 → W p l e R s m args below meth c H1 locs1 cells slots Q (F0 m (pc + 3) ls rest)) : W p l e R s m args below meth c H locs cells slots Q (F0 m pc ls (.long x :: .ref a :: rest)) := z_put (T := T_M) cx.1 cx.2.1 cx.tb in_M ty_M ty_M_ok nm_M cx.ow cx.K hZ hS he rfl 2 (by decide) (cx.tb _ tw_412) (fun _ h => h) rfl (ty_M_ok 2 (by decide)) rfl rfl hl hdg (fun H1 locs1 z1 s1 => kk _ H1 locs1 rfl z1 s1)
theorem gf_M_60 (cx : Cx G n0 e0 p s m args meth c cc nL "BoxDesk$Measure" ret) (hZ : Zw G.1 vwC (zA n0) w H) (he : w a = some (.inr (1, fs))) (hv : fs[2]? = some v) (hdg : decode cc pc = .ok (.getfield 60, 3)) (kk : W p l e R s m args below meth c H locs cells slots Q (F0 m (pc + 3) ls (v :: rest))) : W p l e R s m args below meth c H locs cells slots Q (F0 m pc ls (.ref a :: rest)) := z_get (T := T_I) cx.1 cx.2.1 cx.tb in_I cx.ow cx.K hZ he rfl 2 (by decide) (cx.tb _ tw_123) (fun _ h => h) hv hdg kk
theorem gf_M_62 (cx : Cx G n0 e0 p s m args meth c cc nL "BoxDesk$Measure" ret) (hZ : Zw G.1 vwC (zA n0) w H) (he : w a = some (.inr (1, fs))) (hv : fs[9]? = some v) (hdg : decode cc pc = .ok (.getfield 62, 3)) (kk : W p l e R s m args below meth c H locs cells slots Q (F0 m (pc + 3) ls (v :: rest))) : W p l e R s m args below meth c H locs cells slots Q (F0 m pc ls (.ref a :: rest)) := z_get (T := T_I) cx.1 cx.2.1 cx.tb in_I cx.ow cx.K hZ he rfl 9 (by decide) (cx.tb _ tw_135) (fun _ h => h) hv hdg kk
theorem mm_M_65 {x y : Int64} (cx : Cx G n0 e0 p s m args meth c cc nL "BoxDesk$Measure" ret) (hsz : ls.size = nL) (hdg : decode cc pc = .ok (.invokestatic 65, 3)) (hf : 1 ≤ R.frames) (hlo : (rest.map fun v => v.category).sum + 15 ≤ R.locals) (hc : cells ≤ R.cells) (hs : slots ≤ R.slots) (kk : W p l e R s m args below meth c H locs cells slots Q (F0 m (pc + 3) ls (.long (if y < x then x else y) :: rest))) : W p l e R s m args below meth c H locs cells slots Q (F0 m pc ls (.long y :: .long x :: rest)) := va_mmax_long cx.1 cx.2.1 (by rw [cx.ml, hsz]) cx.ow (cx.tb _ tw_458) (cx.tb _ tw_459) (cx.tb _ tw_9) (cx.tb _ tw_460) hf hlo hc hs hdg kk
theorem gf_M_68 (cx : Cx G n0 e0 p s m args meth c cc nL "BoxDesk$Measure" ret) (hZ : Zw G.1 vwC (zA n0) w H) (he : w a = some (.inr (3, fs))) (hv : fs[3]? = some v) (hdg : decode cc pc = .ok (.getfield 68, 3)) (kk : W p l e R s m args below meth c H locs cells slots Q (F0 m (pc + 3) ls (v :: rest))) : W p l e R s m args below meth c H locs cells slots Q (F0 m pc ls (.ref a :: rest)) := z_get (T := T_M) cx.1 cx.2.1 cx.tb in_M cx.ow cx.K hZ he rfl 3 (by decide) (cx.tb _ tw_414) (fun _ h => h) hv hdg kk
theorem pf_M_68 {x : Int64} (cx : Cx G n0 e0 p s m args meth c cc nL "BoxDesk$Measure" ret) (hZ : Zw G.1 vwC (zA n0) w H) (hS : va_S (zA n0) s.heap H locs) (he : w a = some (.inr (3, fs))) (hl : 3 < fs.length) (hdg : decode cc pc = .ok (.putfield 68, 3)) (kk : ∀ (w1 : zw) (H1 : Heap) (locs1 : List Loc), w1 = va_up w a (some (.inr (3, fs.set 3 (.long x)))) → Zw G.1 vwC (zA n0) w1 H1 → va_S (zA n0) s.heap H1 locs1 → W p l e R s m args below meth c H1 locs1 cells slots Q (F0 m (pc + 3) ls rest)) : W p l e R s m args below meth c H locs cells slots Q (F0 m pc ls (.long x :: .ref a :: rest)) := z_put (T := T_M) cx.1 cx.2.1 cx.tb in_M ty_M ty_M_ok nm_M cx.ow cx.K hZ hS he rfl 3 (by decide) (cx.tb _ tw_414) (fun _ h => h) rfl (ty_M_ok 3 (by decide)) rfl rfl hl hdg (fun H1 locs1 z1 s1 => kk _ H1 locs1 rfl z1 s1)
theorem gf_M_71 (cx : Cx G n0 e0 p s m args meth c cc nL "BoxDesk$Measure" ret) (hZ : Zw G.1 vwC (zA n0) w H) (he : w a = some (.inr (1, fs))) (hv : fs[3]? = some v) (hdg : decode cc pc = .ok (.getfield 71, 3)) (kk : W p l e R s m args below meth c H locs cells slots Q (F0 m (pc + 3) ls (v :: rest))) : W p l e R s m args below meth c H locs cells slots Q (F0 m pc ls (.ref a :: rest)) := z_get (T := T_I) cx.1 cx.2.1 cx.tb in_I cx.ow cx.K hZ he rfl 3 (by decide) (cx.tb _ tw_125) (fun _ h => h) hv hdg kk
theorem iv_M_73 {rm : Room} {As st0 : List Value} {post : Option Value → zw → Prop} (cx : Cx G n0 e0 p s m args meth c cc nL "BoxDesk$Measure" ret) (hM : Ct l G n0 e0 y_I_isBoxOrRule b_I_isBoxOrRule 1 (Option.some FieldType.boolean) rm (.ref a :: As) w post) (he : w a = some (.inr (1, fs))) (hR : rm.frames + 1 ≤ R.frames ∧ 8 + (1 + 11) + rm.locals ≤ R.locals) (hf : cells + rm.cells ≤ R.cells ∧ slots + rm.slots ≤ R.slots) (hn : As.length = 0) (hsz : ls.size = nL) (hst : st0 = As.reverse ++ .ref a :: rest) (h8 : (rest.map fun v => v.category).sum ≤ 8) (hdg : decode cc pc = .ok (.invokevirtual 73, 3)) (hZ : Zw G.1 vwC (zA n0) w H) (hS : va_S (zA n0) s.heap H locs) (kk : ∀ (v : Option Value) (w1 : zw) (H1 : Heap) (locs1 : List Loc), post v w1 → Zw G.1 vwC (zA n0) w1 H1 → va_S (zA n0) s.heap H1 locs1 → W p l e R s m args below meth c H1 locs1 (cells + rm.cells) (slots + rm.slots) Q (F0 m (pc + 3) ls (v.toList ++ rest))) : W p l e R s m args below meth c H locs cells slots Q (F0 m pc ls st0) := z_ivV (C := "BoxDesk$Item") cx tw_453 tw_7 tw_450 tw_451 tw_452 (by decide +kernel) (hZ.recv cx.K rfl he) hM hR hf hn hsz hst h8 hdg hZ hS kk
theorem gf_M_77 (cx : Cx G n0 e0 p s m args meth c cc nL "BoxDesk$Measure" ret) (hZ : Zw G.1 vwC (zA n0) w H) (he : w a = some (.inr (3, fs))) (hv : fs[1]? = some v) (hdg : decode cc pc = .ok (.getfield 77, 3)) (kk : W p l e R s m args below meth c H locs cells slots Q (F0 m (pc + 3) ls (v :: rest))) : W p l e R s m args below meth c H locs cells slots Q (F0 m pc ls (.ref a :: rest)) := z_get (T := T_M) cx.1 cx.2.1 cx.tb in_M cx.ow cx.K hZ he rfl 1 (by decide) (cx.tb _ tw_410) (fun _ h => h) hv hdg kk
theorem pf_M_77 {x : Int64} (cx : Cx G n0 e0 p s m args meth c cc nL "BoxDesk$Measure" ret) (hZ : Zw G.1 vwC (zA n0) w H) (hS : va_S (zA n0) s.heap H locs) (he : w a = some (.inr (3, fs))) (hl : 1 < fs.length) (hdg : decode cc pc = .ok (.putfield 77, 3)) (kk : ∀ (w1 : zw) (H1 : Heap) (locs1 : List Loc), w1 = va_up w a (some (.inr (3, fs.set 1 (.long x)))) → Zw G.1 vwC (zA n0) w1 H1 → va_S (zA n0) s.heap H1 locs1 → W p l e R s m args below meth c H1 locs1 cells slots Q (F0 m (pc + 3) ls rest)) : W p l e R s m args below meth c H locs cells slots Q (F0 m pc ls (.long x :: .ref a :: rest)) := z_put (T := T_M) cx.1 cx.2.1 cx.tb in_M ty_M ty_M_ok nm_M cx.ow cx.K hZ hS he rfl 1 (by decide) (cx.tb _ tw_410) (fun _ h => h) rfl (ty_M_ok 1 (by decide)) rfl rfl hl hdg (fun H1 locs1 z1 s1 => kk _ H1 locs1 rfl z1 s1)
theorem is_M_80 {rm : Room} {As st0 : List Value} {post : Option Value → zw → Prop} (cx : Cx G n0 e0 p s m args meth c cc nL "BoxDesk$Measure" ret) (hM : Ct l G n0 e0 y_D_isSize b_D_isSize 2 (Option.some FieldType.boolean) rm As w post) (hR : rm.frames + 1 ≤ R.frames ∧ 8 + (2 + 11) + rm.locals ≤ R.locals) (hf : cells + rm.cells ≤ R.cells ∧ slots + rm.slots ≤ R.slots) (hn : As.length = 1) (hsz : ls.size = nL) (hst : st0 = As.reverse ++ rest) (h8 : (rest.map fun v => v.category).sum ≤ 8) (hdg : decode cc pc = .ok (.invokestatic 80, 3)) (hZ : Zw G.1 vwC (zA n0) w H) (hS : va_S (zA n0) s.heap H locs) (kk : ∀ (v : Option Value) (w1 : zw) (H1 : Heap) (locs1 : List Loc), post v w1 → Zw G.1 vwC (zA n0) w1 H1 → va_S (zA n0) s.heap H1 locs1 → W p l e R s m args below meth c H1 locs1 (cells + rm.cells) (slots + rm.slots) Q (F0 m (pc + 3) ls (v.toList ++ rest))) : W p l e R s m args below meth c H locs cells slots Q (F0 m pc ls st0) := z_ivSN cx tw_108 tw_1 nw_476 tw_107 (by decide +kernel) hM hR hf hn hsz hst h8 hdg hZ hS kk
theorem oi_R_1 (cx : Cx G n0 e0 p s m args meth c cc nL "BoxDeskModel" ret) (hl : ls.size = nL) (hdg : decode cc pc = .ok (.invokespecial 1, 3)) (hf : 1 ≤ R.frames) (hlo : 2 * (F0 m pc ls (.ref a :: rest)).monitorRoom + (rest.map fun v => v.category).sum + 12 ≤ R.locals) (kk : W p l e R s m args below meth c H locs cells slots Q (F0 m (pc + 3) ls rest)) : W p l e R s m args below meth c H locs cells slots Q (F0 m pc ls (.ref a :: rest)) := W.objInit cx.1 cx.2.1 cx.ow (cx.tb _ tw_612) (cx.tb _ tw_29) (cx.tb _ tw_30) rfl (by rw [cx.ml]; exact hl) rfl hdg hf hlo kk
theorem gf_R_7 (cx : Cx G n0 e0 p s m args meth c cc nL "BoxDeskModel" ret) (hZ : Zw G.1 vwC (zA n0) w H) (he : w a = some (.inr (6, fs))) (hv : fs[1]? = some v) (hdg : decode cc pc = .ok (.getfield 7, 3)) (kk : W p l e R s m args below meth c H locs cells slots Q (F0 m (pc + 3) ls (v :: rest))) : W p l e R s m args below meth c H locs cells slots Q (F0 m pc ls (.ref a :: rest)) := z_get (T := T_R) cx.1 cx.2.1 cx.tb in_R cx.ow cx.K hZ he rfl 1 (by decide) (cx.tb _ tw_614) (fun _ h => h) hv hdg kk
theorem pf_R_7 {x : Nat} (cx : Cx G n0 e0 p s m args meth c cc nL "BoxDeskModel" ret) (hnm : meth.name = "<init>") (hZ : Zw G.1 vwC (zA n0) w H) (hS : va_S (zA n0) s.heap H locs) (he : w a = some (.inr (6, fs))) (hl : 1 < fs.length) (hdg : decode cc pc = .ok (.putfield 7, 3)) (kk : ∀ (w1 : zw) (H1 : Heap) (locs1 : List Loc), w1 = va_up w a (some (.inr (6, fs.set 1 (.ref x)))) → Zw G.1 vwC (zA n0) w1 H1 → va_S (zA n0) s.heap H1 locs1 → W p l e R s m args below meth c H1 locs1 cells slots Q (F0 m (pc + 3) ls rest)) : W p l e R s m args below meth c H locs cells slots Q (F0 m pc ls (.ref x :: .ref a :: rest)) := z_putF (T := T_R) cx.1 cx.2.1 cx.tb in_R ty_R ty_R_ok nm_R cx.ow cx.K hZ hS he rfl 1 (by decide) (cx.tb _ tw_614) (fun _ h => h) rfl hnm rfl (ty_R_ok 1 (by decide)) rfl rfl hl hdg (fun H1 locs1 z1 s1 => kk _ H1 locs1 rfl z1 s1)
theorem gf_R_13 (cx : Cx G n0 e0 p s m args meth c cc nL "BoxDeskModel" ret) (hZ : Zw G.1 vwC (zA n0) w H) (he : w a = some (.inr (6, fs))) (hv : fs[2]? = some v) (hdg : decode cc pc = .ok (.getfield 13, 3)) (kk : W p l e R s m args below meth c H locs cells slots Q (F0 m (pc + 3) ls (v :: rest))) : W p l e R s m args below meth c H locs cells slots Q (F0 m pc ls (.ref a :: rest)) := z_get (T := T_R) cx.1 cx.2.1 cx.tb in_R cx.ow cx.K hZ he rfl 2 (by decide) (cx.tb _ tw_615) (fun _ h => h) hv hdg kk
theorem pf_R_13 {x : Nat} (cx : Cx G n0 e0 p s m args meth c cc nL "BoxDeskModel" ret) (hnm : meth.name = "<init>") (hZ : Zw G.1 vwC (zA n0) w H) (hS : va_S (zA n0) s.heap H locs) (he : w a = some (.inr (6, fs))) (hl : 2 < fs.length) (hdg : decode cc pc = .ok (.putfield 13, 3)) (kk : ∀ (w1 : zw) (H1 : Heap) (locs1 : List Loc), w1 = va_up w a (some (.inr (6, fs.set 2 (.ref x)))) → Zw G.1 vwC (zA n0) w1 H1 → va_S (zA n0) s.heap H1 locs1 → W p l e R s m args below meth c H1 locs1 cells slots Q (F0 m (pc + 3) ls rest)) : W p l e R s m args below meth c H locs cells slots Q (F0 m pc ls (.ref x :: .ref a :: rest)) := z_putF (T := T_R) cx.1 cx.2.1 cx.tb in_R ty_R ty_R_ok nm_R cx.ow cx.K hZ hS he rfl 2 (by decide) (cx.tb _ tw_615) (fun _ h => h) rfl hnm rfl (ty_R_ok 2 (by decide)) rfl rfl hl hdg (fun H1 locs1 z1 s1 => kk _ H1 locs1 rfl z1 s1)
theorem gf_R_16 (cx : Cx G n0 e0 p s m args meth c cc nL "BoxDeskModel" ret) (hZ : Zw G.1 vwC (zA n0) w H) (he : w a = some (.inr (6, fs))) (hv : fs[3]? = some v) (hdg : decode cc pc = .ok (.getfield 16, 3)) (kk : W p l e R s m args below meth c H locs cells slots Q (F0 m (pc + 3) ls (v :: rest))) : W p l e R s m args below meth c H locs cells slots Q (F0 m pc ls (.ref a :: rest)) := z_get (T := T_R) cx.1 cx.2.1 cx.tb in_R cx.ow cx.K hZ he rfl 3 (by decide) (cx.tb _ tw_616) (fun _ h => h) hv hdg kk
theorem pf_R_16 {x : Nat} (cx : Cx G n0 e0 p s m args meth c cc nL "BoxDeskModel" ret) (hnm : meth.name = "<init>") (hZ : Zw G.1 vwC (zA n0) w H) (hS : va_S (zA n0) s.heap H locs) (he : w a = some (.inr (6, fs))) (hl : 3 < fs.length) (hdg : decode cc pc = .ok (.putfield 16, 3)) (kk : ∀ (w1 : zw) (H1 : Heap) (locs1 : List Loc), w1 = va_up w a (some (.inr (6, fs.set 3 (.ref x)))) → Zw G.1 vwC (zA n0) w1 H1 → va_S (zA n0) s.heap H1 locs1 → W p l e R s m args below meth c H1 locs1 cells slots Q (F0 m (pc + 3) ls rest)) : W p l e R s m args below meth c H locs cells slots Q (F0 m pc ls (.ref x :: .ref a :: rest)) := z_putF (T := T_R) cx.1 cx.2.1 cx.tb in_R ty_R ty_R_ok nm_R cx.ow cx.K hZ hS he rfl 3 (by decide) (cx.tb _ tw_616) (fun _ h => h) rfl hnm rfl (ty_R_ok 3 (by decide)) rfl rfl hl hdg (fun H1 locs1 z1 s1 => kk _ H1 locs1 rfl z1 s1)
theorem gf_R_19 (cx : Cx G n0 e0 p s m args meth c cc nL "BoxDeskModel" ret) (hZ : Zw G.1 vwC (zA n0) w H) (he : w a = some (.inr (6, fs))) (hv : fs[4]? = some v) (hdg : decode cc pc = .ok (.getfield 19, 3)) (kk : W p l e R s m args below meth c H locs cells slots Q (F0 m (pc + 3) ls (v :: rest))) : W p l e R s m args below meth c H locs cells slots Q (F0 m pc ls (.ref a :: rest)) := z_get (T := T_R) cx.1 cx.2.1 cx.tb in_R cx.ow cx.K hZ he rfl 4 (by decide) (cx.tb _ tw_617) (fun _ h => h) hv hdg kk
theorem pf_R_19 {x : Nat} (cx : Cx G n0 e0 p s m args meth c cc nL "BoxDeskModel" ret) (hnm : meth.name = "<init>") (hZ : Zw G.1 vwC (zA n0) w H) (hS : va_S (zA n0) s.heap H locs) (he : w a = some (.inr (6, fs))) (hl : 4 < fs.length) (hdg : decode cc pc = .ok (.putfield 19, 3)) (kk : ∀ (w1 : zw) (H1 : Heap) (locs1 : List Loc), w1 = va_up w a (some (.inr (6, fs.set 4 (.ref x)))) → Zw G.1 vwC (zA n0) w1 H1 → va_S (zA n0) s.heap H1 locs1 → W p l e R s m args below meth c H1 locs1 cells slots Q (F0 m (pc + 3) ls rest)) : W p l e R s m args below meth c H locs cells slots Q (F0 m pc ls (.ref x :: .ref a :: rest)) := z_putF (T := T_R) cx.1 cx.2.1 cx.tb in_R ty_R ty_R_ok nm_R cx.ow cx.K hZ hS he rfl 4 (by decide) (cx.tb _ tw_617) (fun _ h => h) rfl hnm rfl (ty_R_ok 4 (by decide)) rfl rfl hl hdg (fun H1 locs1 z1 s1 => kk _ H1 locs1 rfl z1 s1)
theorem gf_R_22 (cx : Cx G n0 e0 p s m args meth c cc nL "BoxDeskModel" ret) (hZ : Zw G.1 vwC (zA n0) w H) (he : w a = some (.inr (6, fs))) (hv : fs[5]? = some v) (hdg : decode cc pc = .ok (.getfield 22, 3)) (kk : W p l e R s m args below meth c H locs cells slots Q (F0 m (pc + 3) ls (v :: rest))) : W p l e R s m args below meth c H locs cells slots Q (F0 m pc ls (.ref a :: rest)) := z_get (T := T_R) cx.1 cx.2.1 cx.tb in_R cx.ow cx.K hZ he rfl 5 (by decide) (cx.tb _ tw_618) (fun _ h => h) hv hdg kk
theorem pf_R_22 {x : Nat} (cx : Cx G n0 e0 p s m args meth c cc nL "BoxDeskModel" ret) (hnm : meth.name = "<init>") (hZ : Zw G.1 vwC (zA n0) w H) (hS : va_S (zA n0) s.heap H locs) (he : w a = some (.inr (6, fs))) (hl : 5 < fs.length) (hdg : decode cc pc = .ok (.putfield 22, 3)) (kk : ∀ (w1 : zw) (H1 : Heap) (locs1 : List Loc), w1 = va_up w a (some (.inr (6, fs.set 5 (.ref x)))) → Zw G.1 vwC (zA n0) w1 H1 → va_S (zA n0) s.heap H1 locs1 → W p l e R s m args below meth c H1 locs1 cells slots Q (F0 m (pc + 3) ls rest)) : W p l e R s m args below meth c H locs cells slots Q (F0 m pc ls (.ref x :: .ref a :: rest)) := z_putF (T := T_R) cx.1 cx.2.1 cx.tb in_R ty_R ty_R_ok nm_R cx.ow cx.K hZ hS he rfl 5 (by decide) (cx.tb _ tw_618) (fun _ h => h) rfl hnm rfl (ty_R_ok 5 (by decide)) rfl rfl hl hdg (fun H1 locs1 z1 s1 => kk _ H1 locs1 rfl z1 s1)
theorem gf_R_25 (cx : Cx G n0 e0 p s m args meth c cc nL "BoxDeskModel" ret) (hZ : Zw G.1 vwC (zA n0) w H) (he : w a = some (.inr (6, fs))) (hv : fs[6]? = some v) (hdg : decode cc pc = .ok (.getfield 25, 3)) (kk : W p l e R s m args below meth c H locs cells slots Q (F0 m (pc + 3) ls (v :: rest))) : W p l e R s m args below meth c H locs cells slots Q (F0 m pc ls (.ref a :: rest)) := z_get (T := T_R) cx.1 cx.2.1 cx.tb in_R cx.ow cx.K hZ he rfl 6 (by decide) (cx.tb _ tw_619) (fun _ h => h) hv hdg kk
theorem pf_R_25 {x : Nat} (cx : Cx G n0 e0 p s m args meth c cc nL "BoxDeskModel" ret) (hnm : meth.name = "<init>") (hZ : Zw G.1 vwC (zA n0) w H) (hS : va_S (zA n0) s.heap H locs) (he : w a = some (.inr (6, fs))) (hl : 6 < fs.length) (hdg : decode cc pc = .ok (.putfield 25, 3)) (kk : ∀ (w1 : zw) (H1 : Heap) (locs1 : List Loc), w1 = va_up w a (some (.inr (6, fs.set 6 (.ref x)))) → Zw G.1 vwC (zA n0) w1 H1 → va_S (zA n0) s.heap H1 locs1 → W p l e R s m args below meth c H1 locs1 cells slots Q (F0 m (pc + 3) ls rest)) : W p l e R s m args below meth c H locs cells slots Q (F0 m pc ls (.ref x :: .ref a :: rest)) := z_putF (T := T_R) cx.1 cx.2.1 cx.tb in_R ty_R ty_R_ok nm_R cx.ow cx.K hZ hS he rfl 6 (by decide) (cx.tb _ tw_619) (fun _ h => h) rfl hnm rfl (ty_R_ok 6 (by decide)) rfl rfl hl hdg (fun H1 locs1 z1 s1 => kk _ H1 locs1 rfl z1 s1)
theorem gf_R_28 (cx : Cx G n0 e0 p s m args meth c cc nL "BoxDeskModel" ret) (hZ : Zw G.1 vwC (zA n0) w H) (he : w a = some (.inr (6, fs))) (hv : fs[7]? = some v) (hdg : decode cc pc = .ok (.getfield 28, 3)) (kk : W p l e R s m args below meth c H locs cells slots Q (F0 m (pc + 3) ls (v :: rest))) : W p l e R s m args below meth c H locs cells slots Q (F0 m pc ls (.ref a :: rest)) := z_get (T := T_R) cx.1 cx.2.1 cx.tb in_R cx.ow cx.K hZ he rfl 7 (by decide) (cx.tb _ tw_620) (fun _ h => h) hv hdg kk
theorem pf_R_28 {x : Nat} (cx : Cx G n0 e0 p s m args meth c cc nL "BoxDeskModel" ret) (hnm : meth.name = "<init>") (hZ : Zw G.1 vwC (zA n0) w H) (hS : va_S (zA n0) s.heap H locs) (he : w a = some (.inr (6, fs))) (hl : 7 < fs.length) (hdg : decode cc pc = .ok (.putfield 28, 3)) (kk : ∀ (w1 : zw) (H1 : Heap) (locs1 : List Loc), w1 = va_up w a (some (.inr (6, fs.set 7 (.ref x)))) → Zw G.1 vwC (zA n0) w1 H1 → va_S (zA n0) s.heap H1 locs1 → W p l e R s m args below meth c H1 locs1 cells slots Q (F0 m (pc + 3) ls rest)) : W p l e R s m args below meth c H locs cells slots Q (F0 m pc ls (.ref x :: .ref a :: rest)) := z_putF (T := T_R) cx.1 cx.2.1 cx.tb in_R ty_R ty_R_ok nm_R cx.ow cx.K hZ hS he rfl 7 (by decide) (cx.tb _ tw_620) (fun _ h => h) rfl hnm rfl (ty_R_ok 7 (by decide)) rfl rfl hl hdg (fun H1 locs1 z1 s1 => kk _ H1 locs1 rfl z1 s1)
theorem gf_R_31 (cx : Cx G n0 e0 p s m args meth c cc nL "BoxDeskModel" ret) (hZ : Zw G.1 vwC (zA n0) w H) (he : w a = some (.inr (6, fs))) (hv : fs[8]? = some v) (hdg : decode cc pc = .ok (.getfield 31, 3)) (kk : W p l e R s m args below meth c H locs cells slots Q (F0 m (pc + 3) ls (v :: rest))) : W p l e R s m args below meth c H locs cells slots Q (F0 m pc ls (.ref a :: rest)) := z_get (T := T_R) cx.1 cx.2.1 cx.tb in_R cx.ow cx.K hZ he rfl 8 (by decide) (cx.tb _ tw_621) (fun _ h => h) hv hdg kk
theorem pf_R_31 {x : Nat} (cx : Cx G n0 e0 p s m args meth c cc nL "BoxDeskModel" ret) (hnm : meth.name = "<init>") (hZ : Zw G.1 vwC (zA n0) w H) (hS : va_S (zA n0) s.heap H locs) (he : w a = some (.inr (6, fs))) (hl : 8 < fs.length) (hdg : decode cc pc = .ok (.putfield 31, 3)) (kk : ∀ (w1 : zw) (H1 : Heap) (locs1 : List Loc), w1 = va_up w a (some (.inr (6, fs.set 8 (.ref x)))) → Zw G.1 vwC (zA n0) w1 H1 → va_S (zA n0) s.heap H1 locs1 → W p l e R s m args below meth c H1 locs1 cells slots Q (F0 m (pc + 3) ls rest)) : W p l e R s m args below meth c H locs cells slots Q (F0 m pc ls (.ref x :: .ref a :: rest)) := z_putF (T := T_R) cx.1 cx.2.1 cx.tb in_R ty_R ty_R_ok nm_R cx.ow cx.K hZ hS he rfl 8 (by decide) (cx.tb _ tw_621) (fun _ h => h) rfl hnm rfl (ty_R_ok 8 (by decide)) rfl rfl hl hdg (fun H1 locs1 z1 s1 => kk _ H1 locs1 rfl z1 s1)
theorem gf_R_35 (cx : Cx G n0 e0 p s m args meth c cc nL "BoxDeskModel" ret) (hZ : Zw G.1 vwC (zA n0) w H) (he : w a = some (.inr (6, fs))) (hv : fs[9]? = some v) (hdg : decode cc pc = .ok (.getfield 35, 3)) (kk : W p l e R s m args below meth c H locs cells slots Q (F0 m (pc + 3) ls (v :: rest))) : W p l e R s m args below meth c H locs cells slots Q (F0 m pc ls (.ref a :: rest)) := z_get (T := T_R) cx.1 cx.2.1 cx.tb in_R cx.ow cx.K hZ he rfl 9 (by decide) (cx.tb _ tw_622) (fun _ h => h) hv hdg kk
theorem pf_R_35 {x : Nat} (cx : Cx G n0 e0 p s m args meth c cc nL "BoxDeskModel" ret) (hnm : meth.name = "<init>") (hZ : Zw G.1 vwC (zA n0) w H) (hS : va_S (zA n0) s.heap H locs) (he : w a = some (.inr (6, fs))) (hl : 9 < fs.length) (hdg : decode cc pc = .ok (.putfield 35, 3)) (kk : ∀ (w1 : zw) (H1 : Heap) (locs1 : List Loc), w1 = va_up w a (some (.inr (6, fs.set 9 (.ref x)))) → Zw G.1 vwC (zA n0) w1 H1 → va_S (zA n0) s.heap H1 locs1 → W p l e R s m args below meth c H1 locs1 cells slots Q (F0 m (pc + 3) ls rest)) : W p l e R s m args below meth c H locs cells slots Q (F0 m pc ls (.ref x :: .ref a :: rest)) := z_putF (T := T_R) cx.1 cx.2.1 cx.tb in_R ty_R ty_R_ok nm_R cx.ow cx.K hZ hS he rfl 9 (by decide) (cx.tb _ tw_622) (fun _ h => h) rfl hnm rfl (ty_R_ok 9 (by decide)) rfl rfl hl hdg (fun H1 locs1 z1 s1 => kk _ H1 locs1 rfl z1 s1)
theorem gf_R_38 (cx : Cx G n0 e0 p s m args meth c cc nL "BoxDeskModel" ret) (hZ : Zw G.1 vwC (zA n0) w H) (he : w a = some (.inr (6, fs))) (hv : fs[11]? = some v) (hdg : decode cc pc = .ok (.getfield 38, 3)) (kk : W p l e R s m args below meth c H locs cells slots Q (F0 m (pc + 3) ls (v :: rest))) : W p l e R s m args below meth c H locs cells slots Q (F0 m pc ls (.ref a :: rest)) := z_get (T := T_R) cx.1 cx.2.1 cx.tb in_R cx.ow cx.K hZ he rfl 11 (by decide) (cx.tb _ tw_624) (fun _ h => h) hv hdg kk
theorem pf_R_38 {x : Nat} (cx : Cx G n0 e0 p s m args meth c cc nL "BoxDeskModel" ret) (hnm : meth.name = "<init>") (hZ : Zw G.1 vwC (zA n0) w H) (hS : va_S (zA n0) s.heap H locs) (he : w a = some (.inr (6, fs))) (hl : 11 < fs.length) (hdg : decode cc pc = .ok (.putfield 38, 3)) (kk : ∀ (w1 : zw) (H1 : Heap) (locs1 : List Loc), w1 = va_up w a (some (.inr (6, fs.set 11 (.ref x)))) → Zw G.1 vwC (zA n0) w1 H1 → va_S (zA n0) s.heap H1 locs1 → W p l e R s m args below meth c H1 locs1 cells slots Q (F0 m (pc + 3) ls rest)) : W p l e R s m args below meth c H locs cells slots Q (F0 m pc ls (.ref x :: .ref a :: rest)) := z_putF (T := T_R) cx.1 cx.2.1 cx.tb in_R ty_R ty_R_ok nm_R cx.ow cx.K hZ hS he rfl 11 (by decide) (cx.tb _ tw_624) (fun _ h => h) rfl hnm rfl (ty_R_ok 11 (by decide)) rfl rfl hl hdg (fun H1 locs1 z1 s1 => kk _ H1 locs1 rfl z1 s1)
theorem gf_R_41 (cx : Cx G n0 e0 p s m args meth c cc nL "BoxDeskModel" ret) (hZ : Zw G.1 vwC (zA n0) w H) (he : w a = some (.inr (6, fs))) (hv : fs[12]? = some v) (hdg : decode cc pc = .ok (.getfield 41, 3)) (kk : W p l e R s m args below meth c H locs cells slots Q (F0 m (pc + 3) ls (v :: rest))) : W p l e R s m args below meth c H locs cells slots Q (F0 m pc ls (.ref a :: rest)) := z_get (T := T_R) cx.1 cx.2.1 cx.tb in_R cx.ow cx.K hZ he rfl 12 (by decide) (cx.tb _ tw_625) (fun _ h => h) hv hdg kk
theorem pf_R_41 {x : Nat} (cx : Cx G n0 e0 p s m args meth c cc nL "BoxDeskModel" ret) (hnm : meth.name = "<init>") (hZ : Zw G.1 vwC (zA n0) w H) (hS : va_S (zA n0) s.heap H locs) (he : w a = some (.inr (6, fs))) (hl : 12 < fs.length) (hdg : decode cc pc = .ok (.putfield 41, 3)) (kk : ∀ (w1 : zw) (H1 : Heap) (locs1 : List Loc), w1 = va_up w a (some (.inr (6, fs.set 12 (.ref x)))) → Zw G.1 vwC (zA n0) w1 H1 → va_S (zA n0) s.heap H1 locs1 → W p l e R s m args below meth c H1 locs1 cells slots Q (F0 m (pc + 3) ls rest)) : W p l e R s m args below meth c H locs cells slots Q (F0 m pc ls (.ref x :: .ref a :: rest)) := z_putF (T := T_R) cx.1 cx.2.1 cx.tb in_R ty_R ty_R_ok nm_R cx.ow cx.K hZ hS he rfl 12 (by decide) (cx.tb _ tw_625) (fun _ h => h) rfl hnm rfl (ty_R_ok 12 (by decide)) rfl rfl hl hdg (fun H1 locs1 z1 s1 => kk _ H1 locs1 rfl z1 s1)
theorem gf_R_45 (cx : Cx G n0 e0 p s m args meth c cc nL "BoxDeskModel" ret) (hZ : Zw G.1 vwC (zA n0) w H) (he : w a = some (.inr (6, fs))) (hv : fs[14]? = some v) (hdg : decode cc pc = .ok (.getfield 45, 3)) (kk : W p l e R s m args below meth c H locs cells slots Q (F0 m (pc + 3) ls (v :: rest))) : W p l e R s m args below meth c H locs cells slots Q (F0 m pc ls (.ref a :: rest)) := z_get (T := T_R) cx.1 cx.2.1 cx.tb in_R cx.ow cx.K hZ he rfl 14 (by decide) (cx.tb _ tw_627) (fun _ h => h) hv hdg kk
theorem pf_R_45 {x : Nat} (cx : Cx G n0 e0 p s m args meth c cc nL "BoxDeskModel" ret) (hnm : meth.name = "<init>") (hZ : Zw G.1 vwC (zA n0) w H) (hS : va_S (zA n0) s.heap H locs) (he : w a = some (.inr (6, fs))) (hl : 14 < fs.length) (hdg : decode cc pc = .ok (.putfield 45, 3)) (kk : ∀ (w1 : zw) (H1 : Heap) (locs1 : List Loc), w1 = va_up w a (some (.inr (6, fs.set 14 (.ref x)))) → Zw G.1 vwC (zA n0) w1 H1 → va_S (zA n0) s.heap H1 locs1 → W p l e R s m args below meth c H1 locs1 cells slots Q (F0 m (pc + 3) ls rest)) : W p l e R s m args below meth c H locs cells slots Q (F0 m pc ls (.ref x :: .ref a :: rest)) := z_putF (T := T_R) cx.1 cx.2.1 cx.tb in_R ty_R ty_R_ok nm_R cx.ow cx.K hZ hS he rfl 14 (by decide) (cx.tb _ tw_627) (fun _ h => h) rfl hnm rfl (ty_R_ok 14 (by decide)) rfl rfl hl hdg (fun H1 locs1 z1 s1 => kk _ H1 locs1 rfl z1 s1)
theorem gf_R_48 (cx : Cx G n0 e0 p s m args meth c cc nL "BoxDeskModel" ret) (hZ : Zw G.1 vwC (zA n0) w H) (he : w a = some (.inr (6, fs))) (hv : fs[19]? = some v) (hdg : decode cc pc = .ok (.getfield 48, 3)) (kk : W p l e R s m args below meth c H locs cells slots Q (F0 m (pc + 3) ls (v :: rest))) : W p l e R s m args below meth c H locs cells slots Q (F0 m pc ls (.ref a :: rest)) := z_get (T := T_R) cx.1 cx.2.1 cx.tb in_R cx.ow cx.K hZ he rfl 19 (by decide) (cx.tb _ tw_632) (fun _ h => h) hv hdg kk
theorem pf_R_48 {x : Nat} (cx : Cx G n0 e0 p s m args meth c cc nL "BoxDeskModel" ret) (hnm : meth.name = "<init>") (hZ : Zw G.1 vwC (zA n0) w H) (hS : va_S (zA n0) s.heap H locs) (he : w a = some (.inr (6, fs))) (hl : 19 < fs.length) (hdg : decode cc pc = .ok (.putfield 48, 3)) (kk : ∀ (w1 : zw) (H1 : Heap) (locs1 : List Loc), w1 = va_up w a (some (.inr (6, fs.set 19 (.ref x)))) → Zw G.1 vwC (zA n0) w1 H1 → va_S (zA n0) s.heap H1 locs1 → W p l e R s m args below meth c H1 locs1 cells slots Q (F0 m (pc + 3) ls rest)) : W p l e R s m args below meth c H locs cells slots Q (F0 m pc ls (.ref x :: .ref a :: rest)) := z_putF (T := T_R) cx.1 cx.2.1 cx.tb in_R ty_R ty_R_ok nm_R cx.ow cx.K hZ hS he rfl 19 (by decide) (cx.tb _ tw_632) (fun _ h => h) rfl hnm rfl (ty_R_ok 19 (by decide)) rfl rfl hl hdg (fun H1 locs1 z1 s1 => kk _ H1 locs1 rfl z1 s1)
theorem gf_R_51 (cx : Cx G n0 e0 p s m args meth c cc nL "BoxDeskModel" ret) (hZ : Zw G.1 vwC (zA n0) w H) (he : w a = some (.inr (6, fs))) (hv : fs[0]? = some v) (hdg : decode cc pc = .ok (.getfield 51, 3)) (kk : W p l e R s m args below meth c H locs cells slots Q (F0 m (pc + 3) ls (v :: rest))) : W p l e R s m args below meth c H locs cells slots Q (F0 m pc ls (.ref a :: rest)) := z_get (T := T_R) cx.1 cx.2.1 cx.tb in_R cx.ow cx.K hZ he rfl 0 (by decide) (cx.tb _ tw_613) (fun _ h => h) hv hdg kk
theorem pf_R_51 {x : Int32} (cx : Cx G n0 e0 p s m args meth c cc nL "BoxDeskModel" ret) (hZ : Zw G.1 vwC (zA n0) w H) (hS : va_S (zA n0) s.heap H locs) (he : w a = some (.inr (6, fs))) (hl : 0 < fs.length) (hdg : decode cc pc = .ok (.putfield 51, 3)) (kk : ∀ (w1 : zw) (H1 : Heap) (locs1 : List Loc), w1 = va_up w a (some (.inr (6, fs.set 0 (.int x)))) → Zw G.1 vwC (zA n0) w1 H1 → va_S (zA n0) s.heap H1 locs1 → W p l e R s m args below meth c H1 locs1 cells slots Q (F0 m (pc + 3) ls rest)) : W p l e R s m args below meth c H locs cells slots Q (F0 m pc ls (.int x :: .ref a :: rest)) := z_put (T := T_R) cx.1 cx.2.1 cx.tb in_R ty_R ty_R_ok nm_R cx.ow cx.K hZ hS he rfl 0 (by decide) (cx.tb _ tw_613) (fun _ h => h) rfl (ty_R_ok 0 (by decide)) rfl rfl hl hdg (fun H1 locs1 z1 s1 => kk _ H1 locs1 rfl z1 s1)
theorem lc_R_55 (cx : Cx G n0 e0 p s m args meth c cc nL "BoxDeskModel" ret) (hdg : decode cc pc = .ok (.ldc 55, 2)) (kk : W p l e R s m args below meth c H locs cells slots Q (F0 m (pc + 2) ls (.int (-1073741823) :: rest))) : W p l e R s m args below meth c H locs cells slots Q (F0 m pc ls rest) := lv_ldc cx.1 cx.2.1 cx.ow (cx.tb _ tw_697) hdg kk
theorem lc_R_56 (cx : Cx G n0 e0 p s m args meth c cc nL "BoxDeskModel" ret) (hdg : decode cc pc = .ok (.ldc 56, 2)) (kk : W p l e R s m args below meth c H locs cells slots Q (F0 m (pc + 2) ls (.int (1073741823) :: rest))) : W p l e R s m args below meth c H locs cells slots Q (F0 m pc ls rest) := lv_ldc cx.1 cx.2.1 cx.ow (cx.tb _ tw_698) hdg kk
theorem lc_R_57 (cx : Cx G n0 e0 p s m args meth c cc nL "BoxDeskModel" ret) (hdg : decode cc pc = .ok (.ldc2_w 57, 3)) (kk : W p l e R s m args below meth c H locs cells slots Q (F0 m (pc + 3) ls (.long (-1073741823) :: rest))) : W p l e R s m args below meth c H locs cells slots Q (F0 m pc ls rest) := lv_ldc2 cx.1 cx.2.1 cx.ow (cx.tb _ tw_759) hdg kk
theorem lc_R_59 (cx : Cx G n0 e0 p s m args meth c cc nL "BoxDeskModel" ret) (hdg : decode cc pc = .ok (.ldc2_w 59, 3)) (kk : W p l e R s m args below meth c H locs cells slots Q (F0 m (pc + 3) ls (.long (1073741823) :: rest))) : W p l e R s m args below meth c H locs cells slots Q (F0 m pc ls rest) := lv_ldc2 cx.1 cx.2.1 cx.ow (cx.tb _ tw_760) hdg kk
theorem gf_R_61 (cx : Cx G n0 e0 p s m args meth c cc nL "BoxDeskModel" ret) (hZ : Zw G.1 vwC (zA n0) w H) (he : w a = some (.inr (6, fs))) (hv : fs[13]? = some v) (hdg : decode cc pc = .ok (.getfield 61, 3)) (kk : W p l e R s m args below meth c H locs cells slots Q (F0 m (pc + 3) ls (v :: rest))) : W p l e R s m args below meth c H locs cells slots Q (F0 m pc ls (.ref a :: rest)) := z_get (T := T_R) cx.1 cx.2.1 cx.tb in_R cx.ow cx.K hZ he rfl 13 (by decide) (cx.tb _ tw_626) (fun _ h => h) hv hdg kk
theorem pf_R_61 {x : Int32} (cx : Cx G n0 e0 p s m args meth c cc nL "BoxDeskModel" ret) (hZ : Zw G.1 vwC (zA n0) w H) (hS : va_S (zA n0) s.heap H locs) (he : w a = some (.inr (6, fs))) (hl : 13 < fs.length) (hdg : decode cc pc = .ok (.putfield 61, 3)) (kk : ∀ (w1 : zw) (H1 : Heap) (locs1 : List Loc), w1 = va_up w a (some (.inr (6, fs.set 13 (.int x)))) → Zw G.1 vwC (zA n0) w1 H1 → va_S (zA n0) s.heap H1 locs1 → W p l e R s m args below meth c H1 locs1 cells slots Q (F0 m (pc + 3) ls rest)) : W p l e R s m args below meth c H locs cells slots Q (F0 m pc ls (.int x :: .ref a :: rest)) := z_put (T := T_R) cx.1 cx.2.1 cx.tb in_R ty_R ty_R_ok nm_R cx.ow cx.K hZ hS he rfl 13 (by decide) (cx.tb _ tw_626) (fun _ h => h) rfl (ty_R_ok 13 (by decide)) rfl rfl hl hdg (fun H1 locs1 z1 s1 => kk _ H1 locs1 rfl z1 s1)
theorem iv_R_64 {rm : Room} {As st0 : List Value} {post : Option Value → zw → Prop} (cx : Cx G n0 e0 p s m args meth c cc nL "BoxDeskModel" ret) (hM : Ct l G n0 e0 y_R_shelved b_R_shelved 3 (Option.some FieldType.int) rm (.ref a :: As) w post) (he : w a = some (.inr (6, fs))) (hR : rm.frames + 1 ≤ R.frames ∧ 8 + (3 + 11) + rm.locals ≤ R.locals) (hf : cells + rm.cells ≤ R.cells ∧ slots + rm.slots ≤ R.slots) (hn : As.length = 0) (hsz : ls.size = nL) (hst : st0 = As.reverse ++ .ref a :: rest) (h8 : (rest.map fun v => v.category).sum ≤ 8) (hdg : decode cc pc = .ok (.invokevirtual 64, 3)) (hZ : Zw G.1 vwC (zA n0) w H) (hS : va_S (zA n0) s.heap H locs) (kk : ∀ (v : Option Value) (w1 : zw) (H1 : Heap) (locs1 : List Loc), post v w1 → Zw G.1 vwC (zA n0) w1 H1 → va_S (zA n0) s.heap H1 locs1 → W p l e R s m args below meth c H1 locs1 (cells + rm.cells) (slots + rm.slots) Q (F0 m (pc + 3) ls (v.toList ++ rest))) : W p l e R s m args below meth c H locs cells slots Q (F0 m pc ls st0) := z_ivV (C := "BoxDeskModel") cx tw_710 tw_2 tw_707 tw_709 ts_10 (by decide +kernel) (hZ.recv cx.K rfl he) hM hR hf hn hsz hst h8 hdg hZ hS kk
theorem gf_R_68 (cx : Cx G n0 e0 p s m args meth c cc nL "BoxDeskModel" ret) (hZ : Zw G.1 vwC (zA n0) w H) (he : w a = some (.inr (6, fs))) (hv : fs[10]? = some v) (hdg : decode cc pc = .ok (.getfield 68, 3)) (kk : W p l e R s m args below meth c H locs cells slots Q (F0 m (pc + 3) ls (v :: rest))) : W p l e R s m args below meth c H locs cells slots Q (F0 m pc ls (.ref a :: rest)) := z_get (T := T_R) cx.1 cx.2.1 cx.tb in_R cx.ow cx.K hZ he rfl 10 (by decide) (cx.tb _ tw_623) (fun _ h => h) hv hdg kk
theorem pf_R_68 {x : Int32} (cx : Cx G n0 e0 p s m args meth c cc nL "BoxDeskModel" ret) (hZ : Zw G.1 vwC (zA n0) w H) (hS : va_S (zA n0) s.heap H locs) (he : w a = some (.inr (6, fs))) (hl : 10 < fs.length) (hdg : decode cc pc = .ok (.putfield 68, 3)) (kk : ∀ (w1 : zw) (H1 : Heap) (locs1 : List Loc), w1 = va_up w a (some (.inr (6, fs.set 10 (.int x)))) → Zw G.1 vwC (zA n0) w1 H1 → va_S (zA n0) s.heap H1 locs1 → W p l e R s m args below meth c H1 locs1 cells slots Q (F0 m (pc + 3) ls rest)) : W p l e R s m args below meth c H locs cells slots Q (F0 m pc ls (.int x :: .ref a :: rest)) := z_put (T := T_R) cx.1 cx.2.1 cx.tb in_R ty_R ty_R_ok nm_R cx.ow cx.K hZ hS he rfl 10 (by decide) (cx.tb _ tw_623) (fun _ h => h) rfl (ty_R_ok 10 (by decide)) rfl rfl hl hdg (fun H1 locs1 z1 s1 => kk _ H1 locs1 rfl z1 s1)
theorem iv_R_71 {rm : Room} {As st0 : List Value} {post : Option Value → zw → Prop} (cx : Cx G n0 e0 p s m args meth c cc nL "BoxDeskModel" ret) (hM : Ct l G n0 e0 y_R_hasRoom b_R_hasRoom 2 (Option.some FieldType.boolean) rm (.ref a :: As) w post) (he : w a = some (.inr (6, fs))) (hR : rm.frames + 1 ≤ R.frames ∧ 8 + (2 + 11) + rm.locals ≤ R.locals) (hf : cells + rm.cells ≤ R.cells ∧ slots + rm.slots ≤ R.slots) (hn : As.length = 1) (hsz : ls.size = nL) (hst : st0 = As.reverse ++ .ref a :: rest) (h8 : (rest.map fun v => v.category).sum ≤ 8) (hdg : decode cc pc = .ok (.invokevirtual 71, 3)) (hZ : Zw G.1 vwC (zA n0) w H) (hS : va_S (zA n0) s.heap H locs) (kk : ∀ (v : Option Value) (w1 : zw) (H1 : Heap) (locs1 : List Loc), post v w1 → Zw G.1 vwC (zA n0) w1 H1 → va_S (zA n0) s.heap H1 locs1 → W p l e R s m args below meth c H1 locs1 (cells + rm.cells) (slots + rm.slots) Q (F0 m (pc + 3) ls (v.toList ++ rest))) : W p l e R s m args below meth c H locs cells slots Q (F0 m pc ls st0) := z_ivV (C := "BoxDeskModel") cx tw_706 tw_2 tw_703 tw_705 ts_9 (by decide +kernel) (hZ.recv cx.K rfl he) hM hR hf hn hsz hst h8 hdg hZ hS kk
theorem iv_R_75 {rm : Room} {As st0 : List Value} {post : Option Value → zw → Prop} (cx : Cx G n0 e0 p s m args meth c cc nL "BoxDeskModel" ret) (hM : Ct l G n0 e0 y_R_isVertical b_R_isVertical 1 (Option.some FieldType.boolean) rm (.ref a :: As) w post) (he : w a = some (.inr (6, fs))) (hR : rm.frames + 1 ≤ R.frames ∧ 8 + (1 + 11) + rm.locals ≤ R.locals) (hf : cells + rm.cells ≤ R.cells ∧ slots + rm.slots ≤ R.slots) (hn : As.length = 0) (hsz : ls.size = nL) (hst : st0 = As.reverse ++ .ref a :: rest) (h8 : (rest.map fun v => v.category).sum ≤ 8) (hdg : decode cc pc = .ok (.invokevirtual 75, 3)) (hZ : Zw G.1 vwC (zA n0) w H) (hS : va_S (zA n0) s.heap H locs) (kk : ∀ (v : Option Value) (w1 : zw) (H1 : Heap) (locs1 : List Loc), post v w1 → Zw G.1 vwC (zA n0) w1 H1 → va_S (zA n0) s.heap H1 locs1 → W p l e R s m args below meth c H1 locs1 (cells + rm.cells) (slots + rm.slots) Q (F0 m (pc + 3) ls (v.toList ++ rest))) : W p l e R s m args below meth c H locs cells slots Q (F0 m pc ls st0) := z_ivV (C := "BoxDeskModel") cx tw_693 tw_2 tw_690 tw_692 ts_7 (by decide +kernel) (hZ.recv cx.K rfl he) hM hR hf hn hsz hst h8 hdg hZ hS kk
theorem is_R_79 {rm : Room} {As st0 : List Value} {post : Option Value → zw → Prop} (cx : Cx G n0 e0 p s m args meth c cc nL "BoxDeskModel" ret) (hM : Ct l G n0 e0 y_R_isSize b_R_isSize 1 (Option.some FieldType.boolean) rm As w post) (hR : rm.frames + 1 ≤ R.frames ∧ 8 + (1 + 11) + rm.locals ≤ R.locals) (hf : cells + rm.cells ≤ R.cells ∧ slots + rm.slots ≤ R.slots) (hn : As.length = 1) (hsz : ls.size = nL) (hst : st0 = As.reverse ++ rest) (h8 : (rest.map fun v => v.category).sum ≤ 8) (hdg : decode cc pc = .ok (.invokestatic 79, 3)) (hZ : Zw G.1 vwC (zA n0) w H) (hS : va_S (zA n0) s.heap H locs) (kk : ∀ (v : Option Value) (w1 : zw) (H1 : Heap) (locs1 : List Loc), post v w1 → Zw G.1 vwC (zA n0) w1 H1 → va_S (zA n0) s.heap H1 locs1 → W p l e R s m args below meth c H1 locs1 (cells + rm.cells) (slots + rm.slots) Q (F0 m (pc + 3) ls (v.toList ++ rest))) : W p l e R s m args below meth c H locs cells slots Q (F0 m pc ls st0) := z_ivS cx tw_696 tw_2 tw_694 tw_695 (by decide +kernel) hM hR hf hn hsz hst h8 hdg hZ hS kk
theorem iv_R_82 {rm : Room} {As st0 : List Value} {post : Option Value → zw → Prop} (cx : Cx G n0 e0 p s m args meth c cc nL "BoxDeskModel" ret) (hM : Ct l G n0 e0 y_R_add b_R_add 9 (Option.some FieldType.boolean) rm (.ref a :: As) w post) (he : w a = some (.inr (6, fs))) (hR : rm.frames + 1 ≤ R.frames ∧ 8 + (9 + 11) + rm.locals ≤ R.locals) (hf : cells + rm.cells ≤ R.cells ∧ slots + rm.slots ≤ R.slots) (hn : As.length = 8) (hsz : ls.size = nL) (hst : st0 = As.reverse ++ .ref a :: rest) (h8 : (rest.map fun v => v.category).sum ≤ 8) (hdg : decode cc pc = .ok (.invokevirtual 82, 3)) (hZ : Zw G.1 vwC (zA n0) w H) (hS : va_S (zA n0) s.heap H locs) (kk : ∀ (v : Option Value) (w1 : zw) (H1 : Heap) (locs1 : List Loc), post v w1 → Zw G.1 vwC (zA n0) w1 H1 → va_S (zA n0) s.heap H1 locs1 → W p l e R s m args below meth c H1 locs1 (cells + rm.cells) (slots + rm.slots) Q (F0 m (pc + 3) ls (v.toList ++ rest))) : W p l e R s m args below meth c H locs cells slots Q (F0 m pc ls st0) := z_ivV (C := "BoxDeskModel") cx tw_702 tw_2 tw_699 tw_701 ts_8 (by decide +kernel) (hZ.recv cx.K rfl he) hM hR hf hn hsz hst h8 hdg hZ hS kk
theorem lc_R_86 (cx : Cx G n0 e0 p s m args meth c cc nL "BoxDeskModel" ret) (hdg : decode cc pc = .ok (.ldc 86, 2)) (kk : W p l e R s m args below meth c H locs cells slots Q (F0 m (pc + 2) ls (.int (-2147483648) :: rest))) : W p l e R s m args below meth c H locs cells slots Q (F0 m pc ls rest) := lv_ldc cx.1 cx.2.1 cx.ow (cx.tb _ tw_715) hdg kk
theorem iv_R_87 {rm : Room} {As st0 : List Value} {post : Option Value → zw → Prop} (cx : Cx G n0 e0 p s m args meth c cc nL "BoxDeskModel" ret) (hM : Ct l G n0 e0 y_R_isBox b_R_isBox 2 (Option.some FieldType.boolean) rm (.ref a :: As) w post) (he : w a = some (.inr (6, fs))) (hR : rm.frames + 1 ≤ R.frames ∧ 8 + (2 + 11) + rm.locals ≤ R.locals) (hf : cells + rm.cells ≤ R.cells ∧ slots + rm.slots ≤ R.slots) (hn : As.length = 1) (hsz : ls.size = nL) (hst : st0 = As.reverse ++ .ref a :: rest) (h8 : (rest.map fun v => v.category).sum ≤ 8) (hdg : decode cc pc = .ok (.invokevirtual 87, 3)) (hZ : Zw G.1 vwC (zA n0) w H) (hS : va_S (zA n0) s.heap H locs) (kk : ∀ (v : Option Value) (w1 : zw) (H1 : Heap) (locs1 : List Loc), post v w1 → Zw G.1 vwC (zA n0) w1 H1 → va_S (zA n0) s.heap H1 locs1 → W p l e R s m args below meth c H1 locs1 (cells + rm.cells) (slots + rm.slots) Q (F0 m (pc + 3) ls (v.toList ++ rest))) : W p l e R s m args below meth c H locs cells slots Q (F0 m pc ls st0) := z_ivV (C := "BoxDeskModel") cx tw_747 tw_2 tw_744 tw_746 ts_14 (by decide +kernel) (hZ.recv cx.K rfl he) hM hR hf hn hsz hst h8 hdg hZ hS kk
theorem gf_R_90 (cx : Cx G n0 e0 p s m args meth c cc nL "BoxDeskModel" ret) (hZ : Zw G.1 vwC (zA n0) w H) (he : w a = some (.inr (6, fs))) (hv : fs[15]? = some v) (hdg : decode cc pc = .ok (.getfield 90, 3)) (kk : W p l e R s m args below meth c H locs cells slots Q (F0 m (pc + 3) ls (v :: rest))) : W p l e R s m args below meth c H locs cells slots Q (F0 m pc ls (.ref a :: rest)) := z_get (T := T_R) cx.1 cx.2.1 cx.tb in_R cx.ow cx.K hZ he rfl 15 (by decide) (cx.tb _ tw_628) (fun _ h => h) hv hdg kk
theorem pf_R_90 {x : Int64} (cx : Cx G n0 e0 p s m args meth c cc nL "BoxDeskModel" ret) (hZ : Zw G.1 vwC (zA n0) w H) (hS : va_S (zA n0) s.heap H locs) (he : w a = some (.inr (6, fs))) (hl : 15 < fs.length) (hdg : decode cc pc = .ok (.putfield 90, 3)) (kk : ∀ (w1 : zw) (H1 : Heap) (locs1 : List Loc), w1 = va_up w a (some (.inr (6, fs.set 15 (.long x)))) → Zw G.1 vwC (zA n0) w1 H1 → va_S (zA n0) s.heap H1 locs1 → W p l e R s m args below meth c H1 locs1 cells slots Q (F0 m (pc + 3) ls rest)) : W p l e R s m args below meth c H locs cells slots Q (F0 m pc ls (.long x :: .ref a :: rest)) := z_put (T := T_R) cx.1 cx.2.1 cx.tb in_R ty_R ty_R_ok nm_R cx.ow cx.K hZ hS he rfl 15 (by decide) (cx.tb _ tw_628) (fun _ h => h) rfl (ty_R_ok 15 (by decide)) rfl rfl hl hdg (fun H1 locs1 z1 s1 => kk _ H1 locs1 rfl z1 s1)
theorem gf_R_94 (cx : Cx G n0 e0 p s m args meth c cc nL "BoxDeskModel" ret) (hZ : Zw G.1 vwC (zA n0) w H) (he : w a = some (.inr (6, fs))) (hv : fs[16]? = some v) (hdg : decode cc pc = .ok (.getfield 94, 3)) (kk : W p l e R s m args below meth c H locs cells slots Q (F0 m (pc + 3) ls (v :: rest))) : W p l e R s m args below meth c H locs cells slots Q (F0 m pc ls (.ref a :: rest)) := z_get (T := T_R) cx.1 cx.2.1 cx.tb in_R cx.ow cx.K hZ he rfl 16 (by decide) (cx.tb _ tw_629) (fun _ h => h) hv hdg kk
theorem pf_R_94 {x : Int64} (cx : Cx G n0 e0 p s m args meth c cc nL "BoxDeskModel" ret) (hZ : Zw G.1 vwC (zA n0) w H) (hS : va_S (zA n0) s.heap H locs) (he : w a = some (.inr (6, fs))) (hl : 16 < fs.length) (hdg : decode cc pc = .ok (.putfield 94, 3)) (kk : ∀ (w1 : zw) (H1 : Heap) (locs1 : List Loc), w1 = va_up w a (some (.inr (6, fs.set 16 (.long x)))) → Zw G.1 vwC (zA n0) w1 H1 → va_S (zA n0) s.heap H1 locs1 → W p l e R s m args below meth c H1 locs1 cells slots Q (F0 m (pc + 3) ls rest)) : W p l e R s m args below meth c H locs cells slots Q (F0 m pc ls (.long x :: .ref a :: rest)) := z_put (T := T_R) cx.1 cx.2.1 cx.tb in_R ty_R ty_R_ok nm_R cx.ow cx.K hZ hS he rfl 16 (by decide) (cx.tb _ tw_629) (fun _ h => h) rfl (ty_R_ok 16 (by decide)) rfl rfl hl hdg (fun H1 locs1 z1 s1 => kk _ H1 locs1 rfl z1 s1)
theorem gf_R_97 (cx : Cx G n0 e0 p s m args meth c cc nL "BoxDeskModel" ret) (hZ : Zw G.1 vwC (zA n0) w H) (he : w a = some (.inr (6, fs))) (hv : fs[17]? = some v) (hdg : decode cc pc = .ok (.getfield 97, 3)) (kk : W p l e R s m args below meth c H locs cells slots Q (F0 m (pc + 3) ls (v :: rest))) : W p l e R s m args below meth c H locs cells slots Q (F0 m pc ls (.ref a :: rest)) := z_get (T := T_R) cx.1 cx.2.1 cx.tb in_R cx.ow cx.K hZ he rfl 17 (by decide) (cx.tb _ tw_630) (fun _ h => h) hv hdg kk
theorem pf_R_97 {x : Int64} (cx : Cx G n0 e0 p s m args meth c cc nL "BoxDeskModel" ret) (hZ : Zw G.1 vwC (zA n0) w H) (hS : va_S (zA n0) s.heap H locs) (he : w a = some (.inr (6, fs))) (hl : 17 < fs.length) (hdg : decode cc pc = .ok (.putfield 97, 3)) (kk : ∀ (w1 : zw) (H1 : Heap) (locs1 : List Loc), w1 = va_up w a (some (.inr (6, fs.set 17 (.long x)))) → Zw G.1 vwC (zA n0) w1 H1 → va_S (zA n0) s.heap H1 locs1 → W p l e R s m args below meth c H1 locs1 cells slots Q (F0 m (pc + 3) ls rest)) : W p l e R s m args below meth c H locs cells slots Q (F0 m pc ls (.long x :: .ref a :: rest)) := z_put (T := T_R) cx.1 cx.2.1 cx.tb in_R ty_R ty_R_ok nm_R cx.ow cx.K hZ hS he rfl 17 (by decide) (cx.tb _ tw_630) (fun _ h => h) rfl (ty_R_ok 17 (by decide)) rfl rfl hl hdg (fun H1 locs1 z1 s1 => kk _ H1 locs1 rfl z1 s1)
theorem gf_R_100 (cx : Cx G n0 e0 p s m args meth c cc nL "BoxDeskModel" ret) (hZ : Zw G.1 vwC (zA n0) w H) (he : w a = some (.inr (6, fs))) (hv : fs[18]? = some v) (hdg : decode cc pc = .ok (.getfield 100, 3)) (kk : W p l e R s m args below meth c H locs cells slots Q (F0 m (pc + 3) ls (v :: rest))) : W p l e R s m args below meth c H locs cells slots Q (F0 m pc ls (.ref a :: rest)) := z_get (T := T_R) cx.1 cx.2.1 cx.tb in_R cx.ow cx.K hZ he rfl 18 (by decide) (cx.tb _ tw_631) (fun _ h => h) hv hdg kk
theorem pf_R_100 {x : Int64} (cx : Cx G n0 e0 p s m args meth c cc nL "BoxDeskModel" ret) (hZ : Zw G.1 vwC (zA n0) w H) (hS : va_S (zA n0) s.heap H locs) (he : w a = some (.inr (6, fs))) (hl : 18 < fs.length) (hdg : decode cc pc = .ok (.putfield 100, 3)) (kk : ∀ (w1 : zw) (H1 : Heap) (locs1 : List Loc), w1 = va_up w a (some (.inr (6, fs.set 18 (.long x)))) → Zw G.1 vwC (zA n0) w1 H1 → va_S (zA n0) s.heap H1 locs1 → W p l e R s m args below meth c H1 locs1 cells slots Q (F0 m (pc + 3) ls rest)) : W p l e R s m args below meth c H locs cells slots Q (F0 m pc ls (.long x :: .ref a :: rest)) := z_put (T := T_R) cx.1 cx.2.1 cx.tb in_R ty_R ty_R_ok nm_R cx.ow cx.K hZ hS he rfl 18 (by decide) (cx.tb _ tw_631) (fun _ h => h) rfl (ty_R_ok 18 (by decide)) rfl rfl hl hdg (fun H1 locs1 z1 s1 => kk _ H1 locs1 rfl z1 s1)
theorem gf_R_103 (cx : Cx G n0 e0 p s m args meth c cc nL "BoxDeskModel" ret) (hZ : Zw G.1 vwC (zA n0) w H) (he : w a = some (.inr (6, fs))) (hv : fs[20]? = some v) (hdg : decode cc pc = .ok (.getfield 103, 3)) (kk : W p l e R s m args below meth c H locs cells slots Q (F0 m (pc + 3) ls (v :: rest))) : W p l e R s m args below meth c H locs cells slots Q (F0 m pc ls (.ref a :: rest)) := z_get (T := T_R) cx.1 cx.2.1 cx.tb in_R cx.ow cx.K hZ he rfl 20 (by decide) (cx.tb _ tw_633) (fun _ h => h) hv hdg kk
theorem pf_R_103 {x : Int64} (cx : Cx G n0 e0 p s m args meth c cc nL "BoxDeskModel" ret) (hZ : Zw G.1 vwC (zA n0) w H) (hS : va_S (zA n0) s.heap H locs) (he : w a = some (.inr (6, fs))) (hl : 20 < fs.length) (hdg : decode cc pc = .ok (.putfield 103, 3)) (kk : ∀ (w1 : zw) (H1 : Heap) (locs1 : List Loc), w1 = va_up w a (some (.inr (6, fs.set 20 (.long x)))) → Zw G.1 vwC (zA n0) w1 H1 → va_S (zA n0) s.heap H1 locs1 → W p l e R s m args below meth c H1 locs1 cells slots Q (F0 m (pc + 3) ls rest)) : W p l e R s m args below meth c H locs cells slots Q (F0 m pc ls (.long x :: .ref a :: rest)) := z_put (T := T_R) cx.1 cx.2.1 cx.tb in_R ty_R ty_R_ok nm_R cx.ow cx.K hZ hS he rfl 20 (by decide) (cx.tb _ tw_633) (fun _ h => h) rfl (ty_R_ok 20 (by decide)) rfl rfl hl hdg (fun H1 locs1 z1 s1 => kk _ H1 locs1 rfl z1 s1)
theorem iv_R_106 {rm : Room} {As st0 : List Value} {post : Option Value → zw → Prop} (cx : Cx G n0 e0 p s m args meth c cc nL "BoxDeskModel" ret) (hM : Ct l G n0 e0 y_R_measure b_R_measure 3 (Option.none : Option FieldType) rm (.ref a :: As) w post) (he : w a = some (.inr (6, fs))) (hR : rm.frames + 1 ≤ R.frames ∧ 8 + (3 + 11) + rm.locals ≤ R.locals) (hf : cells + rm.cells ≤ R.cells ∧ slots + rm.slots ≤ R.slots) (hn : As.length = 1) (hsz : ls.size = nL) (hst : st0 = As.reverse ++ .ref a :: rest) (h8 : (rest.map fun v => v.category).sum ≤ 8) (hdg : decode cc pc = .ok (.invokevirtual 106, 3)) (hZ : Zw G.1 vwC (zA n0) w H) (hS : va_S (zA n0) s.heap H locs) (kk : ∀ (v : Option Value) (w1 : zw) (H1 : Heap) (locs1 : List Loc), post v w1 → Zw G.1 vwC (zA n0) w1 H1 → va_S (zA n0) s.heap H1 locs1 → W p l e R s m args below meth c H1 locs1 (cells + rm.cells) (slots + rm.slots) Q (F0 m (pc + 3) ls (v.toList ++ rest))) : W p l e R s m args below meth c H locs cells slots Q (F0 m pc ls st0) := z_ivV (C := "BoxDeskModel") cx tw_743 tw_2 tw_740 tw_742 ts_13 (by decide +kernel) (hZ.recv cx.K rfl he) hM hR hf hn hsz hst h8 hdg hZ hS kk
theorem iv_R_110 {rm : Room} {As st0 : List Value} {post : Option Value → zw → Prop} (cx : Cx G n0 e0 p s m args meth c cc nL "BoxDeskModel" ret) (hM : Ct l G n0 e0 y_R_isSolid b_R_isSolid 2 (Option.some FieldType.boolean) rm (.ref a :: As) w post) (he : w a = some (.inr (6, fs))) (hR : rm.frames + 1 ≤ R.frames ∧ 8 + (2 + 11) + rm.locals ≤ R.locals) (hf : cells + rm.cells ≤ R.cells ∧ slots + rm.slots ≤ R.slots) (hn : As.length = 1) (hsz : ls.size = nL) (hst : st0 = As.reverse ++ .ref a :: rest) (h8 : (rest.map fun v => v.category).sum ≤ 8) (hdg : decode cc pc = .ok (.invokevirtual 110, 3)) (hZ : Zw G.1 vwC (zA n0) w H) (hS : va_S (zA n0) s.heap H locs) (kk : ∀ (v : Option Value) (w1 : zw) (H1 : Heap) (locs1 : List Loc), post v w1 → Zw G.1 vwC (zA n0) w1 H1 → va_S (zA n0) s.heap H1 locs1 → W p l e R s m args below meth c H1 locs1 (cells + rm.cells) (slots + rm.slots) Q (F0 m (pc + 3) ls (v.toList ++ rest))) : W p l e R s m args below meth c H locs cells slots Q (F0 m pc ls st0) := z_ivV (C := "BoxDeskModel") cx tw_751 tw_2 tw_748 tw_750 ts_15 (by decide +kernel) (hZ.recv cx.K rfl he) hM hR hf hn hsz hst h8 hdg hZ hS kk
theorem is_R_113 {rm : Room} {As st0 : List Value} {post : Option Value → zw → Prop} (cx : Cx G n0 e0 p s m args meth c cc nL "BoxDeskModel" ret) (hM : Ct l G n0 e0 y_R_near0 b_R_near0 4 (Option.some FieldType.long) rm As w post) (hR : rm.frames + 1 ≤ R.frames ∧ 8 + (4 + 11) + rm.locals ≤ R.locals) (hf : cells + rm.cells ≤ R.cells ∧ slots + rm.slots ≤ R.slots) (hn : As.length = 2) (hsz : ls.size = nL) (hst : st0 = As.reverse ++ rest) (h8 : (rest.map fun v => v.category).sum ≤ 8) (hdg : decode cc pc = .ok (.invokestatic 113, 3)) (hZ : Zw G.1 vwC (zA n0) w H) (hS : va_S (zA n0) s.heap H locs) (kk : ∀ (v : Option Value) (w1 : zw) (H1 : Heap) (locs1 : List Loc), post v w1 → Zw G.1 vwC (zA n0) w1 H1 → va_S (zA n0) s.heap H1 locs1 → W p l e R s m args below meth c H1 locs1 (cells + rm.cells) (slots + rm.slots) Q (F0 m (pc + 3) ls (v.toList ++ rest))) : W p l e R s m args below meth c H locs cells slots Q (F0 m pc ls st0) := z_ivS cx tw_774 tw_2 tw_772 tw_773 (by decide +kernel) hM hR hf hn hsz hst h8 hdg hZ hS kk
theorem lc_R_117 (cx : Cx G n0 e0 p s m args meth c cc nL "BoxDeskModel" ret) (hdg : decode cc pc = .ok (.ldc2_w 117, 3)) (kk : W p l e R s m args below meth c H locs cells slots Q (F0 m (pc + 3) ls (.long (2) :: rest))) : W p l e R s m args below meth c H locs cells slots Q (F0 m pc ls rest) := lv_ldc2 cx.1 cx.2.1 cx.ow (cx.tb _ tw_775) hdg kk
theorem is_R_119 {rm : Room} {As st0 : List Value} {post : Option Value → zw → Prop} (cx : Cx G n0 e0 p s m args meth c cc nL "BoxDeskModel" ret) (hM : Ct l G n0 e0 y_R_near b_R_near 4 (Option.some FieldType.long) rm As w post) (hR : rm.frames + 1 ≤ R.frames ∧ 8 + (4 + 11) + rm.locals ≤ R.locals) (hf : cells + rm.cells ≤ R.cells ∧ slots + rm.slots ≤ R.slots) (hn : As.length = 2) (hsz : ls.size = nL) (hst : st0 = As.reverse ++ rest) (h8 : (rest.map fun v => v.category).sum ≤ 8) (hdg : decode cc pc = .ok (.invokestatic 119, 3)) (hZ : Zw G.1 vwC (zA n0) w H) (hS : va_S (zA n0) s.heap H locs) (kk : ∀ (v : Option Value) (w1 : zw) (H1 : Heap) (locs1 : List Loc), post v w1 → Zw G.1 vwC (zA n0) w1 H1 → va_S (zA n0) s.heap H1 locs1 → W p l e R s m args below meth c H1 locs1 (cells + rm.cells) (slots + rm.slots) Q (F0 m (pc + 3) ls (v.toList ++ rest))) : W p l e R s m args below meth c H locs cells slots Q (F0 m pc ls st0) := z_ivS cx tw_771 tw_2 tw_769 tw_770 (by decide +kernel) hM hR hf hn hsz hst h8 hdg hZ hS kk
theorem iv_R_122 {rm : Room} {As st0 : List Value} {post : Option Value → zw → Prop} (cx : Cx G n0 e0 p s m args meth c cc nL "BoxDeskModel" ret) (hM : Ct l G n0 e0 y_R_start b_R_start 4 (Option.some FieldType.int) rm (.ref a :: As) w post) (he : w a = some (.inr (6, fs))) (hR : rm.frames + 1 ≤ R.frames ∧ 8 + (4 + 11) + rm.locals ≤ R.locals) (hf : cells + rm.cells ≤ R.cells ∧ slots + rm.slots ≤ R.slots) (hn : As.length = 1) (hsz : ls.size = nL) (hst : st0 = As.reverse ++ .ref a :: rest) (h8 : (rest.map fun v => v.category).sum ≤ 8) (hdg : decode cc pc = .ok (.invokevirtual 122, 3)) (hZ : Zw G.1 vwC (zA n0) w H) (hS : va_S (zA n0) s.heap H locs) (kk : ∀ (v : Option Value) (w1 : zw) (H1 : Heap) (locs1 : List Loc), post v w1 → Zw G.1 vwC (zA n0) w1 H1 → va_S (zA n0) s.heap H1 locs1 → W p l e R s m args below meth c H1 locs1 (cells + rm.cells) (slots + rm.slots) Q (F0 m (pc + 3) ls (v.toList ++ rest))) : W p l e R s m args below meth c H locs cells slots Q (F0 m pc ls st0) := z_ivV (C := "BoxDeskModel") cx tw_783 tw_2 tw_780 tw_782 ts_20 (by decide +kernel) (hZ.recv cx.K rfl he) hM hR hf hn hsz hst h8 hdg hZ hS kk
theorem iv_R_126 {rm : Room} {As st0 : List Value} {post : Option Value → zw → Prop} (cx : Cx G n0 e0 p s m args meth c cc nL "BoxDeskModel" ret) (hM : Ct l G n0 e0 y_R_move b_R_move 3 (Option.none : Option FieldType) rm (.ref a :: As) w post) (he : w a = some (.inr (6, fs))) (hR : rm.frames + 1 ≤ R.frames ∧ 8 + (3 + 11) + rm.locals ≤ R.locals) (hf : cells + rm.cells ≤ R.cells ∧ slots + rm.slots ≤ R.slots) (hn : As.length = 2) (hsz : ls.size = nL) (hst : st0 = As.reverse ++ .ref a :: rest) (h8 : (rest.map fun v => v.category).sum ≤ 8) (hdg : decode cc pc = .ok (.invokevirtual 126, 3)) (hZ : Zw G.1 vwC (zA n0) w H) (hS : va_S (zA n0) s.heap H locs) (kk : ∀ (v : Option Value) (w1 : zw) (H1 : Heap) (locs1 : List Loc), post v w1 → Zw G.1 vwC (zA n0) w1 H1 → va_S (zA n0) s.heap H1 locs1 → W p l e R s m args below meth c H1 locs1 (cells + rm.cells) (slots + rm.slots) Q (F0 m (pc + 3) ls (v.toList ++ rest))) : W p l e R s m args below meth c H locs cells slots Q (F0 m pc ls st0) := z_ivV (C := "BoxDeskModel") cx tw_787 tw_2 tw_784 tw_786 ts_21 (by decide +kernel) (hZ.recv cx.K rfl he) hM hR hf hn hsz hst h8 hdg hZ hS kk
theorem iv_R_130 {rm : Room} {As st0 : List Value} {post : Option Value → zw → Prop} (cx : Cx G n0 e0 p s m args meth c cc nL "BoxDeskModel" ret) (hM : Ct l G n0 e0 y_R_fails b_R_fails 2 (Option.some FieldType.int) rm (.ref a :: As) w post) (he : w a = some (.inr (6, fs))) (hR : rm.frames + 1 ≤ R.frames ∧ 8 + (2 + 11) + rm.locals ≤ R.locals) (hf : cells + rm.cells ≤ R.cells ∧ slots + rm.slots ≤ R.slots) (hn : As.length = 1) (hsz : ls.size = nL) (hst : st0 = As.reverse ++ .ref a :: rest) (h8 : (rest.map fun v => v.category).sum ≤ 8) (hdg : decode cc pc = .ok (.invokevirtual 130, 3)) (hZ : Zw G.1 vwC (zA n0) w H) (hS : va_S (zA n0) s.heap H locs) (kk : ∀ (v : Option Value) (w1 : zw) (H1 : Heap) (locs1 : List Loc), post v w1 → Zw G.1 vwC (zA n0) w1 H1 → va_S (zA n0) s.heap H1 locs1 → W p l e R s m args below meth c H1 locs1 (cells + rm.cells) (slots + rm.slots) Q (F0 m (pc + 3) ls (v.toList ++ rest))) : W p l e R s m args below meth c H locs cells slots Q (F0 m pc ls st0) := z_ivV (C := "BoxDeskModel") cx tw_735 tw_2 tw_732 tw_734 ts_11 (by decide +kernel) (hZ.recv cx.K rfl he) hM hR hf hn hsz hst h8 hdg hZ hS kk
theorem iv_R_133 {rm : Room} {As st0 : List Value} {post : Option Value → zw → Prop} (cx : Cx G n0 e0 p s m args meth c cc nL "BoxDeskModel" ret) (hM : Ct l G n0 e0 y_R_measureHigh b_R_measureHigh 7 (Option.none : Option FieldType) rm (.ref a :: As) w post) (he : w a = some (.inr (6, fs))) (hR : rm.frames + 1 ≤ R.frames ∧ 8 + (7 + 11) + rm.locals ≤ R.locals) (hf : cells + rm.cells ≤ R.cells ∧ slots + rm.slots ≤ R.slots) (hn : As.length = 2) (hsz : ls.size = nL) (hst : st0 = As.reverse ++ .ref a :: rest) (h8 : (rest.map fun v => v.category).sum ≤ 8) (hdg : decode cc pc = .ok (.invokevirtual 133, 3)) (hZ : Zw G.1 vwC (zA n0) w H) (hS : va_S (zA n0) s.heap H locs) (kk : ∀ (v : Option Value) (w1 : zw) (H1 : Heap) (locs1 : List Loc), post v w1 → Zw G.1 vwC (zA n0) w1 H1 → va_S (zA n0) s.heap H1 locs1 → W p l e R s m args below meth c H1 locs1 (cells + rm.cells) (slots + rm.slots) Q (F0 m (pc + 3) ls (v.toList ++ rest))) : W p l e R s m args below meth c H locs cells slots Q (F0 m pc ls st0) := z_ivV (C := "BoxDeskModel") cx tw_739 tw_2 tw_736 tw_738 ts_12 (by decide +kernel) (hZ.recv cx.K rfl he) hM hR hf hn hsz hst h8 hdg hZ hS kk
theorem iv_R_136 {rm : Room} {As st0 : List Value} {post : Option Value → zw → Prop} (cx : Cx G n0 e0 p s m args meth c cc nL "BoxDeskModel" ret) (hM : Ct l G n0 e0 y_R_measureWide b_R_measureWide 5 (Option.none : Option FieldType) rm (.ref a :: As) w post) (he : w a = some (.inr (6, fs))) (hR : rm.frames + 1 ≤ R.frames ∧ 8 + (5 + 11) + rm.locals ≤ R.locals) (hf : cells + rm.cells ≤ R.cells ∧ slots + rm.slots ≤ R.slots) (hn : As.length = 1) (hsz : ls.size = nL) (hst : st0 = As.reverse ++ .ref a :: rest) (h8 : (rest.map fun v => v.category).sum ≤ 8) (hdg : decode cc pc = .ok (.invokevirtual 136, 3)) (hZ : Zw G.1 vwC (zA n0) w H) (hS : va_S (zA n0) s.heap H locs) (kk : ∀ (v : Option Value) (w1 : zw) (H1 : Heap) (locs1 : List Loc), post v w1 → Zw G.1 vwC (zA n0) w1 H1 → va_S (zA n0) s.heap H1 locs1 → W p l e R s m args below meth c H1 locs1 (cells + rm.cells) (slots + rm.slots) Q (F0 m (pc + 3) ls (v.toList ++ rest))) : W p l e R s m args below meth c H locs cells slots Q (F0 m pc ls st0) := z_ivV (C := "BoxDeskModel") cx tw_755 tw_2 tw_752 tw_754 ts_16 (by decide +kernel) (hZ.recv cx.K rfl he) hM hR hf hn hsz hst h8 hdg hZ hS kk
theorem is_R_139 {rm : Room} {As st0 : List Value} {post : Option Value → zw → Prop} (cx : Cx G n0 e0 p s m args meth c cc nL "BoxDeskModel" ret) (hM : Ct l G n0 e0 y_R_isSizeLong b_R_isSizeLong 2 (Option.some FieldType.boolean) rm As w post) (hR : rm.frames + 1 ≤ R.frames ∧ 8 + (2 + 11) + rm.locals ≤ R.locals) (hf : cells + rm.cells ≤ R.cells ∧ slots + rm.slots ≤ R.slots) (hn : As.length = 1) (hsz : ls.size = nL) (hst : st0 = As.reverse ++ rest) (h8 : (rest.map fun v => v.category).sum ≤ 8) (hdg : decode cc pc = .ok (.invokestatic 139, 3)) (hZ : Zw G.1 vwC (zA n0) w H) (hS : va_S (zA n0) s.heap H locs) (kk : ∀ (v : Option Value) (w1 : zw) (H1 : Heap) (locs1 : List Loc), post v w1 → Zw G.1 vwC (zA n0) w1 H1 → va_S (zA n0) s.heap H1 locs1 → W p l e R s m args below meth c H1 locs1 (cells + rm.cells) (slots + rm.slots) Q (F0 m (pc + 3) ls (v.toList ++ rest))) : W p l e R s m args below meth c H locs cells slots Q (F0 m pc ls st0) := z_ivS cx tw_758 tw_2 tw_756 tw_757 (by decide +kernel) hM hR hf hn hsz hst h8 hdg hZ hS kk
theorem iv_R_143 {rm : Room} {As st0 : List Value} {post : Option Value → zw → Prop} (cx : Cx G n0 e0 p s m args meth c cc nL "BoxDeskModel" ret) (hM : Ct l G n0 e0 y_R_nested b_R_nested 7 (Option.some FieldType.int) rm (.ref a :: As) w post) (he : w a = some (.inr (6, fs))) (hR : rm.frames + 1 ≤ R.frames ∧ 8 + (7 + 11) + rm.locals ≤ R.locals) (hf : cells + rm.cells ≤ R.cells ∧ slots + rm.slots ≤ R.slots) (hn : As.length = 2) (hsz : ls.size = nL) (hst : st0 = As.reverse ++ .ref a :: rest) (h8 : (rest.map fun v => v.category).sum ≤ 8) (hdg : decode cc pc = .ok (.invokevirtual 143, 3)) (hZ : Zw G.1 vwC (zA n0) w H) (hS : va_S (zA n0) s.heap H locs) (kk : ∀ (v : Option Value) (w1 : zw) (H1 : Heap) (locs1 : List Loc), post v w1 → Zw G.1 vwC (zA n0) w1 H1 → va_S (zA n0) s.heap H1 locs1 → W p l e R s m args below meth c H1 locs1 (cells + rm.cells) (slots + rm.slots) Q (F0 m (pc + 3) ls (v.toList ++ rest))) : W p l e R s m args below meth c H locs cells slots Q (F0 m pc ls st0) := z_ivV (C := "BoxDeskModel") cx tw_764 tw_2 tw_761 tw_763 ts_17 (by decide +kernel) (hZ.recv cx.K rfl he) hM hR hf hn hsz hst h8 hdg hZ hS kk
theorem iv_R_147 {rm : Room} {As st0 : List Value} {post : Option Value → zw → Prop} (cx : Cx G n0 e0 p s m args meth c cc nL "BoxDeskModel" ret) (hM : Ct l G n0 e0 y_R_share b_R_share 16 (Option.none : Option FieldType) rm (.ref a :: As) w post) (he : w a = some (.inr (6, fs))) (hR : rm.frames + 1 ≤ R.frames ∧ 8 + (16 + 11) + rm.locals ≤ R.locals) (hf : cells + rm.cells ≤ R.cells ∧ slots + rm.slots ≤ R.slots) (hn : As.length = 2) (hsz : ls.size = nL) (hst : st0 = As.reverse ++ .ref a :: rest) (h8 : (rest.map fun v => v.category).sum ≤ 8) (hdg : decode cc pc = .ok (.invokevirtual 147, 3)) (hZ : Zw G.1 vwC (zA n0) w H) (hS : va_S (zA n0) s.heap H locs) (kk : ∀ (v : Option Value) (w1 : zw) (H1 : Heap) (locs1 : List Loc), post v w1 → Zw G.1 vwC (zA n0) w1 H1 → va_S (zA n0) s.heap H1 locs1 → W p l e R s m args below meth c H1 locs1 (cells + rm.cells) (slots + rm.slots) Q (F0 m (pc + 3) ls (v.toList ++ rest))) : W p l e R s m args below meth c H locs cells slots Q (F0 m pc ls st0) := z_ivV (C := "BoxDeskModel") cx tw_768 tw_2 tw_765 tw_767 ts_18 (by decide +kernel) (hZ.recv cx.K rfl he) hM hR hf hn hsz hst h8 hdg hZ hS kk
theorem iv_R_151 {rm : Room} {As st0 : List Value} {post : Option Value → zw → Prop} (cx : Cx G n0 e0 p s m args meth c cc nL "BoxDeskModel" ret) (hM : Ct l G n0 e0 y_R_empty b_R_empty 6 (Option.none : Option FieldType) rm (.ref a :: As) w post) (he : w a = some (.inr (6, fs))) (hR : rm.frames + 1 ≤ R.frames ∧ 8 + (6 + 11) + rm.locals ≤ R.locals) (hf : cells + rm.cells ≤ R.cells ∧ slots + rm.slots ≤ R.slots) (hn : As.length = 1) (hsz : ls.size = nL) (hst : st0 = As.reverse ++ .ref a :: rest) (h8 : (rest.map fun v => v.category).sum ≤ 8) (hdg : decode cc pc = .ok (.invokevirtual 151, 3)) (hZ : Zw G.1 vwC (zA n0) w H) (hS : va_S (zA n0) s.heap H locs) (kk : ∀ (v : Option Value) (w1 : zw) (H1 : Heap) (locs1 : List Loc), post v w1 → Zw G.1 vwC (zA n0) w1 H1 → va_S (zA n0) s.heap H1 locs1 → W p l e R s m args below meth c H1 locs1 (cells + rm.cells) (slots + rm.slots) Q (F0 m (pc + 3) ls (v.toList ++ rest))) : W p l e R s m args below meth c H locs cells slots Q (F0 m pc ls st0) := z_ivV (C := "BoxDeskModel") cx tw_779 tw_2 tw_776 tw_778 ts_19 (by decide +kernel) (hZ.recv cx.K rfl he) hM hR hf hn hsz hst h8 hdg hZ hS kk
theorem iv_R_154 {rm : Room} {As st0 : List Value} {post : Option Value → zw → Prop} (cx : Cx G n0 e0 p s m args meth c cc nL "BoxDeskModel" ret) (hM : Ct l G n0 e0 y_R_make b_R_make 5 (Option.none : Option FieldType) rm (.ref a :: As) w post) (he : w a = some (.inr (6, fs))) (hR : rm.frames + 1 ≤ R.frames ∧ 8 + (5 + 11) + rm.locals ≤ R.locals) (hf : cells + rm.cells ≤ R.cells ∧ slots + rm.slots ≤ R.slots) (hn : As.length = 2) (hsz : ls.size = nL) (hst : st0 = As.reverse ++ .ref a :: rest) (h8 : (rest.map fun v => v.category).sum ≤ 8) (hdg : decode cc pc = .ok (.invokevirtual 154, 3)) (hZ : Zw G.1 vwC (zA n0) w H) (hS : va_S (zA n0) s.heap H locs) (kk : ∀ (v : Option Value) (w1 : zw) (H1 : Heap) (locs1 : List Loc), post v w1 → Zw G.1 vwC (zA n0) w1 H1 → va_S (zA n0) s.heap H1 locs1 → W p l e R s m args below meth c H1 locs1 (cells + rm.cells) (slots + rm.slots) Q (F0 m (pc + 3) ls (v.toList ++ rest))) : W p l e R s m args below meth c H locs cells slots Q (F0 m pc ls st0) := z_ivV (C := "BoxDeskModel") cx tw_791 tw_2 tw_788 tw_790 ts_22 (by decide +kernel) (hZ.recv cx.K rfl he) hM hR hf hn hsz hst h8 hdg hZ hS kk
theorem iv_R_157 {rm : Room} {As st0 : List Value} {post : Option Value → zw → Prop} (cx : Cx G n0 e0 p s m args meth c cc nL "BoxDeskModel" ret) (hM : Ct l G n0 e0 y_R_isFull b_R_isFull 2 (Option.some FieldType.boolean) rm (.ref a :: As) w post) (he : w a = some (.inr (6, fs))) (hR : rm.frames + 1 ≤ R.frames ∧ 8 + (2 + 11) + rm.locals ≤ R.locals) (hf : cells + rm.cells ≤ R.cells ∧ slots + rm.slots ≤ R.slots) (hn : As.length = 1) (hsz : ls.size = nL) (hst : st0 = As.reverse ++ .ref a :: rest) (h8 : (rest.map fun v => v.category).sum ≤ 8) (hdg : decode cc pc = .ok (.invokevirtual 157, 3)) (hZ : Zw G.1 vwC (zA n0) w H) (hS : va_S (zA n0) s.heap H locs) (kk : ∀ (v : Option Value) (w1 : zw) (H1 : Heap) (locs1 : List Loc), post v w1 → Zw G.1 vwC (zA n0) w1 H1 → va_S (zA n0) s.heap H1 locs1 → W p l e R s m args below meth c H1 locs1 (cells + rm.cells) (slots + rm.slots) Q (F0 m (pc + 3) ls (v.toList ++ rest))) : W p l e R s m args below meth c H locs cells slots Q (F0 m pc ls st0) := z_ivV (C := "BoxDeskModel") cx tw_799 tw_2 tw_796 tw_798 ts_23 (by decide +kernel) (hZ.recv cx.K rfl he) hM hR hf hn hsz hst h8 hdg hZ hS kk
theorem iv_R_160 {rm : Room} {As st0 : List Value} {post : Option Value → zw → Prop} (cx : Cx G n0 e0 p s m args meth c cc nL "BoxDeskModel" ret) (hM : Ct l G n0 e0 y_R_items b_R_items 4 (Option.some FieldType.int) rm (.ref a :: As) w post) (he : w a = some (.inr (6, fs))) (hR : rm.frames + 1 ≤ R.frames ∧ 8 + (4 + 11) + rm.locals ≤ R.locals) (hf : cells + rm.cells ≤ R.cells ∧ slots + rm.slots ≤ R.slots) (hn : As.length = 1) (hsz : ls.size = nL) (hst : st0 = As.reverse ++ .ref a :: rest) (h8 : (rest.map fun v => v.category).sum ≤ 8) (hdg : decode cc pc = .ok (.invokevirtual 160, 3)) (hZ : Zw G.1 vwC (zA n0) w H) (hS : va_S (zA n0) s.heap H locs) (kk : ∀ (v : Option Value) (w1 : zw) (H1 : Heap) (locs1 : List Loc), post v w1 → Zw G.1 vwC (zA n0) w1 H1 → va_S (zA n0) s.heap H1 locs1 → W p l e R s m args below meth c H1 locs1 (cells + rm.cells) (slots + rm.slots) Q (F0 m (pc + 3) ls (v.toList ++ rest))) : W p l e R s m args below meth c H locs cells slots Q (F0 m pc ls st0) := z_ivV (C := "BoxDeskModel") cx tw_815 tw_2 tw_812 tw_814 ts_24 (by decide +kernel) (hZ.recv cx.K rfl he) hM hR hf hn hsz hst h8 hdg hZ hS kk
theorem lc_R_163 (cx : Cx G n0 e0 p s m args meth c cc nL "BoxDeskModel" ret) (hdg : decode cc pc = .ok (.ldc2_w 163, 3)) (kk : W p l e R s m args below meth c H locs cells slots Q (F0 m (pc + 3) ls (.long (2147483647) :: rest))) : W p l e R s m args below meth c H locs cells slots Q (F0 m pc ls rest) := lv_ldc2 cx.1 cx.2.1 cx.ow (cx.tb _ tw_820) hdg kk
theorem lc_R_165 (cx : Cx G n0 e0 p s m args meth c cc nL "BoxDeskModel" ret) (hdg : decode cc pc = .ok (.ldc2_w 165, 3)) (kk : W p l e R s m args below meth c H locs cells slots Q (F0 m (pc + 3) ls (.long (-2147483647) :: rest))) : W p l e R s m args below meth c H locs cells slots Q (F0 m pc ls rest) := lv_ldc2 cx.1 cx.2.1 cx.ow (cx.tb _ tw_821) hdg kk
theorem oi_Ac_1 (cx : Cx G n0 e0 p s m args meth c cc nL "java/util/AbstractCollection" ret) (hl : ls.size = nL) (hdg : decode cc pc = .ok (.invokespecial 1, 3)) (hf : 1 ≤ R.frames) (hlo : 2 * (F0 m pc ls (.ref a :: rest)).monitorRoom + (rest.map fun v => v.category).sum + 12 ≤ R.locals) (kk : W p l e R s m args below meth c H locs cells slots Q (F0 m (pc + 3) ls rest)) : W p l e R s m args below meth c H locs cells slots Q (F0 m pc ls (.ref a :: rest)) := W.objInit cx.1 cx.2.1 cx.ow (cx.tb _ tw_68) (cx.tb _ tw_29) (cx.tb _ tw_30) rfl (by rw [cx.ml]; exact hl) rfl hdg hf hlo kk
theorem ip_Al_1 {rm : Room} {As st0 : List Value} {post : Option Value → zw → Prop} (cx : Cx G n0 e0 p s m args meth c cc nL "java/util/AbstractList" ret) (hM : Ct l G n0 e0 y_Ac_init b_Ac_init 1 none rm (.ref a :: As) w post) (hR : rm.frames + 1 ≤ R.frames ∧ 8 + (1 + 11) + rm.locals ≤ R.locals) (hf : cells + rm.cells ≤ R.cells ∧ slots + rm.slots ≤ R.slots) (hn : As.length = 0) (hsz : ls.size = nL) (hst : st0 = As.reverse ++ .ref a :: rest) (h8 : (rest.map fun v => v.category).sum ≤ 8) (hdg : decode cc pc = .ok (.invokespecial 1, 3)) (hZ : Zw G.1 vwC (zA n0) w H) (hS : va_S (zA n0) s.heap H locs) (kk : ∀ (v : Option Value) (w1 : zw) (H1 : Heap) (locs1 : List Loc), post v w1 → Zw G.1 vwC (zA n0) w1 H1 → va_S (zA n0) s.heap H1 locs1 → W p l e R s m args below meth c H1 locs1 (cells + rm.cells) (slots + rm.slots) Q (F0 m (pc + 3) ls (v.toList ++ rest))) : W p l e R s m args below meth c H locs cells slots Q (F0 m pc ls st0) := z_ivI cx tw_67 tw_4 tw_65 tw_66 rfl (by decide +kernel) hM hR hf hn hsz hst h8 hdg hZ hS kk
theorem pf_Al_7 {x : Int32} (cx : Cx G n0 e0 p s m args meth c cc nL "java/util/AbstractList" ret) (hZ : Zw G.1 vwC (zA n0) w H) (hS : va_S (zA n0) s.heap H locs) (he : w a = some (.inr (0, fs))) (hl : 0 < fs.length) (hdg : decode cc pc = .ok (.putfield 7, 3)) (kk : ∀ (w1 : zw) (H1 : Heap) (locs1 : List Loc), w1 = va_up w a (some (.inr (0, fs.set 0 (.int x)))) → Zw G.1 vwC (zA n0) w1 H1 → va_S (zA n0) s.heap H1 locs1 → W p l e R s m args below meth c H1 locs1 cells slots Q (F0 m (pc + 3) ls rest)) : W p l e R s m args below meth c H locs cells slots Q (F0 m pc ls (.int x :: .ref a :: rest)) := z_put (T := T_A) cx.1 cx.2.1 cx.tb in_A ty_A ty_A_ok nm_A cx.ow cx.K hZ hS he rfl 0 (by decide) (cx.tb _ tw_73) (fun _ h => h) rfl (ty_A_ok 0 (by decide)) rfl rfl hl hdg (fun H1 locs1 z1 s1 => kk _ H1 locs1 rfl z1 s1)
theorem ip_A_1 {rm : Room} {As st0 : List Value} {post : Option Value → zw → Prop} (cx : Cx G n0 e0 p s m args meth c cc nL "java/util/ArrayList" ret) (hM : Ct l G n0 e0 y_Al_init b_Al_init 1 none rm (.ref a :: As) w post) (hR : rm.frames + 1 ≤ R.frames ∧ 8 + (1 + 11) + rm.locals ≤ R.locals) (hf : cells + rm.cells ≤ R.cells ∧ slots + rm.slots ≤ R.slots) (hn : As.length = 0) (hsz : ls.size = nL) (hst : st0 = As.reverse ++ .ref a :: rest) (h8 : (rest.map fun v => v.category).sum ≤ 8) (hdg : decode cc pc = .ok (.invokespecial 1, 3)) (hZ : Zw G.1 vwC (zA n0) w H) (hS : va_S (zA n0) s.heap H locs) (kk : ∀ (v : Option Value) (w1 : zw) (H1 : Heap) (locs1 : List Loc), post v w1 → Zw G.1 vwC (zA n0) w1 H1 → va_S (zA n0) s.heap H1 locs1 → W p l e R s m args below meth c H1 locs1 (cells + rm.cells) (slots + rm.slots) Q (F0 m (pc + 3) ls (v.toList ++ rest))) : W p l e R s m args below meth c H locs cells slots Q (F0 m pc ls st0) := z_ivI cx tw_64 tw_5 tw_62 tw_63 rfl (by decide +kernel) hM hR hf hn hsz hst h8 hdg hZ hS kk
theorem nq_A_7 (cx : Cx G n0 e0 p s m args meth c cc nL "java/util/ArrayList" ret) (hZ : Zw G.1 vwC (zA n0) w H) (hS : va_S (zA n0) s.heap H locs) {n : Int32} {N : Nat} (hn : ¬ n < 0) (hN : n.toNatClampNeg = N) (hb : N * 4 ≤ 536870912) (hc : cells + 1 ≤ R.cells) (hs : slots + N ≤ R.slots) (hdg : decode cc pc = .ok (.anewarray 7, 3)) (kk : ∀ (q : Nat) (w1 : zw) (H1 : Heap), w q = none → w1 = va_up w q (some (.inl (G.2 3, N, .inr (.inr (.inr (.inr (fun _ => none))))))) → Zw G.1 vwC (zA n0) w1 H1 → va_S (zA n0) s.heap H1 locs → W p l e R s m args below meth c H1 locs (cells + 1) (slots + N) Q (F0 m (pc + 3) ls (.ref q :: rest))) : W p l e R s m args below meth c H locs cells slots Q (F0 m pc ls (.int n :: rest)) := z_newq cx.1 cx.2.1 cx.ow (cx.tb _ tw_227) (cx.nw _ nw_218) cx.K hZ hS cx.hA 3 rfl hn hN hb hc hs hdg (fun q H1 f1 z1 s1 => kk q _ H1 f1 rfl z1 s1)
theorem gf_A_9 (cx : Cx G n0 e0 p s m args meth c cc nL "java/util/ArrayList" ret) (hZ : Zw G.1 vwC (zA n0) w H) (he : w a = some (.inr (0, fs))) (hv : fs[1]? = some v) (hdg : decode cc pc = .ok (.getfield 9, 3)) (kk : W p l e R s m args below meth c H locs cells slots Q (F0 m (pc + 3) ls (v :: rest))) : W p l e R s m args below meth c H locs cells slots Q (F0 m pc ls (.ref a :: rest)) := z_get (T := T_A) cx.1 cx.2.1 cx.tb in_A cx.ow cx.K hZ he rfl 1 (by decide) (cx.tb _ tw_71) (fun _ h => h) hv hdg kk
theorem pf_A_9 {x : Nat} (cx : Cx G n0 e0 p s m args meth c cc nL "java/util/ArrayList" ret) (hZ : Zw G.1 vwC (zA n0) w H) (hS : va_S (zA n0) s.heap H locs) (he : w a = some (.inr (0, fs))) (hl : 1 < fs.length) (hdg : decode cc pc = .ok (.putfield 9, 3)) (kk : ∀ (w1 : zw) (H1 : Heap) (locs1 : List Loc), w1 = va_up w a (some (.inr (0, fs.set 1 (.ref x)))) → Zw G.1 vwC (zA n0) w1 H1 → va_S (zA n0) s.heap H1 locs1 → W p l e R s m args below meth c H1 locs1 cells slots Q (F0 m (pc + 3) ls rest)) : W p l e R s m args below meth c H locs cells slots Q (F0 m pc ls (.ref x :: .ref a :: rest)) := z_put (T := T_A) cx.1 cx.2.1 cx.tb in_A ty_A ty_A_ok nm_A cx.ow cx.K hZ hS he rfl 1 (by decide) (cx.tb _ tw_71) (fun _ h => h) rfl (ty_A_ok 1 (by decide)) rfl rfl hl hdg (fun H1 locs1 z1 s1 => kk _ H1 locs1 rfl z1 s1)
theorem gs_A_39 (cx : Cx G n0 e0 p s m args meth c cc nL "java/util/ArrayList" ret) (hS : va_S (zA n0) s.heap H locs) (hdg : decode cc pc = .ok (.getstatic 39, 3)) (kk : W p l e R s m args below meth c H locs cells slots Q (F0 m (pc + 3) ls (.ref e0 :: rest))) : W p l e R s m args below meth c H locs cells slots Q (F0 m pc ls rest) := va_gets cx.1 cx.2.1 cx.X.2.1 hS cx.ow (cx.tb _ tw_69) (fun _ h => h) hdg kk
theorem gf_A_48 (cx : Cx G n0 e0 p s m args meth c cc nL "java/util/ArrayList" ret) (hZ : Zw G.1 vwC (zA n0) w H) (he : w a = some (.inr (0, fs))) (hv : fs[2]? = some v) (hdg : decode cc pc = .ok (.getfield 48, 3)) (kk : W p l e R s m args below meth c H locs cells slots Q (F0 m (pc + 3) ls (v :: rest))) : W p l e R s m args below meth c H locs cells slots Q (F0 m pc ls (.ref a :: rest)) := z_get (T := T_A) cx.1 cx.2.1 cx.tb in_A cx.ow cx.K hZ he rfl 2 (by decide) (cx.tb _ tw_72) (fun _ h => h) hv hdg kk
theorem pf_A_48 {x : Int32} (cx : Cx G n0 e0 p s m args meth c cc nL "java/util/ArrayList" ret) (hZ : Zw G.1 vwC (zA n0) w H) (hS : va_S (zA n0) s.heap H locs) (he : w a = some (.inr (0, fs))) (hl : 2 < fs.length) (hdg : decode cc pc = .ok (.putfield 48, 3)) (kk : ∀ (w1 : zw) (H1 : Heap) (locs1 : List Loc), w1 = va_up w a (some (.inr (0, fs.set 2 (.int x)))) → Zw G.1 vwC (zA n0) w1 H1 → va_S (zA n0) s.heap H1 locs1 → W p l e R s m args below meth c H1 locs1 cells slots Q (F0 m (pc + 3) ls rest)) : W p l e R s m args below meth c H locs cells slots Q (F0 m pc ls (.int x :: .ref a :: rest)) := z_put (T := T_A) cx.1 cx.2.1 cx.tb in_A ty_A ty_A_ok nm_A cx.ow cx.K hZ hS he rfl 2 (by decide) (cx.tb _ tw_72) (fun _ h => h) rfl (ty_A_ok 2 (by decide)) rfl rfl hl hdg (fun H1 locs1 z1 s1 => kk _ H1 locs1 rfl z1 s1)
theorem gf_A_63 (cx : Cx G n0 e0 p s m args meth c cc nL "java/util/ArrayList" ret) (hZ : Zw G.1 vwC (zA n0) w H) (he : w a = some (.inr (0, fs))) (hv : fs[0]? = some v) (hdg : decode cc pc = .ok (.getfield 63, 3)) (kk : W p l e R s m args below meth c H locs cells slots Q (F0 m (pc + 3) ls (v :: rest))) : W p l e R s m args below meth c H locs cells slots Q (F0 m pc ls (.ref a :: rest)) := z_get (T := T_A) cx.1 cx.2.1 cx.tb in_A cx.ow cx.K hZ he rfl 0 (by decide) (cx.tb _ tw_74) (fun x9 h9 => u_same (cx.tb _ tw_75) x9 h9) hv hdg kk
theorem pf_A_63 {x : Int32} (cx : Cx G n0 e0 p s m args meth c cc nL "java/util/ArrayList" ret) (hZ : Zw G.1 vwC (zA n0) w H) (hS : va_S (zA n0) s.heap H locs) (he : w a = some (.inr (0, fs))) (hl : 0 < fs.length) (hdg : decode cc pc = .ok (.putfield 63, 3)) (kk : ∀ (w1 : zw) (H1 : Heap) (locs1 : List Loc), w1 = va_up w a (some (.inr (0, fs.set 0 (.int x)))) → Zw G.1 vwC (zA n0) w1 H1 → va_S (zA n0) s.heap H1 locs1 → W p l e R s m args below meth c H1 locs1 cells slots Q (F0 m (pc + 3) ls rest)) : W p l e R s m args below meth c H locs cells slots Q (F0 m pc ls (.int x :: .ref a :: rest)) := z_put (T := T_A) cx.1 cx.2.1 cx.tb in_A ty_A ty_A_ok nm_A cx.ow cx.K hZ hS he rfl 0 (by decide) (cx.tb _ tw_74) (fun x9 h9 => u_same (cx.tb _ tw_75) x9 h9) rfl (ty_A_ok 0 (by decide)) rfl rfl hl hdg (fun H1 locs1 z1 s1 => kk _ H1 locs1 rfl z1 s1)
theorem is_A_66 {rm : Room} {As st0 : List Value} {post : Option Value → zw → Prop} (cx : Cx G n0 e0 p s m args meth c cc nL "java/util/ArrayList" ret) (hM : Ct l G n0 e0 y_Ar_copyOf_aOI b_Ar_copyOf_aOI 2 (Option.some (FieldType.array (FieldType.object "java/lang/Object"))) rm As w post) (hR : rm.frames + 1 ≤ R.frames ∧ 8 + (2 + 11) + rm.locals ≤ R.locals) (hf : cells + rm.cells ≤ R.cells ∧ slots + rm.slots ≤ R.slots) (hn : As.length = 2) (hsz : ls.size = nL) (hst : st0 = As.reverse ++ rest) (h8 : (rest.map fun v => v.category).sum ≤ 8) (hdg : decode cc pc = .ok (.invokestatic 66, 3)) (hZ : Zw G.1 vwC (zA n0) w H) (hS : va_S (zA n0) s.heap H locs) (kk : ∀ (v : Option Value) (w1 : zw) (H1 : Heap) (locs1 : List Loc), post v w1 → Zw G.1 vwC (zA n0) w1 H1 → va_S (zA n0) s.heap H1 locs1 → W p l e R s m args below meth c H1 locs1 (cells + rm.cells) (slots + rm.slots) Q (F0 m (pc + 3) ls (v.toList ++ rest))) : W p l e R s m args below meth c H locs cells slots Q (F0 m pc ls st0) := z_ivS cx tw_198 tw_10 tw_196 tw_197 (by decide +kernel) hM hR hf hn hsz hst h8 hdg hZ hS kk
theorem iv_A_69 {rm : Room} {As st0 : List Value} {post : Option Value → zw → Prop} (cx : Cx G n0 e0 p s m args meth c cc nL "java/util/ArrayList" ret) (hM : Ct l G n0 e0 y_A_grow_I b_A_grow_I 4 (Option.some (FieldType.array (FieldType.object "java/lang/Object"))) rm (.ref a :: As) w post) (he : w a = some (.inr (0, fs))) (hR : rm.frames + 1 ≤ R.frames ∧ 8 + (4 + 11) + rm.locals ≤ R.locals) (hf : cells + rm.cells ≤ R.cells ∧ slots + rm.slots ≤ R.slots) (hn : As.length = 1) (hsz : ls.size = nL) (hst : st0 = As.reverse ++ .ref a :: rest) (h8 : (rest.map fun v => v.category).sum ≤ 8) (hdg : decode cc pc = .ok (.invokevirtual 69, 3)) (hZ : Zw G.1 vwC (zA n0) w H) (hS : va_S (zA n0) s.heap H locs) (kk : ∀ (v : Option Value) (w1 : zw) (H1 : Heap) (locs1 : List Loc), post v w1 → Zw G.1 vwC (zA n0) w1 H1 → va_S (zA n0) s.heap H1 locs1 → W p l e R s m args below meth c H1 locs1 (cells + rm.cells) (slots + rm.slots) Q (F0 m (pc + 3) ls (v.toList ++ rest))) : W p l e R s m args below meth c H locs cells slots Q (F0 m pc ls st0) := z_ivV (C := "java/util/ArrayList") cx tw_185 tw_6 tw_182 tw_184 ts_4 (by decide +kernel) (hZ.recv cx.K rfl he) hM hR hf hn hsz hst h8 hdg hZ hS kk
theorem is_A_73 {rm : Room} {As st0 : List Value} {post : Option Value → zw → Prop} (cx : Cx G n0 e0 p s m args meth c cc nL "java/util/ArrayList" ret) (hM : Ct l G n0 e0 y_As_newLength b_As_newLength 4 (Option.some FieldType.int) rm As w post) (hR : rm.frames + 1 ≤ R.frames ∧ 8 + (4 + 11) + rm.locals ≤ R.locals) (hf : cells + rm.cells ≤ R.cells ∧ slots + rm.slots ≤ R.slots) (hn : As.length = 3) (hsz : ls.size = nL) (hst : st0 = As.reverse ++ rest) (h8 : (rest.map fun v => v.category).sum ≤ 8) (hdg : decode cc pc = .ok (.invokestatic 73, 3)) (hZ : Zw G.1 vwC (zA n0) w H) (hS : va_S (zA n0) s.heap H locs) (kk : ∀ (v : Option Value) (w1 : zw) (H1 : Heap) (locs1 : List Loc), post v w1 → Zw G.1 vwC (zA n0) w1 H1 → va_S (zA n0) s.heap H1 locs1 → W p l e R s m args below meth c H1 locs1 (cells + rm.cells) (slots + rm.slots) Q (F0 m (pc + 3) ls (v.toList ++ rest))) : W p l e R s m args below meth c H locs cells slots Q (F0 m pc ls st0) := z_ivS cx tw_188 tw_8 tw_186 tw_187 (by decide +kernel) hM hR hf hn hsz hst h8 hdg hZ hS kk
theorem mm_A_79 {x y : Int32} (cx : Cx G n0 e0 p s m args meth c cc nL "java/util/ArrayList" ret) (hsz : ls.size = nL) (hdg : decode cc pc = .ok (.invokestatic 79, 3)) (hf : 1 ≤ R.frames) (hlo : (rest.map fun v => v.category).sum + 13 ≤ R.locals) (hc : cells ≤ R.cells) (hs : slots ≤ R.slots) (kk : W p l e R s m args below meth c H locs cells slots Q (F0 m (pc + 3) ls (.int (if x < y then y else x) :: rest))) : W p l e R s m args below meth c H locs cells slots Q (F0 m pc ls (.int y :: .int x :: rest)) := va_mmax cx.1 cx.2.1 (by rw [cx.ml, hsz]) cx.ow (cx.tb _ tw_226) (cx.tb _ tw_190) (cx.tb _ tw_9) (cx.tb _ tw_191) hf hlo hc hs hdg kk
theorem is_A_118 {rm : Room} {As st0 : List Value} {post : Option Value → zw → Prop} (cx : Cx G n0 e0 p s m args meth c cc nL "java/util/ArrayList" ret) (hM : Ct l G n0 e0 y_Ob_checkIndex b_Ob_checkIndex 2 (Option.some FieldType.int) rm As w post) (hR : rm.frames + 1 ≤ R.frames ∧ 8 + (2 + 11) + rm.locals ≤ R.locals) (hf : cells + rm.cells ≤ R.cells ∧ slots + rm.slots ≤ R.slots) (hn : As.length = 2) (hsz : ls.size = nL) (hst : st0 = As.reverse ++ rest) (h8 : (rest.map fun v => v.category).sum ≤ 8) (hdg : decode cc pc = .ok (.invokestatic 118, 3)) (hZ : Zw G.1 vwC (zA n0) w H) (hS : va_S (zA n0) s.heap H locs) (kk : ∀ (v : Option Value) (w1 : zw) (H1 : Heap) (locs1 : List Loc), post v w1 → Zw G.1 vwC (zA n0) w1 H1 → va_S (zA n0) s.heap H1 locs1 → W p l e R s m args below meth c H1 locs1 (cells + rm.cells) (slots + rm.slots) Q (F0 m (pc + 3) ls (v.toList ++ rest))) : W p l e R s m args below meth c H locs cells slots Q (F0 m pc ls st0) := z_ivS cx tw_286 tw_18 tw_284 tw_285 (by decide +kernel) hM hR hf hn hsz hst h8 hdg hZ hS kk
theorem iv_A_123 {rm : Room} {As st0 : List Value} {post : Option Value → zw → Prop} (cx : Cx G n0 e0 p s m args meth c cc nL "java/util/ArrayList" ret) (hM : Ct l G n0 e0 y_A_elementData b_A_elementData 2 (Option.some (FieldType.object "java/lang/Object")) rm (.ref a :: As) w post) (he : w a = some (.inr (0, fs))) (hR : rm.frames + 1 ≤ R.frames ∧ 8 + (2 + 11) + rm.locals ≤ R.locals) (hf : cells + rm.cells ≤ R.cells ∧ slots + rm.slots ≤ R.slots) (hn : As.length = 1) (hsz : ls.size = nL) (hst : st0 = As.reverse ++ .ref a :: rest) (h8 : (rest.map fun v => v.category).sum ≤ 8) (hdg : decode cc pc = .ok (.invokevirtual 123, 3)) (hZ : Zw G.1 vwC (zA n0) w H) (hS : va_S (zA n0) s.heap H locs) (kk : ∀ (v : Option Value) (w1 : zw) (H1 : Heap) (locs1 : List Loc), post v w1 → Zw G.1 vwC (zA n0) w1 H1 → va_S (zA n0) s.heap H1 locs1 → W p l e R s m args below meth c H1 locs1 (cells + rm.cells) (slots + rm.slots) Q (F0 m (pc + 3) ls (v.toList ++ rest))) : W p l e R s m args below meth c H locs cells slots Q (F0 m pc ls st0) := z_ivV (C := "java/util/ArrayList") cx tw_293 tw_6 tw_290 tw_291 tw_292 (by decide +kernel) (hZ.recv cx.K rfl he) hM hR hf hn hsz hst h8 hdg hZ hS kk
theorem iv_A_129 {rm : Room} {As st0 : List Value} {post : Option Value → zw → Prop} (cx : Cx G n0 e0 p s m args meth c cc nL "java/util/ArrayList" ret) (hM : Ct l G n0 e0 y_A_grow_0 b_A_grow_0 1 (Option.some (FieldType.array (FieldType.object "java/lang/Object"))) rm (.ref a :: As) w post) (he : w a = some (.inr (0, fs))) (hR : rm.frames + 1 ≤ R.frames ∧ 8 + (1 + 11) + rm.locals ≤ R.locals) (hf : cells + rm.cells ≤ R.cells ∧ slots + rm.slots ≤ R.slots) (hn : As.length = 0) (hsz : ls.size = nL) (hst : st0 = As.reverse ++ .ref a :: rest) (h8 : (rest.map fun v => v.category).sum ≤ 8) (hdg : decode cc pc = .ok (.invokevirtual 129, 3)) (hZ : Zw G.1 vwC (zA n0) w H) (hS : va_S (zA n0) s.heap H locs) (kk : ∀ (v : Option Value) (w1 : zw) (H1 : Heap) (locs1 : List Loc), post v w1 → Zw G.1 vwC (zA n0) w1 H1 → va_S (zA n0) s.heap H1 locs1 → W p l e R s m args below meth c H1 locs1 (cells + rm.cells) (slots + rm.slots) Q (F0 m (pc + 3) ls (v.toList ++ rest))) : W p l e R s m args below meth c H locs cells slots Q (F0 m pc ls st0) := z_ivV (C := "java/util/ArrayList") cx tw_181 tw_6 tw_178 tw_180 ts_3 (by decide +kernel) (hZ.recv cx.K rfl he) hM hR hf hn hsz hst h8 hdg hZ hS kk
theorem iv_A_131 {rm : Room} {As st0 : List Value} {post : Option Value → zw → Prop} (cx : Cx G n0 e0 p s m args meth c cc nL "java/util/ArrayList" ret) (hM : Ct l G n0 e0 y_A_add_OaOI b_A_add_OaOI 4 (Option.none : Option FieldType) rm (.ref a :: As) w post) (he : w a = some (.inr (0, fs))) (hR : rm.frames + 1 ≤ R.frames ∧ 8 + (4 + 11) + rm.locals ≤ R.locals) (hf : cells + rm.cells ≤ R.cells ∧ slots + rm.slots ≤ R.slots) (hn : As.length = 3) (hsz : ls.size = nL) (hst : st0 = As.reverse ++ .ref a :: rest) (h8 : (rest.map fun v => v.category).sum ≤ 8) (hdg : decode cc pc = .ok (.invokevirtual 131, 3)) (hZ : Zw G.1 vwC (zA n0) w H) (hS : va_S (zA n0) s.heap H locs) (kk : ∀ (v : Option Value) (w1 : zw) (H1 : Heap) (locs1 : List Loc), post v w1 → Zw G.1 vwC (zA n0) w1 H1 → va_S (zA n0) s.heap H1 locs1 → W p l e R s m args below meth c H1 locs1 (cells + rm.cells) (slots + rm.slots) Q (F0 m (pc + 3) ls (v.toList ++ rest))) : W p l e R s m args below meth c H locs cells slots Q (F0 m pc ls st0) := z_ivV (C := "java/util/ArrayList") cx tw_177 tw_6 tw_174 tw_176 ts_2 (by decide +kernel) (hZ.recv cx.K rfl he) hM hR hf hn hsz hst h8 hdg hZ hS kk
theorem nq_Ar_2 (cx : Cx G n0 e0 p s m args meth c cc nL "java/util/Arrays" ret) (hZ : Zw G.1 vwC (zA n0) w H) (hS : va_S (zA n0) s.heap H locs) {n : Int32} {N : Nat} (hn : ¬ n < 0) (hN : n.toNatClampNeg = N) (hb : N * 4 ≤ 536870912) (hc : cells + 1 ≤ R.cells) (hs : slots + N ≤ R.slots) (hdg : decode cc pc = .ok (.anewarray 2, 3)) (kk : ∀ (q : Nat) (w1 : zw) (H1 : Heap), w q = none → w1 = va_up w q (some (.inl (G.2 3, N, .inr (.inr (.inr (.inr (fun _ => none))))))) → Zw G.1 vwC (zA n0) w1 H1 → va_S (zA n0) s.heap H1 locs → W p l e R s m args below meth c H1 locs (cells + 1) (slots + N) Q (F0 m (pc + 3) ls (.ref q :: rest))) : W p l e R s m args below meth c H locs cells slots Q (F0 m pc ls (.int n :: rest)) := z_newq cx.1 cx.2.1 cx.ow (cx.tb _ tw_219) (cx.nw _ nw_218) cx.K hZ hS cx.hA 3 rfl hn hN hb hc hs hdg (fun q H1 f1 z1 s1 => kk q _ H1 f1 rfl z1 s1)
theorem is_Ar_300 {rm : Room} {As st0 : List Value} {post : Option Value → zw → Prop} (cx : Cx G n0 e0 p s m args meth c cc nL "java/util/Arrays" ret) (hM : Ct l G n0 e0 y_Ar_copyOf_aOIC b_Ar_copyOf_aOIC 4 (Option.some (FieldType.array (FieldType.object "java/lang/Object"))) rm As w post) (hR : rm.frames + 1 ≤ R.frames ∧ 8 + (4 + 11) + rm.locals ≤ R.locals) (hf : cells + rm.cells ≤ R.cells ∧ slots + rm.slots ≤ R.slots) (hn : As.length = 3) (hsz : ls.size = nL) (hst : st0 = As.reverse ++ rest) (h8 : (rest.map fun v => v.category).sum ≤ 8) (hdg : decode cc pc = .ok (.invokestatic 300, 3)) (hZ : Zw G.1 vwC (zA n0) w H) (hS : va_S (zA n0) s.heap H locs) (kk : ∀ (v : Option Value) (w1 : zw) (H1 : Heap) (locs1 : List Loc), post v w1 → Zw G.1 vwC (zA n0) w1 H1 → va_S (zA n0) s.heap H1 locs1 → W p l e R s m args below meth c H1 locs1 (cells + rm.cells) (slots + rm.slots) Q (F0 m (pc + 3) ls (v.toList ++ rest))) : W p l e R s m args below meth c H locs cells slots Q (F0 m pc ls st0) := z_ivS cx tw_216 tw_10 tw_214 tw_215 (by decide +kernel) hM hR hf hn hsz hst h8 hdg hZ hS kk
theorem mm_Ar_304 {x y : Int32} (cx : Cx G n0 e0 p s m args meth c cc nL "java/util/Arrays" ret) (hsz : ls.size = nL) (hdg : decode cc pc = .ok (.invokestatic 304, 3)) (hf : 1 ≤ R.frames) (hlo : (rest.map fun v => v.category).sum + 13 ≤ R.locals) (hc : cells ≤ R.cells) (hs : slots ≤ R.slots) (kk : W p l e R s m args below meth c H locs cells slots Q (F0 m (pc + 3) ls (.int (if y < x then y else x) :: rest))) : W p l e R s m args below meth c H locs cells slots Q (F0 m pc ls (.int y :: .int x :: rest)) := va_mmin cx.1 cx.2.1 (by rw [cx.ml, hsz]) cx.ow (cx.tb _ tw_220) (cx.tb _ tw_221) (cx.tb _ tw_9) (cx.tb _ tw_222) hf hlo hc hs hdg kk
theorem is_Ob_105 {rm : Room} {As st0 : List Value} {post : Option Value → zw → Prop} (cx : Cx G n0 e0 p s m args meth c cc nL "java/util/Objects" ret) (hM : Ct l G n0 e0 y_Pr_checkIndex b_Pr_checkIndex 3 (Option.some FieldType.int) rm As w post) (hR : rm.frames + 1 ≤ R.frames ∧ 8 + (3 + 11) + rm.locals ≤ R.locals) (hf : cells + rm.cells ≤ R.cells ∧ slots + rm.slots ≤ R.slots) (hn : As.length = 3) (hsz : ls.size = nL) (hst : st0 = As.reverse ++ rest) (h8 : (rest.map fun v => v.category).sum ≤ 8) (hdg : decode cc pc = .ok (.invokestatic 105, 3)) (hZ : Zw G.1 vwC (zA n0) w H) (hS : va_S (zA n0) s.heap H locs) (kk : ∀ (v : Option Value) (w1 : zw) (H1 : Heap) (locs1 : List Loc), post v w1 → Zw G.1 vwC (zA n0) w1 H1 → va_S (zA n0) s.heap H1 locs1 → W p l e R s m args below meth c H1 locs1 (cells + rm.cells) (slots + rm.slots) Q (F0 m (pc + 3) ls (v.toList ++ rest))) : W p l e R s m args below meth c H locs cells slots Q (F0 m pc ls st0) := z_ivS cx tw_289 tw_19 tw_287 tw_288 (by decide +kernel) hM hR hf hn hsz hst h8 hdg hZ hS kk
theorem mm_As_194 {x y : Int32} (cx : Cx G n0 e0 p s m args meth c cc nL "jdk/internal/util/ArraysSupport" ret) (hsz : ls.size = nL) (hdg : decode cc pc = .ok (.invokestatic 194, 3)) (hf : 1 ≤ R.frames) (hlo : (rest.map fun v => v.category).sum + 13 ≤ R.locals) (hc : cells ≤ R.cells) (hs : slots ≤ R.slots) (kk : W p l e R s m args below meth c H locs cells slots Q (F0 m (pc + 3) ls (.int (if x < y then y else x) :: rest))) : W p l e R s m args below meth c H locs cells slots Q (F0 m pc ls (.int y :: .int x :: rest)) := va_mmax cx.1 cx.2.1 (by rw [cx.ml, hsz]) cx.ow (cx.tb _ tw_189) (cx.tb _ tw_190) (cx.tb _ tw_9) (cx.tb _ tw_191) hf hlo hc hs hdg kk
theorem lc_As_200 (cx : Cx G n0 e0 p s m args meth c cc nL "jdk/internal/util/ArraysSupport" ret) (hdg : decode cc pc = .ok (.ldc 200, 2)) (kk : W p l e R s m args below meth c H locs cells slots Q (F0 m (pc + 2) ls (.int (2147483639) :: rest))) : W p l e R s m args below meth c H locs cells slots Q (F0 m pc ls rest) := lv_ldc cx.1 cx.2.1 cx.ow (cx.tb _ tw_192) hdg kk
theorem is_As_201 {rm : Room} {As st0 : List Value} {post : Option Value → zw → Prop} (cx : Cx G n0 e0 p s m args meth c cc nL "jdk/internal/util/ArraysSupport" ret) (hM : Ct l G n0 e0 y_As_hugeLength b_As_hugeLength 3 (Option.some FieldType.int) rm As w post) (hR : rm.frames + 1 ≤ R.frames ∧ 8 + (3 + 11) + rm.locals ≤ R.locals) (hf : cells + rm.cells ≤ R.cells ∧ slots + rm.slots ≤ R.slots) (hn : As.length = 2) (hsz : ls.size = nL) (hst : st0 = As.reverse ++ rest) (h8 : (rest.map fun v => v.category).sum ≤ 8) (hdg : decode cc pc = .ok (.invokestatic 201, 3)) (hZ : Zw G.1 vwC (zA n0) w H) (hS : va_S (zA n0) s.heap H locs) (kk : ∀ (v : Option Value) (w1 : zw) (H1 : Heap) (locs1 : List Loc), post v w1 → Zw G.1 vwC (zA n0) w1 H1 → va_S (zA n0) s.heap H1 locs1 → W p l e R s m args below meth c H1 locs1 (cells + rm.cells) (slots + rm.slots) Q (F0 m (pc + 3) ls (v.toList ++ rest))) : W p l e R s m args below meth c H locs cells slots Q (F0 m pc ls st0) := z_ivS cx tw_195 tw_8 tw_193 tw_194 (by decide +kernel) hM hR hf hn hsz hst h8 hdg hZ hS kk
end ROWS
end
section
theorem z_lret {p : Program} {l : Launch} {e : Env} {R : Room} {s : State} {m : MethodId} {args : Array Value} {below : List Frame} {meth : Method} {c : Code} {H : Heap} {locs : List Loc} {cells slots : Nat} {cc : ByteArray} {pc : Nat} {ls : Array Slot} {D : va_G} {cl : List vw_C} {n0 : Nat} {w : zw} {post : Option Value → zw → Prop} {mc ms : Nat} {v : Int64} (hexec : p.tables.exec = Jvm.exec) (hb : c.code = cc) (hr : meth.sig.returnType = some .long) (hlocks : meth.locks = false) (hS : va_S (zA n0) s.heap H locs) (hZ : Zw D cl (zA n0) w H) (hcs : cells ≤ mc ∧ slots ≤ ms) (hdg : decode cc pc = .ok (.lreturn, 1)) (hp : post (some (.long v)) w) : W p l e R s m args below meth c H locs cells slots (MQ below (zQ D cl n0 post) args s mc ms (zA n0)) (F0 m pc ls [.long v]) :=
  W.widen hcs.1 hcs.2 (W.lret hexec hb hr (z_qc hS hZ hp) hS.2.2 hdg hlocks)
/-- a boolean as an int -/
def zi (b : Bool) : Int32 := if b then 1 else 0
theorem zi_t : zi true = 1 := rfl
theorem zi_f : zi false = 0 := rfl
theorem zi_nar (b : Bool) : narrow .boolean (.int (zi b)) = .int (zi b) := by cases b <;> rfl
theorem zi_fit (b : Bool) : fits .boolean (.int (zi b)) = true := by cases b <;> rfl
theorem zi_0 (b : Bool) : zi b = 0 ↔ b = false := by cases b <;> decide
theorem zi_n0 (b : Bool) : ¬ zi b = 0 ↔ b = true := by cases b <;> decide
/-- a SIZE -/
def szL (v : Int64) : Bool := decide (-1073741823 ≤ v) && decide (v ≤ 1073741823)
theorem szL_lo {x : Int64} (h : x < -1073741823) : szL x = false := by
  simp only [szL, Bool.and_eq_false_iff, decide_eq_false_iff_not]
  exact Or.inl (Int64.not_le.mpr h)
theorem szL_hi {x : Int64} (h : 1073741823 < x) : szL x = false := by
  simp only [szL, Bool.and_eq_false_iff, decide_eq_false_iff_not]
  exact Or.inr (Int64.not_le.mpr h)
theorem szL_in {x : Int64} (h : ¬ x < -1073741823) (h2 : ¬ 1073741823 < x) : szL x = true := by
  simp only [szL, Bool.and_eq_true, decide_eq_true_eq]
  exact ⟨Int64.not_lt.mp h, Int64.not_lt.mp h2⟩
def szI (v : Int32) : Bool := szL v.toInt64
def regB (k : Int32) : Bool := !decide (k < 0) && decide (k < 16)
def wantedL (spec amount : Int32) (n : Int64) : Int64 := if spec = 2 then amount.toInt64 else if spec = 1 then n + amount.toInt64 else n
def setW (v : Int64) : Int32 := (if (if v < 2147483647 then v else 2147483647) < (-2147483647) then (-2147483647) else (if v < 2147483647 then v else 2147483647)).toInt32
/-- the fields of an item -/
abbrev fI (f : Nat → Int32) : List Value := [.int (f 0), .int (f 1), .int (f 2), .int (f 3), .int (f 4), .int (f 5), .int (f 6), .int (f 7), .int (f 8), .int (f 9), .int (f 10), .int (f 11)]
def mkI (k w h d run num str ord shr shf wit nes : Int32) : Nat → Int32 := fun i => match i with
  | 0 => k | 1 => w | 2 => h | 3 => d | 4 => run | 5 => num | 6 => str | 7 => ord | 8 => shr | 9 => shf | 10 => wit | _ => nes
/-- what an item tells -/
def tellI (f : Nat → Int32) (what : Int32) : Int32 := if what = 0 then f 0 else if what = 1 then (if f 4 &&& 1 ≠ 0 then (-2147483648) else if f 0 = 7 then f 5 else f 1) else if what = 2 then (if f 4 &&& 2 ≠ 0 then (-2147483648) else f 2) else if what = 3 then (if f 4 &&& 4 ≠ 0 then (-2147483648) else f 3) else if what = 4 then (if f 0 = 5 then f 6 else f 9) else f 8
set_option maxHeartbeats 4000000 in
set_option maxRecDepth 100000 in
theorem c_isSize (l : Launch) (G : zG) (n0 e0 : Nat) (x : Int64) (w : zw) : Ct l G n0 e0 y_D_isSize b_D_isSize 2 (Option.some FieldType.boolean) ({ frames := 0, cells := 0, slots := 0, locals := 0 }) [.long x] w (fun v w1 => v = some (.int (zi (szL x))) ∧ w1 = w) := by
  refine z_ct (by decide) (Nat.le_of_ble_eq_true rfl) ?_
  intro p e s m below meth c ls cx hnm hZ hS hl
  have hx := cx.1
  have hb := cx.2.1
  have hl : lv_has ls 2 [(0, .long x)] := hl
  refine lv_lload_n hx hb d_D_isSize_0 rfl (lv_at hl 0 rfl) ?_
  refine lc_D_174 cx d_D_isSize_1 ?_
  refine W.lcmp hx hb d_D_isSize_4 ?_
  refine lv_if_lt (tgt := 20) hx hb d_D_isSize_5 (by decide) (fun c5 => ?_) (fun c5 => ?_)
  · have c5 := (lg_cmp_lt _ _).mp c5
    refine lv_iconst (v := 0) hx hb d_D_isSize_20 (by decide) ?_
    exact z_zret cx.1 cx.2.1 cx.rt cx.lk (by first | rfl | (simp [narrow]; done) | simp_all [narrow]) hS hZ ⟨(Nat.le_of_ble_eq_true rfl), (Nat.le_of_ble_eq_true rfl)⟩ d_D_isSize_21 (by first | exact ⟨by rw [szL_lo c5]; rfl, rfl⟩ | exact ⟨by rw [szL_hi c13]; rfl, rfl⟩ | exact ⟨by rw [szL_in c5 c13]; rfl, rfl⟩)
  · have c5 := fun q => c5 ((lg_cmp_lt _ _).mpr q)
    refine lv_lload_n hx hb d_D_isSize_8 rfl (lv_at hl 0 rfl) ?_
    refine lc_D_176 cx d_D_isSize_9 ?_
    refine W.lcmp hx hb d_D_isSize_12 ?_
    refine lv_if_gt (tgt := 20) hx hb d_D_isSize_13 (by decide) (fun c13 => ?_) (fun c13 => ?_)
    · have c13 := (lg_cmp_gt _ _).mp c13
      refine lv_iconst (v := 0) hx hb d_D_isSize_20 (by decide) ?_
      exact z_zret cx.1 cx.2.1 cx.rt cx.lk (by first | rfl | (simp [narrow]; done) | simp_all [narrow]) hS hZ ⟨(Nat.le_of_ble_eq_true rfl), (Nat.le_of_ble_eq_true rfl)⟩ d_D_isSize_21 (by first | exact ⟨by rw [szL_lo c5]; rfl, rfl⟩ | exact ⟨by rw [szL_hi c13]; rfl, rfl⟩ | exact ⟨by rw [szL_in c5 c13]; rfl, rfl⟩)
    · have c13 := fun q => c13 ((lg_cmp_gt _ _).mpr q)
      refine lv_iconst (v := 1) hx hb d_D_isSize_16 (by decide) ?_
      refine lv_goto (tgt := 21) hx hb d_D_isSize_17 (by decide) ?_
      exact z_zret cx.1 cx.2.1 cx.rt cx.lk (by first | rfl | (simp [narrow]; done) | simp_all [narrow]) hS hZ ⟨(Nat.le_of_ble_eq_true rfl), (Nat.le_of_ble_eq_true rfl)⟩ d_D_isSize_21 (by first | exact ⟨by rw [szL_lo c5]; rfl, rfl⟩ | exact ⟨by rw [szL_hi c13]; rfl, rfl⟩ | exact ⟨by rw [szL_in c5 c13]; rfl, rfl⟩)
set_option maxHeartbeats 4000000 in
set_option maxRecDepth 100000 in
theorem c_areSizes (l : Launch) (G : zG) (n0 e0 : Nat) (x y z : Int32) (w : zw) : Ct l G n0 e0 y_D_areSizes b_D_areSizes 3 (Option.some FieldType.boolean) ({ frames := 1, cells := 0, slots := 0, locals := 21 }) [.int x, .int y, .int z] w (fun v w1 => v = some (.int (zi (szI x && szI y && szI z))) ∧ w1 = w) := by
  refine z_ct (by decide) (Nat.le_of_ble_eq_true rfl) ?_
  intro p e s m below meth c ls cx hnm hZ hS hl
  have hx := cx.1
  have hb := cx.2.1
  have hl : lv_has ls 3 [(0, .int x), (1, .int y), (2, .int z)] := hl
  refine lv_iload_n hx hb d_D_areSizes_0 rfl (lv_at hl 0 rfl) ?_
  refine lv_i2l hx hb d_D_areSizes_1 rfl ?_
  refine is_D_56 (As := [.long x.toInt64]) (rest := []) cx (c_isSize l G n0 e0 (x.toInt64) w) ⟨(Nat.le_of_ble_eq_true rfl), (Nat.le_of_ble_eq_true rfl)⟩ ⟨(Nat.le_of_ble_eq_true rfl), (Nat.le_of_ble_eq_true rfl)⟩ rfl hl.1 rfl (Nat.le_of_ble_eq_true rfl) d_D_areSizes_2 hZ hS (fun v w_1 H locs hp_2 hZ hS => ?_)
  obtain ⟨rfl, hq⟩ := hp_2
  subst w_1
  refine W.eq (g2 := F0 m 5 ls [.int (zi (szL x.toInt64))]) rfl ?_
  refine lv_if_eq (tgt := 28) hx hb d_D_areSizes_5 (by decide) (fun c5 => ?_) (fun c5 => ?_)
  · refine lv_iconst (v := 0) hx hb d_D_areSizes_28 (by decide) ?_
    exact z_zret cx.1 cx.2.1 cx.rt cx.lk (by first | rfl | (simp [narrow]; done) | simp_all [narrow]) hS hZ ⟨(Nat.le_of_ble_eq_true rfl), (Nat.le_of_ble_eq_true rfl)⟩ d_D_areSizes_29 (⟨by simp_all [zi_0, zi_n0, szI, zi_t, zi_f], rfl⟩)
  · refine lv_iload_n hx hb d_D_areSizes_8 rfl (lv_at hl 1 rfl) ?_
    refine lv_i2l hx hb d_D_areSizes_9 rfl ?_
    refine is_D_56 (As := [.long y.toInt64]) (rest := []) cx (c_isSize l G n0 e0 (y.toInt64) w) ⟨(Nat.le_of_ble_eq_true rfl), (Nat.le_of_ble_eq_true rfl)⟩ ⟨(Nat.le_of_ble_eq_true rfl), (Nat.le_of_ble_eq_true rfl)⟩ rfl hl.1 rfl (Nat.le_of_ble_eq_true rfl) d_D_areSizes_10 hZ hS (fun v w_3 H locs hp_4 hZ hS => ?_)
    obtain ⟨rfl, hq⟩ := hp_4
    subst w_3
    refine W.eq (g2 := F0 m 13 ls [.int (zi (szL y.toInt64))]) rfl ?_
    refine lv_if_eq (tgt := 28) hx hb d_D_areSizes_13 (by decide) (fun c13 => ?_) (fun c13 => ?_)
    · refine lv_iconst (v := 0) hx hb d_D_areSizes_28 (by decide) ?_
      exact z_zret cx.1 cx.2.1 cx.rt cx.lk (by first | rfl | (simp [narrow]; done) | simp_all [narrow]) hS hZ ⟨(Nat.le_of_ble_eq_true rfl), (Nat.le_of_ble_eq_true rfl)⟩ d_D_areSizes_29 (⟨by simp_all [zi_0, zi_n0, szI, zi_t, zi_f], rfl⟩)
    · refine lv_iload_n hx hb d_D_areSizes_16 rfl (lv_at hl 2 rfl) ?_
      refine lv_i2l hx hb d_D_areSizes_17 rfl ?_
      refine is_D_56 (As := [.long z.toInt64]) (rest := []) cx (c_isSize l G n0 e0 (z.toInt64) w) ⟨(Nat.le_of_ble_eq_true rfl), (Nat.le_of_ble_eq_true rfl)⟩ ⟨(Nat.le_of_ble_eq_true rfl), (Nat.le_of_ble_eq_true rfl)⟩ rfl hl.1 rfl (Nat.le_of_ble_eq_true rfl) d_D_areSizes_18 hZ hS (fun v w_5 H locs hp_6 hZ hS => ?_)
      obtain ⟨rfl, hq⟩ := hp_6
      subst w_5
      refine W.eq (g2 := F0 m 21 ls [.int (zi (szL z.toInt64))]) rfl ?_
      refine lv_if_eq (tgt := 28) hx hb d_D_areSizes_21 (by decide) (fun c21 => ?_) (fun c21 => ?_)
      · refine lv_iconst (v := 0) hx hb d_D_areSizes_28 (by decide) ?_
        exact z_zret cx.1 cx.2.1 cx.rt cx.lk (by first | rfl | (simp [narrow]; done) | simp_all [narrow]) hS hZ ⟨(Nat.le_of_ble_eq_true rfl), (Nat.le_of_ble_eq_true rfl)⟩ d_D_areSizes_29 (⟨by simp_all [zi_0, zi_n0, szI, zi_t, zi_f], rfl⟩)
      · refine lv_iconst (v := 1) hx hb d_D_areSizes_24 (by decide) ?_
        refine lv_goto (tgt := 29) hx hb d_D_areSizes_25 (by decide) ?_
        exact z_zret cx.1 cx.2.1 cx.rt cx.lk (by first | rfl | (simp [narrow]; done) | simp_all [narrow]) hS hZ ⟨(Nat.le_of_ble_eq_true rfl), (Nat.le_of_ble_eq_true rfl)⟩ d_D_areSizes_29 (⟨by simp_all [zi_0, zi_n0, szI, zi_t, zi_f], rfl⟩)
set_option maxHeartbeats 4000000 in
set_option maxRecDepth 100000 in
theorem c_isRegister (l : Launch) (G : zG) (n0 e0 : Nat) (k : Int32) (w : zw) : Ct l G n0 e0 y_D_isRegister b_D_isRegister 1 (Option.some FieldType.boolean) ({ frames := 0, cells := 0, slots := 0, locals := 0 }) [.int k] w (fun v w1 => v = some (.int (zi (regB k))) ∧ w1 = w) := by
  refine z_ct (by decide) (Nat.le_of_ble_eq_true rfl) ?_
  intro p e s m below meth c ls cx hnm hZ hS hl
  have hx := cx.1
  have hb := cx.2.1
  have hl : lv_has ls 1 [(0, .int k)] := hl
  refine lv_iload_n hx hb d_D_isRegister_0 rfl (lv_at hl 0 rfl) ?_
  refine lv_if_lt (tgt := 14) hx hb d_D_isRegister_1 (by decide) (fun c1 => ?_) (fun c1 => ?_)
  · refine lv_iconst (v := 0) hx hb d_D_isRegister_14 (by decide) ?_
    exact z_zret cx.1 cx.2.1 cx.rt cx.lk (by first | rfl | (simp [narrow]; done) | simp_all [narrow]) hS hZ ⟨(Nat.le_of_ble_eq_true rfl), (Nat.le_of_ble_eq_true rfl)⟩ d_D_isRegister_15 (⟨by simp_all [zi, regB, ← Int32.not_le], rfl⟩)
  · refine lv_iload_n hx hb d_D_isRegister_4 rfl (lv_at hl 0 rfl) ?_
    refine lv_bipush (v := 16) hx hb d_D_isRegister_5 (by decide) ?_
    refine lv_icmp_ge (tgt := 14) hx hb d_D_isRegister_7 (by decide) (fun c7 => ?_) (fun c7 => ?_)
    · refine lv_iconst (v := 0) hx hb d_D_isRegister_14 (by decide) ?_
      exact z_zret cx.1 cx.2.1 cx.rt cx.lk (by first | rfl | (simp [narrow]; done) | simp_all [narrow]) hS hZ ⟨(Nat.le_of_ble_eq_true rfl), (Nat.le_of_ble_eq_true rfl)⟩ d_D_isRegister_15 (⟨by simp_all [zi, regB, ← Int32.not_le], rfl⟩)
    · refine lv_iconst (v := 1) hx hb d_D_isRegister_10 (by decide) ?_
      refine lv_goto (tgt := 15) hx hb d_D_isRegister_11 (by decide) ?_
      exact z_zret cx.1 cx.2.1 cx.rt cx.lk (by first | rfl | (simp [narrow]; done) | simp_all [narrow]) hS hZ ⟨(Nat.le_of_ble_eq_true rfl), (Nat.le_of_ble_eq_true rfl)⟩ d_D_isRegister_15 (⟨by simp_all [zi, regB, ← Int32.not_le], rfl⟩)
set_option maxHeartbeats 4000000 in
set_option maxRecDepth 100000 in
theorem c_itemsOf_0 (l : Launch) (G : zG) (n0 e0 : Nat) (w : zw) : Ct l G n0 e0 y_D_itemsOf b_D_itemsOf 1 (Option.some FieldType.int) ({ frames := 0, cells := 0, slots := 0, locals := 0 }) [.null] w (fun v w1 => v = some (.int 0) ∧ w1 = w) := by
  refine z_ct (by decide) (Nat.le_of_ble_eq_true rfl) ?_
  intro p e s m below meth c ls cx hnm hZ hS hl
  have hx := cx.1
  have hb := cx.2.1
  have hl : lv_has ls 1 [(0, .null)] := hl
  refine lv_aload_nN hx hb d_D_itemsOf_0 rfl (lv_at hl 0 rfl) ?_
  refine lv_ifnonnullN hx hb d_D_itemsOf_1 ?_
  refine lv_iconst (v := 0) hx hb d_D_itemsOf_4 (by decide) ?_
  refine lv_goto (tgt := 14) hx hb d_D_itemsOf_5 (by decide) ?_
  exact z_iret cx.1 cx.2.1 cx.rt cx.lk hS hZ ⟨(Nat.le_of_ble_eq_true rfl), (Nat.le_of_ble_eq_true rfl)⟩ d_D_itemsOf_14 (⟨rfl, rfl⟩)
set_option maxHeartbeats 4000000 in
set_option maxRecDepth 100000 in
theorem c_itemsOf_1 (l : Launch) (G : zG) (n0 e0 : Nat) (w : zw) (b : Nat) (li sw : Nat) (wi ne wd hg dp : Int32) (hb0 : w b = some (.inr (4, [.ref li, .ref sw, .int wi, .int ne, .int wd, .int hg, .int dp]))) : Ct l G n0 e0 y_D_itemsOf b_D_itemsOf 1 (Option.some FieldType.int) ({ frames := 0, cells := 0, slots := 0, locals := 0 }) [.ref b] w (fun v w1 => v = some (.int (1 + wi)) ∧ w1 = w) := by
  refine z_ct (by decide) (Nat.le_of_ble_eq_true rfl) ?_
  intro p e s m below meth c ls cx hnm hZ hS hl
  have hx := cx.1
  have hb := cx.2.1
  have hl : lv_has ls 1 [(0, .ref b)] := hl
  refine lv_aload_n hx hb d_D_itemsOf_0 rfl (lv_at hl 0 rfl) ?_
  refine lv_ifnonnull (tgt := 8) hx hb d_D_itemsOf_1 (by decide) ?_
  refine lv_iconst (v := 1) hx hb d_D_itemsOf_8 (by decide) ?_
  refine lv_aload_n hx hb d_D_itemsOf_9 rfl (lv_at hl 0 rfl) ?_
  refine gf_D_171 cx hZ hb0 rfl d_D_itemsOf_10 ?_
  refine lv_iadd hx hb d_D_itemsOf_13 ?_
  exact z_iret cx.1 cx.2.1 cx.rt cx.lk hS hZ ⟨(Nat.le_of_ble_eq_true rfl), (Nat.le_of_ble_eq_true rfl)⟩ d_D_itemsOf_14 (⟨rfl, rfl⟩)
set_option maxHeartbeats 4000000 in
set_option maxRecDepth 100000 in
theorem c_wanted (l : Launch) (G : zG) (n0 e0 : Nat) (spec amount : Int32) (n : Int64) (w : zw) : Ct l G n0 e0 y_D_wanted b_D_wanted 4 (Option.some FieldType.long) ({ frames := 0, cells := 0, slots := 0, locals := 0 }) [.int spec, .int amount, .long n] w (fun v w1 => v = some (.long (wantedL spec amount n)) ∧ w1 = w) := by
  refine z_ct (by decide) (Nat.le_of_ble_eq_true rfl) ?_
  intro p e s m below meth c ls cx hnm hZ hS hl
  have hx := cx.1
  have hb := cx.2.1
  have hl : lv_has ls 4 [(0, .int spec), (1, .int amount), (2, .long n)] := hl
  refine lv_iload_n hx hb d_D_wanted_0 rfl (lv_at hl 0 rfl) ?_
  refine lv_iconst (v := 2) hx hb d_D_wanted_1 (by decide) ?_
  refine lv_icmp_ne (tgt := 8) hx hb d_D_wanted_2 (by decide) (fun c2 => ?_) (fun c2 => ?_)
  · refine lv_iload_n hx hb d_D_wanted_8 rfl (lv_at hl 0 rfl) ?_
    refine lv_iconst (v := 1) hx hb d_D_wanted_9 (by decide) ?_
    refine lv_icmp_ne (tgt := 20) hx hb d_D_wanted_10 (by decide) (fun c10 => ?_) (fun c10 => ?_)
    · refine lv_lload_n hx hb d_D_wanted_20 rfl (lv_at hl 2 rfl) ?_
      exact z_lret cx.1 cx.2.1 cx.rt cx.lk hS hZ ⟨(Nat.le_of_ble_eq_true rfl), (Nat.le_of_ble_eq_true rfl)⟩ d_D_wanted_21 (⟨by simp_all [wantedL], rfl⟩)
    · refine lv_lload_n hx hb d_D_wanted_13 rfl (lv_at hl 2 rfl) ?_
      refine lv_iload_n hx hb d_D_wanted_14 rfl (lv_at hl 1 rfl) ?_
      refine lv_i2l hx hb d_D_wanted_15 rfl ?_
      refine lv_ladd hx hb d_D_wanted_16 ?_
      refine lv_goto (tgt := 21) hx hb d_D_wanted_17 (by decide) ?_
      exact z_lret cx.1 cx.2.1 cx.rt cx.lk hS hZ ⟨(Nat.le_of_ble_eq_true rfl), (Nat.le_of_ble_eq_true rfl)⟩ d_D_wanted_21 (⟨by simp_all [wantedL], rfl⟩)
  · refine lv_iload_n hx hb d_D_wanted_5 rfl (lv_at hl 1 rfl) ?_
    refine lv_i2l hx hb d_D_wanted_6 rfl ?_
    exact z_lret cx.1 cx.2.1 cx.rt cx.lk hS hZ ⟨(Nat.le_of_ble_eq_true rfl), (Nat.le_of_ble_eq_true rfl)⟩ d_D_wanted_7 (⟨by simp_all [wantedL], rfl⟩)
set_option maxHeartbeats 4000000 in
set_option maxRecDepth 100000 in
theorem c_asSetWidth (l : Launch) (G : zG) (n0 e0 : Nat) (x : Int64) (w : zw) : Ct l G n0 e0 y_D_asSetWidth b_D_asSetWidth 2 (Option.some FieldType.int) ({ frames := 1, cells := 0, slots := 0, locals := 17 }) [.long x] w (fun v w1 => v = some (.int (setW x)) ∧ w1 = w) := by
  refine z_ct (by decide) (Nat.le_of_ble_eq_true rfl) ?_
  intro p e s m below meth c ls cx hnm hZ hS hl
  have hx := cx.1
  have hb := cx.2.1
  have hl : lv_has ls 2 [(0, .long x)] := hl
  refine lc_D_223 cx d_D_asSetWidth_0 ?_
  refine lc_D_225 cx d_D_asSetWidth_3 ?_
  refine lv_lload_n hx hb d_D_asSetWidth_6 rfl (lv_at hl 0 rfl) ?_
  refine mm_D_227 cx hl.1 d_D_asSetWidth_7 (Nat.le_of_ble_eq_true rfl) (Nat.le_of_ble_eq_true rfl) (Nat.le_of_ble_eq_true rfl) (Nat.le_of_ble_eq_true rfl) ?_
  refine mm_D_203 cx hl.1 d_D_asSetWidth_10 (Nat.le_of_ble_eq_true rfl) (Nat.le_of_ble_eq_true rfl) (Nat.le_of_ble_eq_true rfl) (Nat.le_of_ble_eq_true rfl) ?_
  refine lv_l2i hx hb d_D_asSetWidth_13 rfl ?_
  exact z_iret cx.1 cx.2.1 cx.rt cx.lk hS hZ ⟨(Nat.le_of_ble_eq_true rfl), (Nat.le_of_ble_eq_true rfl)⟩ d_D_asSetWidth_14 (⟨by simp [setW], rfl⟩)
set_option maxHeartbeats 4000000 in
set_option maxRecDepth 100000 in
theorem c_runs (l : Launch) (G : zG) (n0 e0 : Nat) (w : zw) (a : Nat) (f : Nat → Int32) (bit : Int32) (ha : w a = some (.inr (1, fI f))) : Ct l G n0 e0 y_I_runs b_I_runs 2 (Option.some FieldType.boolean) ({ frames := 0, cells := 0, slots := 0, locals := 0 }) [.ref a, .int bit] w (fun v w1 => v = some (.int (zi (decide (f 4 &&& bit ≠ 0)))) ∧ w1 = w) := by
  refine z_ct (by decide) (Nat.le_of_ble_eq_true rfl) ?_
  intro p e s m below meth c ls cx hnm hZ hS hl
  have hx := cx.1
  have hb := cx.2.1
  have hl : lv_has ls 2 [(0, .ref a), (1, .int bit)] := hl
  refine lv_aload_n hx hb d_I_runs_0 rfl (lv_at hl 0 rfl) ?_
  refine gf_I_27 cx hZ ha rfl d_I_runs_1 ?_
  refine lv_iload_n hx hb d_I_runs_4 rfl (lv_at hl 1 rfl) ?_
  refine lv_iand hx hb d_I_runs_5 ?_
  refine lv_if_eq (tgt := 13) hx hb d_I_runs_6 (by decide) (fun c6 => ?_) (fun c6 => ?_)
  · refine lv_iconst (v := 0) hx hb d_I_runs_13 (by decide) ?_
    exact z_zret cx.1 cx.2.1 cx.rt cx.lk (by first | rfl | (simp [narrow]; done) | simp_all [narrow]) hS hZ ⟨(Nat.le_of_ble_eq_true rfl), (Nat.le_of_ble_eq_true rfl)⟩ d_I_runs_14 (⟨by simp_all [zi], rfl⟩)
  · refine lv_iconst (v := 1) hx hb d_I_runs_9 (by decide) ?_
    refine lv_goto (tgt := 14) hx hb d_I_runs_10 (by decide) ?_
    exact z_zret cx.1 cx.2.1 cx.rt cx.lk (by first | rfl | (simp [narrow]; done) | simp_all [narrow]) hS hZ ⟨(Nat.le_of_ble_eq_true rfl), (Nat.le_of_ble_eq_true rfl)⟩ d_I_runs_14 (⟨by simp_all [zi], rfl⟩)
set_option maxHeartbeats 4000000 in
set_option maxRecDepth 100000 in
theorem c_stretchOf (l : Launch) (G : zG) (n0 e0 : Nat) (w : zw) (a : Nat) (f : Nat → Int32) (o : Int32) (ha : w a = some (.inr (1, fI f))) : Ct l G n0 e0 y_I_stretchOf b_I_stretchOf 2 (Option.some FieldType.int) ({ frames := 0, cells := 0, slots := 0, locals := 0 }) [.ref a, .int o] w (fun v w1 => v = some (.int (if f 7 = o then f 6 else 0)) ∧ w1 = w) := by
  refine z_ct (by decide) (Nat.le_of_ble_eq_true rfl) ?_
  intro p e s m below meth c ls cx hnm hZ hS hl
  have hx := cx.1
  have hb := cx.2.1
  have hl : lv_has ls 2 [(0, .ref a), (1, .int o)] := hl
  refine lv_aload_n hx hb d_I_stretchOf_0 rfl (lv_at hl 0 rfl) ?_
  refine gf_I_33 cx hZ ha rfl d_I_stretchOf_1 ?_
  refine lv_iload_n hx hb d_I_stretchOf_4 rfl (lv_at hl 1 rfl) ?_
  refine lv_icmp_ne (tgt := 15) hx hb d_I_stretchOf_5 (by decide) (fun c5 => ?_) (fun c5 => ?_)
  · refine lv_iconst (v := 0) hx hb d_I_stretchOf_15 (by decide) ?_
    exact z_iret cx.1 cx.2.1 cx.rt cx.lk hS hZ ⟨(Nat.le_of_ble_eq_true rfl), (Nat.le_of_ble_eq_true rfl)⟩ d_I_stretchOf_16 (⟨by simp_all, rfl⟩)
  · refine lv_aload_n hx hb d_I_stretchOf_8 rfl (lv_at hl 0 rfl) ?_
    refine gf_I_30 cx hZ ha rfl d_I_stretchOf_9 ?_
    refine lv_goto (tgt := 16) hx hb d_I_stretchOf_12 (by decide) ?_
    exact z_iret cx.1 cx.2.1 cx.rt cx.lk hS hZ ⟨(Nat.le_of_ble_eq_true rfl), (Nat.le_of_ble_eq_true rfl)⟩ d_I_stretchOf_16 (⟨by simp_all, rfl⟩)
set_option maxHeartbeats 4000000 in
set_option maxRecDepth 100000 in
theorem c_widthOrNumber (l : Launch) (G : zG) (n0 e0 : Nat) (w : zw) (a : Nat) (f : Nat → Int32) (ha : w a = some (.inr (1, fI f))) : Ct l G n0 e0 y_I_widthOrNumber b_I_widthOrNumber 1 (Option.some FieldType.int) ({ frames := 0, cells := 0, slots := 0, locals := 0 }) [.ref a] w (fun v w1 => v = some (.int (if f 0 = 7 then f 5 else f 1)) ∧ w1 = w) := by
  refine z_ct (by decide) (Nat.le_of_ble_eq_true rfl) ?_
  intro p e s m below meth c ls cx hnm hZ hS hl
  have hx := cx.1
  have hb := cx.2.1
  have hl : lv_has ls 1 [(0, .ref a)] := hl
  refine lv_aload_n hx hb d_I_widthOrNumber_0 rfl (lv_at hl 0 rfl) ?_
  refine gf_I_9 cx hZ ha rfl d_I_widthOrNumber_1 ?_
  refine lv_bipush (v := 7) hx hb d_I_widthOrNumber_4 (by decide) ?_
  refine lv_icmp_ne (tgt := 16) hx hb d_I_widthOrNumber_6 (by decide) (fun c6 => ?_) (fun c6 => ?_)
  · refine lv_aload_n hx hb d_I_widthOrNumber_16 rfl (lv_at hl 0 rfl) ?_
    refine gf_I_15 cx hZ ha rfl d_I_widthOrNumber_17 ?_
    exact z_iret cx.1 cx.2.1 cx.rt cx.lk hS hZ ⟨(Nat.le_of_ble_eq_true rfl), (Nat.le_of_ble_eq_true rfl)⟩ d_I_widthOrNumber_20 (⟨by simp_all, rfl⟩)
  · refine lv_aload_n hx hb d_I_widthOrNumber_9 rfl (lv_at hl 0 rfl) ?_
    refine gf_I_39 cx hZ ha rfl d_I_widthOrNumber_10 ?_
    refine lv_goto (tgt := 20) hx hb d_I_widthOrNumber_13 (by decide) ?_
    exact z_iret cx.1 cx.2.1 cx.rt cx.lk hS hZ ⟨(Nat.le_of_ble_eq_true rfl), (Nat.le_of_ble_eq_true rfl)⟩ d_I_widthOrNumber_20 (⟨by simp_all, rfl⟩)
set_option maxHeartbeats 4000000 in
set_option maxRecDepth 100000 in
theorem c_isBoxOrRule (l : Launch) (G : zG) (n0 e0 : Nat) (w : zw) (a : Nat) (f : Nat → Int32) (ha : w a = some (.inr (1, fI f))) : Ct l G n0 e0 y_I_isBoxOrRule b_I_isBoxOrRule 1 (Option.some FieldType.boolean) ({ frames := 0, cells := 0, slots := 0, locals := 0 }) [.ref a] w (fun v w1 => v = some (.int (zi (decide (f 0 = 2 ∨ f 0 = 3 ∨ f 0 = 4)))) ∧ w1 = w) := by
  refine z_ct (by decide) (Nat.le_of_ble_eq_true rfl) ?_
  intro p e s m below meth c ls cx hnm hZ hS hl
  have hx := cx.1
  have hb := cx.2.1
  have hl : lv_has ls 1 [(0, .ref a)] := hl
  refine lv_aload_n hx hb d_I_isBoxOrRule_0 rfl (lv_at hl 0 rfl) ?_
  refine gf_I_9 cx hZ ha rfl d_I_isBoxOrRule_1 ?_
  refine lv_iconst (v := 2) hx hb d_I_isBoxOrRule_4 (by decide) ?_
  refine lv_icmp_eq (tgt := 24) hx hb d_I_isBoxOrRule_5 (by decide) (fun c5 => ?_) (fun c5 => ?_)
  · refine lv_iconst (v := 1) hx hb d_I_isBoxOrRule_24 (by decide) ?_
    refine lv_goto (tgt := 29) hx hb d_I_isBoxOrRule_25 (by decide) ?_
    exact z_zret cx.1 cx.2.1 cx.rt cx.lk (by first | rfl | (simp [narrow]; done) | simp_all [narrow]) hS hZ ⟨(Nat.le_of_ble_eq_true rfl), (Nat.le_of_ble_eq_true rfl)⟩ d_I_isBoxOrRule_29 (⟨by simp_all [zi], rfl⟩)
  · refine lv_aload_n hx hb d_I_isBoxOrRule_8 rfl (lv_at hl 0 rfl) ?_
    refine gf_I_9 cx hZ ha rfl d_I_isBoxOrRule_9 ?_
    refine lv_iconst (v := 3) hx hb d_I_isBoxOrRule_12 (by decide) ?_
    refine lv_icmp_eq (tgt := 24) hx hb d_I_isBoxOrRule_13 (by decide) (fun c13 => ?_) (fun c13 => ?_)
    · refine lv_iconst (v := 1) hx hb d_I_isBoxOrRule_24 (by decide) ?_
      refine lv_goto (tgt := 29) hx hb d_I_isBoxOrRule_25 (by decide) ?_
      exact z_zret cx.1 cx.2.1 cx.rt cx.lk (by first | rfl | (simp [narrow]; done) | simp_all [narrow]) hS hZ ⟨(Nat.le_of_ble_eq_true rfl), (Nat.le_of_ble_eq_true rfl)⟩ d_I_isBoxOrRule_29 (⟨by simp_all [zi], rfl⟩)
    · refine lv_aload_n hx hb d_I_isBoxOrRule_16 rfl (lv_at hl 0 rfl) ?_
      refine gf_I_9 cx hZ ha rfl d_I_isBoxOrRule_17 ?_
      refine lv_iconst (v := 4) hx hb d_I_isBoxOrRule_20 (by decide) ?_
      refine lv_icmp_ne (tgt := 28) hx hb d_I_isBoxOrRule_21 (by decide) (fun c21 => ?_) (fun c21 => ?_)
      · refine lv_iconst (v := 0) hx hb d_I_isBoxOrRule_28 (by decide) ?_
        exact z_zret cx.1 cx.2.1 cx.rt cx.lk (by first | rfl | (simp [narrow]; done) | simp_all [narrow]) hS hZ ⟨(Nat.le_of_ble_eq_true rfl), (Nat.le_of_ble_eq_true rfl)⟩ d_I_isBoxOrRule_29 (⟨by simp_all [zi], rfl⟩)
      · refine lv_iconst (v := 1) hx hb d_I_isBoxOrRule_24 (by decide) ?_
        refine lv_goto (tgt := 29) hx hb d_I_isBoxOrRule_25 (by decide) ?_
        exact z_zret cx.1 cx.2.1 cx.rt cx.lk (by first | rfl | (simp [narrow]; done) | simp_all [narrow]) hS hZ ⟨(Nat.le_of_ble_eq_true rfl), (Nat.le_of_ble_eq_true rfl)⟩ d_I_isBoxOrRule_29 (⟨by simp_all [zi], rfl⟩)
set_option maxHeartbeats 4000000 in
set_option maxRecDepth 100000 in
theorem c_tellI (l : Launch) (G : zG) (n0 e0 : Nat) (w : zw) (a : Nat) (f : Nat → Int32) (what : Int32) (ha : w a = some (.inr (1, fI f))) : Ct l G n0 e0 y_I_tell b_I_tell 2 (Option.some FieldType.int) ({ frames := 1, cells := 0, slots := 0, locals := 21 }) [.ref a, .int what] w (fun v w1 => v = some (.int (tellI f what)) ∧ w1 = w) := by
  refine z_ct (by decide) (Nat.le_of_ble_eq_true rfl) ?_
  intro p e s m below meth c ls cx hnm hZ hS hl
  have hx := cx.1
  have hb := cx.2.1
  have hl : lv_has ls 2 [(0, .ref a), (1, .int what)] := hl
  refine lv_iload_n hx hb d_I_tell_0 rfl (lv_at hl 1 rfl) ?_
  by_cases e1_0 : what = 0
  · subst e1_0
    refine lv_tableIn (tgt := 36) (off := 35) hx hb d_I_tell_1 (by decide) (by decide) (by decide) (by decide) ?_
    refine lv_aload_n hx hb d_I_tell_36 rfl (lv_at hl 0 rfl) ?_
    refine gf_I_9 cx hZ ha rfl d_I_tell_37 ?_
    exact z_iret cx.1 cx.2.1 cx.rt cx.lk hS hZ ⟨(Nat.le_of_ble_eq_true rfl), (Nat.le_of_ble_eq_true rfl)⟩ d_I_tell_40 (⟨by simp_all [tellI, zi_0, zi_n0], rfl⟩)
  · skip
    by_cases e1_1 : what = 1
    · subst e1_1
      refine lv_tableIn (tgt := 41) (off := 40) hx hb d_I_tell_1 (by decide) (by decide) (by decide) (by decide) ?_
      refine lv_aload_n hx hb d_I_tell_41 rfl (lv_at hl 0 rfl) ?_
      refine lv_iconst (v := 1) hx hb d_I_tell_42 (by decide) ?_
      refine iv_I_68 (As := [.int 1]) (rest := []) cx (c_runs l G n0 e0 w a f 1 ha) ha ⟨(Nat.le_of_ble_eq_true rfl), (Nat.le_of_ble_eq_true rfl)⟩ ⟨(Nat.le_of_ble_eq_true rfl), (Nat.le_of_ble_eq_true rfl)⟩ rfl hl.1 rfl (Nat.le_of_ble_eq_true rfl) d_I_tell_43 hZ hS (fun v w_1 H locs hp_2 hZ hS => ?_)
      obtain ⟨rfl, hq⟩ := hp_2
      subst w_1
      refine W.eq (g2 := F0 m 46 ls [.int (zi (decide (f 4 &&& 1 ≠ 0)))]) rfl ?_
      refine lv_if_eq (tgt := 54) hx hb d_I_tell_46 (by decide) (fun c46 => ?_) (fun c46 => ?_)
      · refine lv_aload_n hx hb d_I_tell_54 rfl (lv_at hl 0 rfl) ?_
        refine iv_I_73 (As := []) (rest := []) cx (c_widthOrNumber l G n0 e0 w a f ha) ha ⟨(Nat.le_of_ble_eq_true rfl), (Nat.le_of_ble_eq_true rfl)⟩ ⟨(Nat.le_of_ble_eq_true rfl), (Nat.le_of_ble_eq_true rfl)⟩ rfl hl.1 rfl (Nat.le_of_ble_eq_true rfl) d_I_tell_55 hZ hS (fun v w_3 H locs hp_4 hZ hS => ?_)
        obtain ⟨rfl, hq⟩ := hp_4
        subst w_3
        refine W.eq (g2 := F0 m 58 ls [.int (if f 0 = 7 then f 5 else f 1)]) rfl ?_
        exact z_iret cx.1 cx.2.1 cx.rt cx.lk hS hZ ⟨(Nat.le_of_ble_eq_true rfl), (Nat.le_of_ble_eq_true rfl)⟩ d_I_tell_58 (⟨by simp_all [tellI, zi_0, zi_n0], rfl⟩)
      · refine lc_I_72 cx d_I_tell_49 ?_
        refine lv_goto (tgt := 58) hx hb d_I_tell_51 (by decide) ?_
        exact z_iret cx.1 cx.2.1 cx.rt cx.lk hS hZ ⟨(Nat.le_of_ble_eq_true rfl), (Nat.le_of_ble_eq_true rfl)⟩ d_I_tell_58 (⟨by simp_all [tellI, zi_0, zi_n0], rfl⟩)
    · skip
      by_cases e1_2 : what = 2
      · subst e1_2
        refine lv_tableIn (tgt := 59) (off := 58) hx hb d_I_tell_1 (by decide) (by decide) (by decide) (by decide) ?_
        refine lv_aload_n hx hb d_I_tell_59 rfl (lv_at hl 0 rfl) ?_
        refine lv_iconst (v := 2) hx hb d_I_tell_60 (by decide) ?_
        refine iv_I_68 (As := [.int 2]) (rest := []) cx (c_runs l G n0 e0 w a f 2 ha) ha ⟨(Nat.le_of_ble_eq_true rfl), (Nat.le_of_ble_eq_true rfl)⟩ ⟨(Nat.le_of_ble_eq_true rfl), (Nat.le_of_ble_eq_true rfl)⟩ rfl hl.1 rfl (Nat.le_of_ble_eq_true rfl) d_I_tell_61 hZ hS (fun v w_5 H locs hp_6 hZ hS => ?_)
        obtain ⟨rfl, hq⟩ := hp_6
        subst w_5
        refine W.eq (g2 := F0 m 64 ls [.int (zi (decide (f 4 &&& 2 ≠ 0)))]) rfl ?_
        refine lv_if_eq (tgt := 72) hx hb d_I_tell_64 (by decide) (fun c64 => ?_) (fun c64 => ?_)
        · refine lv_aload_n hx hb d_I_tell_72 rfl (lv_at hl 0 rfl) ?_
          refine gf_I_18 cx hZ ha rfl d_I_tell_73 ?_
          exact z_iret cx.1 cx.2.1 cx.rt cx.lk hS hZ ⟨(Nat.le_of_ble_eq_true rfl), (Nat.le_of_ble_eq_true rfl)⟩ d_I_tell_76 (⟨by simp_all [tellI, zi_0, zi_n0], rfl⟩)
        · refine lc_I_72 cx d_I_tell_67 ?_
          refine lv_goto (tgt := 76) hx hb d_I_tell_69 (by decide) ?_
          exact z_iret cx.1 cx.2.1 cx.rt cx.lk hS hZ ⟨(Nat.le_of_ble_eq_true rfl), (Nat.le_of_ble_eq_true rfl)⟩ d_I_tell_76 (⟨by simp_all [tellI, zi_0, zi_n0], rfl⟩)
      · skip
        by_cases e1_3 : what = 3
        · subst e1_3
          refine lv_tableIn (tgt := 77) (off := 76) hx hb d_I_tell_1 (by decide) (by decide) (by decide) (by decide) ?_
          refine lv_aload_n hx hb d_I_tell_77 rfl (lv_at hl 0 rfl) ?_
          refine lv_iconst (v := 4) hx hb d_I_tell_78 (by decide) ?_
          refine iv_I_68 (As := [.int 4]) (rest := []) cx (c_runs l G n0 e0 w a f 4 ha) ha ⟨(Nat.le_of_ble_eq_true rfl), (Nat.le_of_ble_eq_true rfl)⟩ ⟨(Nat.le_of_ble_eq_true rfl), (Nat.le_of_ble_eq_true rfl)⟩ rfl hl.1 rfl (Nat.le_of_ble_eq_true rfl) d_I_tell_79 hZ hS (fun v w_7 H locs hp_8 hZ hS => ?_)
          obtain ⟨rfl, hq⟩ := hp_8
          subst w_7
          refine W.eq (g2 := F0 m 82 ls [.int (zi (decide (f 4 &&& 4 ≠ 0)))]) rfl ?_
          refine lv_if_eq (tgt := 90) hx hb d_I_tell_82 (by decide) (fun c82 => ?_) (fun c82 => ?_)
          · refine lv_aload_n hx hb d_I_tell_90 rfl (lv_at hl 0 rfl) ?_
            refine gf_I_21 cx hZ ha rfl d_I_tell_91 ?_
            exact z_iret cx.1 cx.2.1 cx.rt cx.lk hS hZ ⟨(Nat.le_of_ble_eq_true rfl), (Nat.le_of_ble_eq_true rfl)⟩ d_I_tell_94 (⟨by simp_all [tellI, zi_0, zi_n0], rfl⟩)
          · refine lc_I_72 cx d_I_tell_85 ?_
            refine lv_goto (tgt := 94) hx hb d_I_tell_87 (by decide) ?_
            exact z_iret cx.1 cx.2.1 cx.rt cx.lk hS hZ ⟨(Nat.le_of_ble_eq_true rfl), (Nat.le_of_ble_eq_true rfl)⟩ d_I_tell_94 (⟨by simp_all [tellI, zi_0, zi_n0], rfl⟩)
        · skip
          by_cases e1_4 : what = 4
          · subst e1_4
            refine lv_tableIn (tgt := 95) (off := 94) hx hb d_I_tell_1 (by decide) (by decide) (by decide) (by decide) ?_
            refine lv_aload_n hx hb d_I_tell_95 rfl (lv_at hl 0 rfl) ?_
            refine gf_I_9 cx hZ ha rfl d_I_tell_96 ?_
            refine lv_iconst (v := 5) hx hb d_I_tell_99 (by decide) ?_
            refine lv_icmp_ne (tgt := 110) hx hb d_I_tell_100 (by decide) (fun c100 => ?_) (fun c100 => ?_)
            · refine lv_aload_n hx hb d_I_tell_110 rfl (lv_at hl 0 rfl) ?_
              refine gf_I_57 cx hZ ha rfl d_I_tell_111 ?_
              exact z_iret cx.1 cx.2.1 cx.rt cx.lk hS hZ ⟨(Nat.le_of_ble_eq_true rfl), (Nat.le_of_ble_eq_true rfl)⟩ d_I_tell_114 (⟨by simp_all [tellI, zi_0, zi_n0], rfl⟩)
            · refine lv_aload_n hx hb d_I_tell_103 rfl (lv_at hl 0 rfl) ?_
              refine gf_I_30 cx hZ ha rfl d_I_tell_104 ?_
              refine lv_goto (tgt := 114) hx hb d_I_tell_107 (by decide) ?_
              exact z_iret cx.1 cx.2.1 cx.rt cx.lk hS hZ ⟨(Nat.le_of_ble_eq_true rfl), (Nat.le_of_ble_eq_true rfl)⟩ d_I_tell_114 (⟨by simp_all [tellI, zi_0, zi_n0], rfl⟩)
          · skip
            have te1_0 := lv_neT e1_0 (show (0 : Int32).toInt = 0 from by decide)
            have te1_1 := lv_neT e1_1 (show (1 : Int32).toInt = 1 from by decide)
            have te1_2 := lv_neT e1_2 (show (2 : Int32).toInt = 2 from by decide)
            have te1_3 := lv_neT e1_3 (show (3 : Int32).toInt = 3 from by decide)
            have te1_4 := lv_neT e1_4 (show (4 : Int32).toInt = 4 from by decide)
            refine lv_tableOut (tgt := 115) hx hb d_I_tell_1 (by omega) (by decide) ?_
            refine lv_aload_n hx hb d_I_tell_115 rfl (lv_at hl 0 rfl) ?_
            refine gf_I_36 cx hZ ha rfl d_I_tell_116 ?_
            exact z_iret cx.1 cx.2.1 cx.rt cx.lk hS hZ ⟨(Nat.le_of_ble_eq_true rfl), (Nat.le_of_ble_eq_true rfl)⟩ d_I_tell_119 (⟨by simp_all [tellI, zi_0, zi_n0], rfl⟩)
end
section
def nearL (a whole : Int64) : Int64 := if 0 < whole then (if 0 ≤ a then (2 * (if 0 < a then a else -a) + whole) / (2 * whole) else -((2 * (if 0 < a then a else -a) + whole) / (2 * whole))) else 0
abbrev fB (li sw : Nat) (f : Nat → Int32) : List Value := [.ref li, .ref sw, .int (f 0), .int (f 1), .int (f 2), .int (f 3), .int (f 4)]
def tellB (vt : Bool) (n : Int32) (f : Nat → Int32) (what : Int32) : Int32 := if what = 0 then (if vt then 2 else 1) else if what = 1 then f 2 else if what = 2 then f 3 else if what = 3 then f 4 else if what = 4 then n else f 0
set_option maxHeartbeats 4000000 in
set_option maxRecDepth 100000 in
theorem c_near (l : Launch) (G : zG) (n0 e0 : Nat) (a whole : Int64) (w : zw) (hne : 0 < whole → ¬ 2 * whole = 0) : Ct l G n0 e0 y_D_near b_D_near 6 (Option.some FieldType.long) ({ frames := 1, cells := 0, slots := 0, locals := 17 }) [.long a, .long whole] w (fun v w1 => v = some (.long (nearL a whole)) ∧ w1 = w) := by
  refine z_ct (by decide) (Nat.le_of_ble_eq_true rfl) ?_
  intro p e s m below meth c ls cx hnm hZ hS hl
  have hx := cx.1
  have hb := cx.2.1
  have hl : lv_has ls 6 [(0, .long a), (2, .long whole)] := hl
  refine lv_lload_n hx hb d_D_near_0 rfl (lv_at hl 1 rfl) ?_
  refine lv_lconst (v := 0) hx hb d_D_near_1 (by decide) ?_
  refine W.lcmp hx hb d_D_near_2 ?_
  refine lv_if_gt (tgt := 8) hx hb d_D_near_3 (by decide) (fun c3 => ?_) (fun c3 => ?_)
  · have c3 := (lg_cmp_gt _ _).mp c3
    refine lc_D_230 cx d_D_near_8 ?_
    refine lv_lload_n hx hb d_D_near_11 rfl (lv_at hl 0 rfl) ?_
    refine mm_D_232 cx hl.1 d_D_near_12 (Nat.le_of_ble_eq_true rfl) (Nat.le_of_ble_eq_true rfl) (Nat.le_of_ble_eq_true rfl) (Nat.le_of_ble_eq_true rfl) ?_
    refine lv_lmul hx hb d_D_near_15 ?_
    refine lv_lload_n hx hb d_D_near_16 rfl (lv_at hl 1 rfl) ?_
    refine lv_ladd hx hb d_D_near_17 ?_
    refine lc_D_230 cx d_D_near_18 ?_
    refine lv_lload_n hx hb d_D_near_21 rfl (lv_at hl 1 rfl) ?_
    refine lv_lmul hx hb d_D_near_22 ?_
    refine lv_ldiv hx hb d_D_near_23 (hne c3) ?_
    refine lv_lstore (lv' := [(4, .long (((2 * (if 0 < a then a else -a)) + whole) / (2 * whole))), (0, .long a), (2, .long whole)]) hx hb d_D_near_24 hl (by decide) rfl (fun ls hl => ?_)
    refine lv_lload_n hx hb d_D_near_26 rfl (lv_at hl 1 rfl) ?_
    refine lv_lconst (v := 0) hx hb d_D_near_27 (by decide) ?_
    refine W.lcmp hx hb d_D_near_28 ?_
    refine lv_if_ge (tgt := 38) hx hb d_D_near_29 (by decide) (fun c29 => ?_) (fun c29 => ?_)
    · have c29 := (lg_cmp_ge _ _).mp c29
      refine lv_lload hx hb d_D_near_38 (lv_at hl 0 rfl) ?_
      exact z_lret cx.1 cx.2.1 cx.rt cx.lk hS hZ ⟨(Nat.le_of_ble_eq_true rfl), (Nat.le_of_ble_eq_true rfl)⟩ d_D_near_40 (by first | exact ⟨by rw [nearL, if_neg c3], rfl⟩ | exact ⟨by rw [nearL, if_pos c3, if_pos c29], rfl⟩ | exact ⟨by rw [nearL, if_pos c3, if_neg c29], rfl⟩)
    · have c29 := fun q => c29 ((lg_cmp_ge _ _).mpr q)
      refine lv_lload hx hb d_D_near_32 (lv_at hl 0 rfl) ?_
      refine lv_lneg hx hb d_D_near_34 ?_
      refine lv_goto (tgt := 40) hx hb d_D_near_35 (by decide) ?_
      exact z_lret cx.1 cx.2.1 cx.rt cx.lk hS hZ ⟨(Nat.le_of_ble_eq_true rfl), (Nat.le_of_ble_eq_true rfl)⟩ d_D_near_40 (by first | exact ⟨by rw [nearL, if_neg c3], rfl⟩ | exact ⟨by rw [nearL, if_pos c3, if_pos c29], rfl⟩ | exact ⟨by rw [nearL, if_pos c3, if_neg c29], rfl⟩)
  · have c3 := fun q => c3 ((lg_cmp_gt _ _).mpr q)
    refine lv_lconst (v := 0) hx hb d_D_near_6 (by decide) ?_
    exact z_lret cx.1 cx.2.1 cx.rt cx.lk hS hZ ⟨(Nat.le_of_ble_eq_true rfl), (Nat.le_of_ble_eq_true rfl)⟩ d_D_near_7 (by first | exact ⟨by rw [nearL, if_neg c3], rfl⟩ | exact ⟨by rw [nearL, if_pos c3, if_pos c29], rfl⟩ | exact ⟨by rw [nearL, if_pos c3, if_neg c29], rfl⟩)
set_option maxHeartbeats 4000000 in
set_option maxRecDepth 100000 in
theorem c_I_init (l : Launch) (G : zG) (n0 e0 : Nat) (w : zw) (a : Nat) (k x h d : Int32) (ha : w a = some (.inr (1, [.int 0, .int 0, .int 0, .int 0, .int 0, .int 0, .int 0, .int 0, .int 0, .int 0, .int 0, .int 0]))) : Ct l G n0 e0 y_I_init b_I_init 5 (Option.none : Option FieldType) ({ frames := 1, cells := 0, slots := 0, locals := 12 }) [.ref a, .int k, .int x, .int h, .int d] w (fun v w1 => v = none ∧ w1 = va_up w a (some (.inr (1, fI (mkI k x h d 0 0 0 0 0 0 0 0))))) := by
  refine z_ct (by decide) (Nat.le_of_ble_eq_true rfl) ?_
  intro p e s m below meth c ls cx hnm hZ hS hl
  have hx := cx.1
  have hb := cx.2.1
  have hl : lv_has ls 5 [(0, .ref a), (1, .int k), (2, .int x), (3, .int h), (4, .int d)] := hl
  refine lv_aload_n hx hb d_I_init_0 rfl (lv_at hl 0 rfl) ?_
  refine oi_I_3 cx hl.1 d_I_init_1 (Nat.le_of_ble_eq_true rfl) (Nat.le_of_ble_eq_true rfl) ?_
  refine W.eq (g2 := F0 m 4 ls []) rfl ?_
  refine lv_aload_n hx hb d_I_init_4 rfl (lv_at hl 0 rfl) ?_
  refine lv_iload_n hx hb d_I_init_5 rfl (lv_at hl 1 rfl) ?_
  refine pf_I_9 cx hnm hZ hS ha (Nat.le_of_ble_eq_true rfl) d_I_init_6 (fun w_1 H locs hw_2 hZ hS => ?_)
  have hc_3 : w_1 a = some (.inr (1, [.int k, .int 0, .int 0, .int 0, .int 0, .int 0, .int 0, .int 0, .int 0, .int 0, .int 0, .int 0])) := up_self hw_2
  refine lv_aload_n hx hb d_I_init_9 rfl (lv_at hl 0 rfl) ?_
  refine lv_iload_n hx hb d_I_init_10 rfl (lv_at hl 2 rfl) ?_
  refine pf_I_15 cx hnm hZ hS hc_3 (Nat.le_of_ble_eq_true rfl) d_I_init_11 (fun w_4 H locs hw_5 hZ hS => ?_)
  have hc_6 : w_4 a = some (.inr (1, [.int k, .int x, .int 0, .int 0, .int 0, .int 0, .int 0, .int 0, .int 0, .int 0, .int 0, .int 0])) := up_self hw_5
  refine lv_aload_n hx hb d_I_init_14 rfl (lv_at hl 0 rfl) ?_
  refine lv_iload_n hx hb d_I_init_15 rfl (lv_at hl 3 rfl) ?_
  refine pf_I_18 cx hnm hZ hS hc_6 (Nat.le_of_ble_eq_true rfl) d_I_init_16 (fun w_7 H locs hw_8 hZ hS => ?_)
  have hc_9 : w_7 a = some (.inr (1, [.int k, .int x, .int h, .int 0, .int 0, .int 0, .int 0, .int 0, .int 0, .int 0, .int 0, .int 0])) := up_self hw_8
  refine lv_aload_n hx hb d_I_init_19 rfl (lv_at hl 0 rfl) ?_
  refine lv_iload hx hb d_I_init_20 (lv_at hl 4 rfl) ?_
  refine pf_I_21 cx hnm hZ hS hc_9 (Nat.le_of_ble_eq_true rfl) d_I_init_22 (fun w_10 H locs hw_11 hZ hS => ?_)
  have hc_12 : w_10 a = some (.inr (1, [.int k, .int x, .int h, .int d, .int 0, .int 0, .int 0, .int 0, .int 0, .int 0, .int 0, .int 0])) := up_self hw_11
  exact z_vret cx.1 cx.2.1 cx.rt cx.lk hS hZ ⟨(Nat.le_of_ble_eq_true rfl), (Nat.le_of_ble_eq_true rfl)⟩ d_I_init_25 (⟨rfl, by rw [hw_11, hw_8, hw_5, hw_2]; first | done | (simp only [bx_uu]; done) | (simp only [bx_uu]; rfl) | rfl⟩)
set_option maxHeartbeats 4000000 in
set_option maxRecDepth 100000 in
theorem c_ofRule (l : Launch) (G : zG) (n0 e0 : Nat) (w : zw) (x h d r : Int32) : Ct l G n0 e0 y_I_ofRule b_I_ofRule 5 (Option.some (FieldType.object "BoxDesk$Item")) ({ frames := 2, cells := 1, slots := 12, locals := 36 }) [.int x, .int h, .int d, .int r] w (fun v w1 => ∃ q, v = some (.ref q) ∧ w q = none ∧ w1 = va_up w q (some (.inr (1, fI (mkI 4 x h d r 0 0 0 0 0 0 0))))) := by
  refine z_ct (by decide) (Nat.le_of_ble_eq_true rfl) ?_
  intro p e s m below meth c ls cx hnm hZ hS hl
  have hx := cx.1
  have hb := cx.2.1
  have hl : lv_has ls 5 [(0, .int x), (1, .int h), (2, .int d), (3, .int r)] := hl
  refine nw_I_10_o cx hZ hS (Nat.le_of_ble_eq_true rfl) (Nat.le_of_ble_eq_true rfl) d_I_ofRule_0 (fun q_1 w_2 H hq_4 hw_3 hZ hS => ?_)
  have hc_5 : w_2 q_1 = some (.inr (1, [.int 0, .int 0, .int 0, .int 0, .int 0, .int 0, .int 0, .int 0, .int 0, .int 0, .int 0, .int 0])) := up_self hw_3
  refine lv_dup hx hb d_I_ofRule_3 rfl ?_
  refine lv_iconst (v := 4) hx hb d_I_ofRule_4 (by decide) ?_
  refine lv_iload_n hx hb d_I_ofRule_5 rfl (lv_at hl 0 rfl) ?_
  refine lv_iload_n hx hb d_I_ofRule_6 rfl (lv_at hl 1 rfl) ?_
  refine lv_iload_n hx hb d_I_ofRule_7 rfl (lv_at hl 2 rfl) ?_
  refine ip_I_24 (As := [.int 4, .int x, .int h, .int d]) (rest := [.ref q_1]) cx (c_I_init l G n0 e0 w_2 q_1 4 x h d hc_5) ⟨(Nat.le_of_ble_eq_true rfl), (Nat.le_of_ble_eq_true rfl)⟩ ⟨(Nat.le_of_ble_eq_true rfl), (Nat.le_of_ble_eq_true rfl)⟩ rfl hl.1 rfl (Nat.le_of_ble_eq_true rfl) d_I_ofRule_8 hZ hS (fun v w_6 H locs hp_7 hZ hS => ?_)
  obtain ⟨rfl, hw_8⟩ := hp_7
  have hc_9 : w_6 q_1 = some (.inr (1, [.int 4, .int x, .int h, .int d, .int 0, .int 0, .int 0, .int 0, .int 0, .int 0, .int 0, .int 0])) := up_self hw_8
  refine W.eq (g2 := F0 m 11 ls [.ref q_1]) rfl ?_
  refine lv_astore (lv' := [(4, .ref q_1), (0, .int x), (1, .int h), (2, .int d), (3, .int r)]) hx hb d_I_ofRule_11 hl (by decide) rfl (fun ls hl => ?_)
  refine lv_aload hx hb d_I_ofRule_13 (lv_at hl 0 rfl) ?_
  refine lv_iload_n hx hb d_I_ofRule_15 rfl (lv_at hl 4 rfl) ?_
  refine pf_I_27 cx hZ hS hc_9 (Nat.le_of_ble_eq_true rfl) d_I_ofRule_16 (fun w_10 H locs hw_11 hZ hS => ?_)
  have hc_12 : w_10 q_1 = some (.inr (1, [.int 4, .int x, .int h, .int d, .int r, .int 0, .int 0, .int 0, .int 0, .int 0, .int 0, .int 0])) := up_self hw_11
  refine lv_aload hx hb d_I_ofRule_19 (lv_at hl 0 rfl) ?_
  exact z_aret cx.1 cx.2.1 cx.rt cx.lk (by first | exact Or.inl ⟨_, rfl⟩ | exact Or.inr ⟨_, rfl⟩) (by first | exact Or.inl rfl | exact Or.inr ⟨_, rfl⟩) hS hZ ⟨(Nat.le_of_ble_eq_true rfl), (Nat.le_of_ble_eq_true rfl)⟩ d_I_ofRule_21 (⟨q_1, rfl, hq_4, by rw [hw_11, hw_8, hw_3]; first | done | (simp only [bx_uu]; done) | (simp only [bx_uu]; rfl) | rfl⟩)
set_option maxHeartbeats 4000000 in
set_option maxRecDepth 100000 in
theorem c_ofGlue (l : Launch) (G : zG) (n0 e0 : Nat) (w : zw) (x st o sh : Int32) : Ct l G n0 e0 y_I_ofGlue b_I_ofGlue 5 (Option.some (FieldType.object "BoxDesk$Item")) ({ frames := 2, cells := 1, slots := 12, locals := 36 }) [.int x, .int st, .int o, .int sh] w (fun v w1 => ∃ q, v = some (.ref q) ∧ w q = none ∧ w1 = va_up w q (some (.inr (1, fI (mkI 5 x 0 0 0 0 st o sh 0 0 0))))) := by
  refine z_ct (by decide) (Nat.le_of_ble_eq_true rfl) ?_
  intro p e s m below meth c ls cx hnm hZ hS hl
  have hx := cx.1
  have hb := cx.2.1
  have hl : lv_has ls 5 [(0, .int x), (1, .int st), (2, .int o), (3, .int sh)] := hl
  refine nw_I_10_o cx hZ hS (Nat.le_of_ble_eq_true rfl) (Nat.le_of_ble_eq_true rfl) d_I_ofGlue_0 (fun q_1 w_2 H hq_4 hw_3 hZ hS => ?_)
  have hc_5 : w_2 q_1 = some (.inr (1, [.int 0, .int 0, .int 0, .int 0, .int 0, .int 0, .int 0, .int 0, .int 0, .int 0, .int 0, .int 0])) := up_self hw_3
  refine lv_dup hx hb d_I_ofGlue_3 rfl ?_
  refine lv_iconst (v := 5) hx hb d_I_ofGlue_4 (by decide) ?_
  refine lv_iload_n hx hb d_I_ofGlue_5 rfl (lv_at hl 0 rfl) ?_
  refine lv_iconst (v := 0) hx hb d_I_ofGlue_6 (by decide) ?_
  refine lv_iconst (v := 0) hx hb d_I_ofGlue_7 (by decide) ?_
  refine ip_I_24 (As := [.int 5, .int x, .int 0, .int 0]) (rest := [.ref q_1]) cx (c_I_init l G n0 e0 w_2 q_1 5 x 0 0 hc_5) ⟨(Nat.le_of_ble_eq_true rfl), (Nat.le_of_ble_eq_true rfl)⟩ ⟨(Nat.le_of_ble_eq_true rfl), (Nat.le_of_ble_eq_true rfl)⟩ rfl hl.1 rfl (Nat.le_of_ble_eq_true rfl) d_I_ofGlue_8 hZ hS (fun v w_6 H locs hp_7 hZ hS => ?_)
  obtain ⟨rfl, hw_8⟩ := hp_7
  have hc_9 : w_6 q_1 = some (.inr (1, [.int 5, .int x, .int 0, .int 0, .int 0, .int 0, .int 0, .int 0, .int 0, .int 0, .int 0, .int 0])) := up_self hw_8
  refine W.eq (g2 := F0 m 11 ls [.ref q_1]) rfl ?_
  refine lv_astore (lv' := [(4, .ref q_1), (0, .int x), (1, .int st), (2, .int o), (3, .int sh)]) hx hb d_I_ofGlue_11 hl (by decide) rfl (fun ls hl => ?_)
  refine lv_aload hx hb d_I_ofGlue_13 (lv_at hl 0 rfl) ?_
  refine lv_iload_n hx hb d_I_ofGlue_15 rfl (lv_at hl 2 rfl) ?_
  refine pf_I_30 cx hZ hS hc_9 (Nat.le_of_ble_eq_true rfl) d_I_ofGlue_16 (fun w_10 H locs hw_11 hZ hS => ?_)
  have hc_12 : w_10 q_1 = some (.inr (1, [.int 5, .int x, .int 0, .int 0, .int 0, .int 0, .int st, .int 0, .int 0, .int 0, .int 0, .int 0])) := up_self hw_11
  refine lv_aload hx hb d_I_ofGlue_19 (lv_at hl 0 rfl) ?_
  refine lv_iload_n hx hb d_I_ofGlue_21 rfl (lv_at hl 3 rfl) ?_
  refine pf_I_33 cx hZ hS hc_12 (Nat.le_of_ble_eq_true rfl) d_I_ofGlue_22 (fun w_13 H locs hw_14 hZ hS => ?_)
  have hc_15 : w_13 q_1 = some (.inr (1, [.int 5, .int x, .int 0, .int 0, .int 0, .int 0, .int st, .int o, .int 0, .int 0, .int 0, .int 0])) := up_self hw_14
  refine lv_aload hx hb d_I_ofGlue_25 (lv_at hl 0 rfl) ?_
  refine lv_iload_n hx hb d_I_ofGlue_27 rfl (lv_at hl 4 rfl) ?_
  refine pf_I_36 cx hZ hS hc_15 (Nat.le_of_ble_eq_true rfl) d_I_ofGlue_28 (fun w_16 H locs hw_17 hZ hS => ?_)
  have hc_18 : w_16 q_1 = some (.inr (1, [.int 5, .int x, .int 0, .int 0, .int 0, .int 0, .int st, .int o, .int sh, .int 0, .int 0, .int 0])) := up_self hw_17
  refine lv_aload hx hb d_I_ofGlue_31 (lv_at hl 0 rfl) ?_
  exact z_aret cx.1 cx.2.1 cx.rt cx.lk (by first | exact Or.inl ⟨_, rfl⟩ | exact Or.inr ⟨_, rfl⟩) (by first | exact Or.inl rfl | exact Or.inr ⟨_, rfl⟩) hS hZ ⟨(Nat.le_of_ble_eq_true rfl), (Nat.le_of_ble_eq_true rfl)⟩ d_I_ofGlue_33 (⟨q_1, rfl, hq_4, by rw [hw_17, hw_14, hw_11, hw_8, hw_3]; first | done | (simp only [bx_uu]; done) | (simp only [bx_uu]; rfl) | rfl⟩)
set_option maxHeartbeats 4000000 in
set_option maxRecDepth 100000 in
theorem c_ofPenalty (l : Launch) (G : zG) (n0 e0 : Nat) (w : zw) (x : Int32) : Ct l G n0 e0 y_I_ofPenalty b_I_ofPenalty 2 (Option.some (FieldType.object "BoxDesk$Item")) ({ frames := 2, cells := 1, slots := 12, locals := 36 }) [.int x] w (fun v w1 => ∃ q, v = some (.ref q) ∧ w q = none ∧ w1 = va_up w q (some (.inr (1, fI (mkI 7 0 0 0 0 x 0 0 0 0 0 0))))) := by
  refine z_ct (by decide) (Nat.le_of_ble_eq_true rfl) ?_
  intro p e s m below meth c ls cx hnm hZ hS hl
  have hx := cx.1
  have hb := cx.2.1
  have hl : lv_has ls 2 [(0, .int x)] := hl
  refine nw_I_10_o cx hZ hS (Nat.le_of_ble_eq_true rfl) (Nat.le_of_ble_eq_true rfl) d_I_ofPenalty_0 (fun q_1 w_2 H hq_4 hw_3 hZ hS => ?_)
  have hc_5 : w_2 q_1 = some (.inr (1, [.int 0, .int 0, .int 0, .int 0, .int 0, .int 0, .int 0, .int 0, .int 0, .int 0, .int 0, .int 0])) := up_self hw_3
  refine lv_dup hx hb d_I_ofPenalty_3 rfl ?_
  refine lv_bipush (v := 7) hx hb d_I_ofPenalty_4 (by decide) ?_
  refine lv_iconst (v := 0) hx hb d_I_ofPenalty_6 (by decide) ?_
  refine lv_iconst (v := 0) hx hb d_I_ofPenalty_7 (by decide) ?_
  refine lv_iconst (v := 0) hx hb d_I_ofPenalty_8 (by decide) ?_
  refine ip_I_24 (As := [.int 7, .int 0, .int 0, .int 0]) (rest := [.ref q_1]) cx (c_I_init l G n0 e0 w_2 q_1 7 0 0 0 hc_5) ⟨(Nat.le_of_ble_eq_true rfl), (Nat.le_of_ble_eq_true rfl)⟩ ⟨(Nat.le_of_ble_eq_true rfl), (Nat.le_of_ble_eq_true rfl)⟩ rfl hl.1 rfl (Nat.le_of_ble_eq_true rfl) d_I_ofPenalty_9 hZ hS (fun v w_6 H locs hp_7 hZ hS => ?_)
  obtain ⟨rfl, hw_8⟩ := hp_7
  have hc_9 : w_6 q_1 = some (.inr (1, [.int 7, .int 0, .int 0, .int 0, .int 0, .int 0, .int 0, .int 0, .int 0, .int 0, .int 0, .int 0])) := up_self hw_8
  refine W.eq (g2 := F0 m 12 ls [.ref q_1]) rfl ?_
  refine lv_astore_n (lv' := [(1, .ref q_1), (0, .int x)]) hx hb d_I_ofPenalty_12 rfl hl (by decide) rfl (fun ls hl => ?_)
  refine lv_aload_n hx hb d_I_ofPenalty_13 rfl (lv_at hl 0 rfl) ?_
  refine lv_iload_n hx hb d_I_ofPenalty_14 rfl (lv_at hl 1 rfl) ?_
  refine pf_I_39 cx hZ hS hc_9 (Nat.le_of_ble_eq_true rfl) d_I_ofPenalty_15 (fun w_10 H locs hw_11 hZ hS => ?_)
  have hc_12 : w_10 q_1 = some (.inr (1, [.int 7, .int 0, .int 0, .int 0, .int 0, .int x, .int 0, .int 0, .int 0, .int 0, .int 0, .int 0])) := up_self hw_11
  refine lv_aload_n hx hb d_I_ofPenalty_18 rfl (lv_at hl 0 rfl) ?_
  exact z_aret cx.1 cx.2.1 cx.rt cx.lk (by first | exact Or.inl ⟨_, rfl⟩ | exact Or.inr ⟨_, rfl⟩) (by first | exact Or.inl rfl | exact Or.inr ⟨_, rfl⟩) hS hZ ⟨(Nat.le_of_ble_eq_true rfl), (Nat.le_of_ble_eq_true rfl)⟩ d_I_ofPenalty_19 (⟨q_1, rfl, hq_4, by rw [hw_11, hw_8, hw_3]; first | done | (simp only [bx_uu]; done) | (simp only [bx_uu]; rfl) | rfl⟩)
set_option maxHeartbeats 4000000 in
set_option maxRecDepth 100000 in
theorem c_ofBox (l : Launch) (G : zG) (n0 e0 : Nat) (w : zw) (b li sw al : Nat) (f : Nat → Int32) (vt : Bool) (shift : Int32) (hb0 : w b = some (.inr (4, fB li sw f))) (hli : w li = some (.inr (2, [.int (zi vt), .ref al]))) : Ct l G n0 e0 y_I_ofBox b_I_ofBox 3 (Option.some (FieldType.object "BoxDesk$Item")) ({ frames := 2, cells := 1, slots := 12, locals := 36 }) [.ref b, .int shift] w (fun v w1 => ∃ q, v = some (.ref q) ∧ w q = none ∧ w1 = va_up w q (some (.inr (1, fI (mkI (if vt then 3 else 2) (f 2) (f 3) (f 4) 0 0 0 0 0 shift (f 0) (f 1)))))) := by
  refine z_ct (by decide) (Nat.le_of_ble_eq_true rfl) ?_
  intro p e s m below meth c ls cx hnm hZ hS hl
  have hx := cx.1
  have hb := cx.2.1
  have hl : lv_has ls 3 [(0, .ref b), (1, .int shift)] := hl
  refine nw_I_10_o cx hZ hS (Nat.le_of_ble_eq_true rfl) (Nat.le_of_ble_eq_true rfl) d_I_ofBox_0 (fun q_1 w_2 H hq_4 hw_3 hZ hS => ?_)
  have hk_5 : w_2 b = some (.inr (4, [.ref li, .ref sw, .int (f 0), .int (f 1), .int (f 2), .int (f 3), .int (f 4)])) := up_ne hw_3 hb0 (z_neN hb0 hq_4)
  have hk_6 : w_2 li = some (.inr (2, [.int (zi vt), .ref al])) := up_ne hw_3 hli (z_neN hli hq_4)
  have hc_7 : w_2 q_1 = some (.inr (1, [.int 0, .int 0, .int 0, .int 0, .int 0, .int 0, .int 0, .int 0, .int 0, .int 0, .int 0, .int 0])) := up_self hw_3
  refine lv_dup hx hb d_I_ofBox_3 rfl ?_
  refine lv_aload_n hx hb d_I_ofBox_4 rfl (lv_at hl 0 rfl) ?_
  refine gf_I_42 cx hZ hk_5 rfl d_I_ofBox_5 ?_
  refine gf_I_48 cx hZ hk_6 rfl d_I_ofBox_8 ?_
  refine lv_if_eq (tgt := 18) hx hb d_I_ofBox_11 (by decide) (fun c11 => ?_) (fun c11 => ?_)
  · refine lv_iconst (v := 2) hx hb d_I_ofBox_18 (by decide) ?_
    refine lv_aload_n hx hb d_I_ofBox_19 rfl (lv_at hl 0 rfl) ?_
    refine gf_I_54 cx hZ hk_5 rfl d_I_ofBox_20 ?_
    refine lv_aload_n hx hb d_I_ofBox_23 rfl (lv_at hl 0 rfl) ?_
    refine gf_I_55 cx hZ hk_5 rfl d_I_ofBox_24 ?_
    refine lv_aload_n hx hb d_I_ofBox_27 rfl (lv_at hl 0 rfl) ?_
    refine gf_I_56 cx hZ hk_5 rfl d_I_ofBox_28 ?_
    refine ip_I_24 (As := [.int 2, .int (f 2), .int (f 3), .int (f 4)]) (rest := [.ref q_1]) cx (c_I_init l G n0 e0 w_2 q_1 2 (f 2) (f 3) (f 4) hc_7) ⟨(Nat.le_of_ble_eq_true rfl), (Nat.le_of_ble_eq_true rfl)⟩ ⟨(Nat.le_of_ble_eq_true rfl), (Nat.le_of_ble_eq_true rfl)⟩ rfl hl.1 rfl (Nat.le_of_ble_eq_true rfl) d_I_ofBox_31 hZ hS (fun v w_8 H locs hp_9 hZ hS => ?_)
    obtain ⟨rfl, hw_10⟩ := hp_9
    have hk_11 : w_8 b = some (.inr (4, [.ref li, .ref sw, .int (f 0), .int (f 1), .int (f 2), .int (f 3), .int (f 4)])) := up_ne hw_10 hk_5 (z_ne hk_5 hc_7 (by simp))
    have hk_12 : w_8 li = some (.inr (2, [.int (zi vt), .ref al])) := up_ne hw_10 hk_6 (z_ne hk_6 hc_7 (by simp))
    have hc_13 : w_8 q_1 = some (.inr (1, [.int 2, .int (f 2), .int (f 3), .int (f 4), .int 0, .int 0, .int 0, .int 0, .int 0, .int 0, .int 0, .int 0])) := up_self hw_10
    refine W.eq (g2 := F0 m 34 ls [.ref q_1]) rfl ?_
    refine lv_astore_n (lv' := [(2, .ref q_1), (0, .ref b), (1, .int shift)]) hx hb d_I_ofBox_34 rfl hl (by decide) rfl (fun ls hl => ?_)
    refine lv_aload_n hx hb d_I_ofBox_35 rfl (lv_at hl 0 rfl) ?_
    refine lv_iload_n hx hb d_I_ofBox_36 rfl (lv_at hl 2 rfl) ?_
    refine pf_I_57 cx hZ hS hc_13 (Nat.le_of_ble_eq_true rfl) d_I_ofBox_37 (fun w_14 H locs hw_15 hZ hS => ?_)
    have hk_16 : w_14 b = some (.inr (4, [.ref li, .ref sw, .int (f 0), .int (f 1), .int (f 2), .int (f 3), .int (f 4)])) := up_ne hw_15 hk_11 (z_ne hk_11 hc_13 (by simp))
    have hk_17 : w_14 li = some (.inr (2, [.int (zi vt), .ref al])) := up_ne hw_15 hk_12 (z_ne hk_12 hc_13 (by simp))
    have hc_18 : w_14 q_1 = some (.inr (1, [.int 2, .int (f 2), .int (f 3), .int (f 4), .int 0, .int 0, .int 0, .int 0, .int 0, .int shift, .int 0, .int 0])) := up_self hw_15
    refine lv_aload_n hx hb d_I_ofBox_40 rfl (lv_at hl 0 rfl) ?_
    refine lv_aload_n hx hb d_I_ofBox_41 rfl (lv_at hl 1 rfl) ?_
    refine gf_I_60 cx hZ hk_16 rfl d_I_ofBox_42 ?_
    refine pf_I_63 cx hZ hS hc_18 (Nat.le_of_ble_eq_true rfl) d_I_ofBox_45 (fun w_19 H locs hw_20 hZ hS => ?_)
    have hk_21 : w_19 b = some (.inr (4, [.ref li, .ref sw, .int (f 0), .int (f 1), .int (f 2), .int (f 3), .int (f 4)])) := up_ne hw_20 hk_16 (z_ne hk_16 hc_18 (by simp))
    have hk_22 : w_19 li = some (.inr (2, [.int (zi vt), .ref al])) := up_ne hw_20 hk_17 (z_ne hk_17 hc_18 (by simp))
    have hc_23 : w_19 q_1 = some (.inr (1, [.int 2, .int (f 2), .int (f 3), .int (f 4), .int 0, .int 0, .int 0, .int 0, .int 0, .int shift, .int (f 0), .int 0])) := up_self hw_20
    refine lv_aload_n hx hb d_I_ofBox_48 rfl (lv_at hl 0 rfl) ?_
    refine lv_aload_n hx hb d_I_ofBox_49 rfl (lv_at hl 1 rfl) ?_
    refine gf_I_64 cx hZ hk_21 rfl d_I_ofBox_50 ?_
    refine pf_I_67 cx hZ hS hc_23 (Nat.le_of_ble_eq_true rfl) d_I_ofBox_53 (fun w_24 H locs hw_25 hZ hS => ?_)
    have hk_26 : w_24 b = some (.inr (4, [.ref li, .ref sw, .int (f 0), .int (f 1), .int (f 2), .int (f 3), .int (f 4)])) := up_ne hw_25 hk_21 (z_ne hk_21 hc_23 (by simp))
    have hk_27 : w_24 li = some (.inr (2, [.int (zi vt), .ref al])) := up_ne hw_25 hk_22 (z_ne hk_22 hc_23 (by simp))
    have hc_28 : w_24 q_1 = some (.inr (1, [.int 2, .int (f 2), .int (f 3), .int (f 4), .int 0, .int 0, .int 0, .int 0, .int 0, .int shift, .int (f 0), .int (f 1)])) := up_self hw_25
    refine lv_aload_n hx hb d_I_ofBox_56 rfl (lv_at hl 0 rfl) ?_
    exact z_aret cx.1 cx.2.1 cx.rt cx.lk (by first | exact Or.inl ⟨_, rfl⟩ | exact Or.inr ⟨_, rfl⟩) (by first | exact Or.inl rfl | exact Or.inr ⟨_, rfl⟩) hS hZ ⟨(Nat.le_of_ble_eq_true rfl), (Nat.le_of_ble_eq_true rfl)⟩ d_I_ofBox_57 (⟨q_1, rfl, hq_4, by have ev := (zi_0 vt).mp c11; subst ev; rw [hw_25, hw_20, hw_15, hw_10, hw_3]; simp only [bx_uu]; rfl⟩)
  · refine lv_iconst (v := 3) hx hb d_I_ofBox_14 (by decide) ?_
    refine lv_goto (tgt := 19) hx hb d_I_ofBox_15 (by decide) ?_
    refine lv_aload_n hx hb d_I_ofBox_19 rfl (lv_at hl 0 rfl) ?_
    refine gf_I_54 cx hZ hk_5 rfl d_I_ofBox_20 ?_
    refine lv_aload_n hx hb d_I_ofBox_23 rfl (lv_at hl 0 rfl) ?_
    refine gf_I_55 cx hZ hk_5 rfl d_I_ofBox_24 ?_
    refine lv_aload_n hx hb d_I_ofBox_27 rfl (lv_at hl 0 rfl) ?_
    refine gf_I_56 cx hZ hk_5 rfl d_I_ofBox_28 ?_
    refine ip_I_24 (As := [.int 3, .int (f 2), .int (f 3), .int (f 4)]) (rest := [.ref q_1]) cx (c_I_init l G n0 e0 w_2 q_1 3 (f 2) (f 3) (f 4) hc_7) ⟨(Nat.le_of_ble_eq_true rfl), (Nat.le_of_ble_eq_true rfl)⟩ ⟨(Nat.le_of_ble_eq_true rfl), (Nat.le_of_ble_eq_true rfl)⟩ rfl hl.1 rfl (Nat.le_of_ble_eq_true rfl) d_I_ofBox_31 hZ hS (fun v w_29 H locs hp_30 hZ hS => ?_)
    obtain ⟨rfl, hw_31⟩ := hp_30
    have hk_32 : w_29 b = some (.inr (4, [.ref li, .ref sw, .int (f 0), .int (f 1), .int (f 2), .int (f 3), .int (f 4)])) := up_ne hw_31 hk_5 (z_ne hk_5 hc_7 (by simp))
    have hk_33 : w_29 li = some (.inr (2, [.int (zi vt), .ref al])) := up_ne hw_31 hk_6 (z_ne hk_6 hc_7 (by simp))
    have hc_34 : w_29 q_1 = some (.inr (1, [.int 3, .int (f 2), .int (f 3), .int (f 4), .int 0, .int 0, .int 0, .int 0, .int 0, .int 0, .int 0, .int 0])) := up_self hw_31
    refine W.eq (g2 := F0 m 34 ls [.ref q_1]) rfl ?_
    refine lv_astore_n (lv' := [(2, .ref q_1), (0, .ref b), (1, .int shift)]) hx hb d_I_ofBox_34 rfl hl (by decide) rfl (fun ls hl => ?_)
    refine lv_aload_n hx hb d_I_ofBox_35 rfl (lv_at hl 0 rfl) ?_
    refine lv_iload_n hx hb d_I_ofBox_36 rfl (lv_at hl 2 rfl) ?_
    refine pf_I_57 cx hZ hS hc_34 (Nat.le_of_ble_eq_true rfl) d_I_ofBox_37 (fun w_35 H locs hw_36 hZ hS => ?_)
    have hk_37 : w_35 b = some (.inr (4, [.ref li, .ref sw, .int (f 0), .int (f 1), .int (f 2), .int (f 3), .int (f 4)])) := up_ne hw_36 hk_32 (z_ne hk_32 hc_34 (by simp))
    have hk_38 : w_35 li = some (.inr (2, [.int (zi vt), .ref al])) := up_ne hw_36 hk_33 (z_ne hk_33 hc_34 (by simp))
    have hc_39 : w_35 q_1 = some (.inr (1, [.int 3, .int (f 2), .int (f 3), .int (f 4), .int 0, .int 0, .int 0, .int 0, .int 0, .int shift, .int 0, .int 0])) := up_self hw_36
    refine lv_aload_n hx hb d_I_ofBox_40 rfl (lv_at hl 0 rfl) ?_
    refine lv_aload_n hx hb d_I_ofBox_41 rfl (lv_at hl 1 rfl) ?_
    refine gf_I_60 cx hZ hk_37 rfl d_I_ofBox_42 ?_
    refine pf_I_63 cx hZ hS hc_39 (Nat.le_of_ble_eq_true rfl) d_I_ofBox_45 (fun w_40 H locs hw_41 hZ hS => ?_)
    have hk_42 : w_40 b = some (.inr (4, [.ref li, .ref sw, .int (f 0), .int (f 1), .int (f 2), .int (f 3), .int (f 4)])) := up_ne hw_41 hk_37 (z_ne hk_37 hc_39 (by simp))
    have hk_43 : w_40 li = some (.inr (2, [.int (zi vt), .ref al])) := up_ne hw_41 hk_38 (z_ne hk_38 hc_39 (by simp))
    have hc_44 : w_40 q_1 = some (.inr (1, [.int 3, .int (f 2), .int (f 3), .int (f 4), .int 0, .int 0, .int 0, .int 0, .int 0, .int shift, .int (f 0), .int 0])) := up_self hw_41
    refine lv_aload_n hx hb d_I_ofBox_48 rfl (lv_at hl 0 rfl) ?_
    refine lv_aload_n hx hb d_I_ofBox_49 rfl (lv_at hl 1 rfl) ?_
    refine gf_I_64 cx hZ hk_42 rfl d_I_ofBox_50 ?_
    refine pf_I_67 cx hZ hS hc_44 (Nat.le_of_ble_eq_true rfl) d_I_ofBox_53 (fun w_45 H locs hw_46 hZ hS => ?_)
    have hk_47 : w_45 b = some (.inr (4, [.ref li, .ref sw, .int (f 0), .int (f 1), .int (f 2), .int (f 3), .int (f 4)])) := up_ne hw_46 hk_42 (z_ne hk_42 hc_44 (by simp))
    have hk_48 : w_45 li = some (.inr (2, [.int (zi vt), .ref al])) := up_ne hw_46 hk_43 (z_ne hk_43 hc_44 (by simp))
    have hc_49 : w_45 q_1 = some (.inr (1, [.int 3, .int (f 2), .int (f 3), .int (f 4), .int 0, .int 0, .int 0, .int 0, .int 0, .int shift, .int (f 0), .int (f 1)])) := up_self hw_46
    refine lv_aload_n hx hb d_I_ofBox_56 rfl (lv_at hl 0 rfl) ?_
    exact z_aret cx.1 cx.2.1 cx.rt cx.lk (by first | exact Or.inl ⟨_, rfl⟩ | exact Or.inr ⟨_, rfl⟩) (by first | exact Or.inl rfl | exact Or.inr ⟨_, rfl⟩) hS hZ ⟨(Nat.le_of_ble_eq_true rfl), (Nat.le_of_ble_eq_true rfl)⟩ d_I_ofBox_57 (⟨q_1, rfl, hq_4, by have ev := (zi_n0 vt).mp c11; subst ev; rw [hw_46, hw_41, hw_36, hw_31, hw_3]; simp only [bx_uu]; rfl⟩)
end
section
abbrev fA (mod : Int32) (arr : Value) (n : Int32) : List Value := [.int mod, arr, .int n]
abbrev fM (na gr he de : Int64) (st : Value) (sh : Int64) (wi ne : Int32) : List Value := [.long na, .long gr, .long he, .long de, st, .long sh, .int wi, .int ne]
/-- old cells outside S stay, none goes -/
def Fr (S : List Nat) (w w1 : zw) : Prop := (∀ b, b ∉ S → w b ≠ none → w1 b = w b) ∧ ∀ b, w1 b = none → w b = none
theorem Fr.rf {S : List Nat} {w : zw} : Fr S w w := ⟨fun _ _ _ => rfl, fun _ h => h⟩
theorem Fr.put {S : List Nat} {w w1 w2 : zw} {a : Nat} {e : va_E} (h : Fr S w w1) (hw : w2 = va_up w1 a (some e)) (ha : a ∈ S ∨ w a = none) : Fr S w w2 := by
  subst hw
  refine ⟨fun b hb hn => ?_, fun b hb => ?_⟩
  · by_cases hba : b = a
    · subst hba
      rcases ha with h1 | h1
      · exact absurd h1 hb
      · exact absurd h1 hn
    · rw [va_up_ne _ _ hba]; exact h.1 b hb hn
  · by_cases hba : b = a
    · subst hba; rw [va_up_self] at hb; cases hb
    · rw [va_up_ne _ _ hba] at hb; exact h.2 b hb
theorem Fr.call {S T : List Nat} {w w1 w2 : zw} (h : Fr S w w1) (h2 : Fr T w1 w2) (hT : ∀ t ∈ T, t ∈ S ∨ w t = none) : Fr S w w2 := by
  refine ⟨fun b hb hn => ?_, fun b hb => h.2 b (h2.2 b hb)⟩
  have e1 := h.1 b hb hn
  rw [← e1]
  refine h2.1 b (fun hbT => ?_) (by rw [e1]; exact hn)
  rcases hT b hbT with q | q
  · exact hb q
  · exact hn q
theorem Fr.keep {S : List Nat} {w w1 : zw} (h : Fr S w w1) {b : Nat} {x : va_E} (hb : w b = some x) (hn : b ∉ S) : w1 b = some x := by rw [h.1 b hn (by rw [hb]; exact fun q => by cases q)]; exact hb
theorem Fr.sub {S T : List Nat} {w w1 : zw} (h : Fr S w w1) (hT : ∀ t ∈ S, t ∈ T) : Fr T w w1 := ⟨fun b hb hn => h.1 b (fun q => hb (hT b q)) hn, h.2⟩
set_option maxHeartbeats 4000000 in
set_option maxRecDepth 100000 in
theorem c_Ac_init (l : Launch) (G : zG) (n0 e0 : Nat) (w : zw) (a : Nat) : Ct l G n0 e0 y_Ac_init b_Ac_init 1 (Option.none : Option FieldType) ({ frames := 1, cells := 0, slots := 0, locals := 12 }) [.ref a] w (fun v w1 => v = none ∧ w1 = w) := by
  refine z_ct (by decide) (Nat.le_of_ble_eq_true rfl) ?_
  intro p e s m below meth c ls cx hnm hZ hS hl
  have hx := cx.1
  have hb := cx.2.1
  have hl : lv_has ls 1 [(0, .ref a)] := hl
  refine lv_aload_n hx hb d_Ac_init_0 rfl (lv_at hl 0 rfl) ?_
  refine oi_Ac_1 cx hl.1 d_Ac_init_1 (Nat.le_of_ble_eq_true rfl) (Nat.le_of_ble_eq_true rfl) ?_
  refine W.eq (g2 := F0 m 4 ls []) rfl ?_
  exact z_vret cx.1 cx.2.1 cx.rt cx.lk hS hZ ⟨(Nat.le_of_ble_eq_true rfl), (Nat.le_of_ble_eq_true rfl)⟩ d_Ac_init_4 (⟨rfl, rfl⟩)
set_option maxHeartbeats 4000000 in
set_option maxRecDepth 100000 in
theorem c_Al_init (l : Launch) (G : zG) (n0 e0 : Nat) (w : zw) (a : Nat) (x : Int32) (arr : Value) (n : Int32) (ha : w a = some (.inr (0, fA x arr n))) : Ct l G n0 e0 y_Al_init b_Al_init 1 (Option.none : Option FieldType) ({ frames := 2, cells := 0, slots := 0, locals := 32 }) [.ref a] w (fun v w1 => v = none ∧ w1 = va_up w a (some (.inr (0, fA 0 arr n)))) := by
  refine z_ct (by decide) (Nat.le_of_ble_eq_true rfl) ?_
  intro p e s m below meth c ls cx hnm hZ hS hl
  have hx := cx.1
  have hb := cx.2.1
  have hl : lv_has ls 1 [(0, .ref a)] := hl
  refine lv_aload_n hx hb d_Al_init_0 rfl (lv_at hl 0 rfl) ?_
  refine ip_Al_1 (As := []) (rest := []) cx (c_Ac_init l G n0 e0 w a) ⟨(Nat.le_of_ble_eq_true rfl), (Nat.le_of_ble_eq_true rfl)⟩ ⟨(Nat.le_of_ble_eq_true rfl), (Nat.le_of_ble_eq_true rfl)⟩ rfl hl.1 rfl (Nat.le_of_ble_eq_true rfl) d_Al_init_1 hZ hS (fun v w_1 H locs hp_2 hZ hS => ?_)
  obtain ⟨rfl, hq⟩ := hp_2
  subst w_1
  refine W.eq (g2 := F0 m 4 ls []) rfl ?_
  refine lv_aload_n hx hb d_Al_init_4 rfl (lv_at hl 0 rfl) ?_
  refine lv_iconst (v := 0) hx hb d_Al_init_5 (by decide) ?_
  refine pf_Al_7 cx hZ hS ha (Nat.le_of_ble_eq_true rfl) d_Al_init_6 (fun w_3 H locs hw_4 hZ hS => ?_)
  have hc_5 : w_3 a = some (.inr (0, [.int 0, arr, .int n])) := up_self hw_4
  exact z_vret cx.1 cx.2.1 cx.rt cx.lk hS hZ ⟨(Nat.le_of_ble_eq_true rfl), (Nat.le_of_ble_eq_true rfl)⟩ d_Al_init_9 (⟨rfl, by rw [hw_4]; first | done | (simp only [bx_uu]; done) | (simp only [bx_uu]; rfl) | rfl⟩)
set_option maxHeartbeats 4000000 in
set_option maxRecDepth 100000 in
theorem c_A_init (l : Launch) (G : zG) (n0 e0 : Nat) (w : zw) (a : Nat) (ha : w a = some (.inr (0, fA 0 .null 0))) : Ct l G n0 e0 y_A_init b_A_init 1 (Option.none : Option FieldType) ({ frames := 3, cells := 0, slots := 0, locals := 52 }) [.ref a] w (fun v w1 => v = none ∧ w1 = va_up w a (some (.inr (0, fA 0 (.ref e0) 0)))) := by
  refine z_ct (by decide) (Nat.le_of_ble_eq_true rfl) ?_
  intro p e s m below meth c ls cx hnm hZ hS hl
  have hx := cx.1
  have hb := cx.2.1
  have hl : lv_has ls 1 [(0, .ref a)] := hl
  refine lv_aload_n hx hb d_A_init_0 rfl (lv_at hl 0 rfl) ?_
  refine ip_A_1 (As := []) (rest := []) cx (c_Al_init l G n0 e0 w a 0 .null 0 ha) ⟨(Nat.le_of_ble_eq_true rfl), (Nat.le_of_ble_eq_true rfl)⟩ ⟨(Nat.le_of_ble_eq_true rfl), (Nat.le_of_ble_eq_true rfl)⟩ rfl hl.1 rfl (Nat.le_of_ble_eq_true rfl) d_A_init_1 hZ hS (fun v w_1 H locs hp_2 hZ hS => ?_)
  obtain ⟨rfl, hw_3⟩ := hp_2
  have hc_4 : w_1 a = some (.inr (0, [.int 0, .null, .int 0])) := up_self hw_3
  refine W.eq (g2 := F0 m 4 ls []) rfl ?_
  refine lv_aload_n hx hb d_A_init_4 rfl (lv_at hl 0 rfl) ?_
  refine gs_A_39 cx hS d_A_init_5 ?_
  refine pf_A_9 cx hZ hS hc_4 (Nat.le_of_ble_eq_true rfl) d_A_init_8 (fun w_5 H locs hw_6 hZ hS => ?_)
  have hc_7 : w_5 a = some (.inr (0, [.int 0, .ref e0, .int 0])) := up_self hw_6
  exact z_vret cx.1 cx.2.1 cx.rt cx.lk hS hZ ⟨(Nat.le_of_ble_eq_true rfl), (Nat.le_of_ble_eq_true rfl)⟩ d_A_init_11 (⟨rfl, by rw [hw_6, hw_3]; first | done | (simp only [bx_uu]; done) | (simp only [bx_uu]; rfl) | rfl⟩)
set_option maxHeartbeats 4000000 in
set_option maxRecDepth 100000 in
theorem c_A_size (l : Launch) (G : zG) (n0 e0 : Nat) (w : zw) (a : Nat) (x : Int32) (arr : Value) (n : Int32) (ha : w a = some (.inr (0, fA x arr n))) : Ct l G n0 e0 y_A_size b_A_size 1 (Option.some FieldType.int) ({ frames := 0, cells := 0, slots := 0, locals := 0 }) [.ref a] w (fun v w1 => v = some (.int n) ∧ w1 = w) := by
  refine z_ct (by decide) (Nat.le_of_ble_eq_true rfl) ?_
  intro p e s m below meth c ls cx hnm hZ hS hl
  have hx := cx.1
  have hb := cx.2.1
  have hl : lv_has ls 1 [(0, .ref a)] := hl
  refine lv_aload_n hx hb d_A_size_0 rfl (lv_at hl 0 rfl) ?_
  refine gf_A_48 cx hZ ha rfl d_A_size_1 ?_
  exact z_iret cx.1 cx.2.1 cx.rt cx.lk hS hZ ⟨(Nat.le_of_ble_eq_true rfl), (Nat.le_of_ble_eq_true rfl)⟩ d_A_size_4 (⟨rfl, rfl⟩)
set_option maxHeartbeats 4000000 in
set_option maxRecDepth 100000 in
theorem c_L_init (l : Launch) (G : zG) (n0 e0 : Nat) (w : zw) (a : Nat) (vt : Bool) (ha : w a = some (.inr (2, [.int 0, .null]))) : Ct l G n0 e0 y_L_init b_L_init 2 (Option.none : Option FieldType) ({ frames := 4, cells := 1, slots := 3, locals := 72 }) [.ref a, .int (zi vt)] w (fun v w1 => ∃ q, v = none ∧ w q = none ∧ w1 q = some (.inr (0, fA 0 (.ref e0) 0)) ∧ w1 a = some (.inr (2, [.int (zi vt), .ref q])) ∧ Fr [a] w w1) := by
  refine z_ct (by decide) (Nat.le_of_ble_eq_true rfl) ?_
  intro p e s m below meth c ls cx hnm hZ hS hl
  have hx := cx.1
  have hb := cx.2.1
  have hl : lv_has ls 2 [(0, .ref a), (1, .int (zi vt))] := hl
  have hF : Fr [a] w w := Fr.rf
  refine lv_aload_n hx hb d_L_init_0 rfl (lv_at hl 0 rfl) ?_
  refine oi_L_1 cx hl.1 d_L_init_1 (Nat.le_of_ble_eq_true rfl) (Nat.le_of_ble_eq_true rfl) ?_
  refine W.eq (g2 := F0 m 4 ls []) rfl ?_
  refine lv_aload_n hx hb d_L_init_4 rfl (lv_at hl 0 rfl) ?_
  refine lv_iload_n hx hb d_L_init_5 rfl (lv_at hl 1 rfl) ?_
  refine pf_L_7 cx hnm (zi_nar vt) (zi_fit vt) hZ hS ha (Nat.le_of_ble_eq_true rfl) d_L_init_6 (fun w_1 H locs hw_2 hZ hS => ?_)
  have hF := hF.put hw_2 (Or.inl (by simp))
  have hc_3 : w_1 a = some (.inr (2, [.int (zi vt), .null])) := up_self hw_2
  refine lv_aload_n hx hb d_L_init_9 rfl (lv_at hl 0 rfl) ?_
  refine nw_L_13_o cx hZ hS (Nat.le_of_ble_eq_true rfl) (Nat.le_of_ble_eq_true rfl) d_L_init_10 (fun q_4 w_5 H hq_7 hw_6 hZ hS => ?_)
  have hk_8 : w_5 a = some (.inr (2, [.int (zi vt), .null])) := up_ne hw_6 hc_3 (z_neN hc_3 hq_7)
  have hn_9 := hF.2 _ hq_7
  have hF := hF.put hw_6 (Or.inr hn_9)
  have hc_10 : w_5 q_4 = some (.inr (0, [.int 0, .null, .int 0])) := up_self hw_6
  refine lv_dup hx hb d_L_init_13 rfl ?_
  refine ip_L_15 (As := []) (rest := [.ref q_4, .ref a]) cx (c_A_init l G n0 e0 w_5 q_4 hc_10) ⟨(Nat.le_of_ble_eq_true rfl), (Nat.le_of_ble_eq_true rfl)⟩ ⟨(Nat.le_of_ble_eq_true rfl), (Nat.le_of_ble_eq_true rfl)⟩ rfl hl.1 rfl (Nat.le_of_ble_eq_true rfl) d_L_init_14 hZ hS (fun v w_11 H locs hp_12 hZ hS => ?_)
  obtain ⟨rfl, hw_13⟩ := hp_12
  have hk_14 : w_11 a = some (.inr (2, [.int (zi vt), .null])) := up_ne hw_13 hk_8 (z_neN ha hn_9)
  have hF := hF.put hw_13 (Or.inr hn_9)
  have hc_15 : w_11 q_4 = some (.inr (0, [.int 0, .ref e0, .int 0])) := up_self hw_13
  refine W.eq (g2 := F0 m 17 ls [.ref q_4, .ref a]) rfl ?_
  refine pf_L_16 cx hnm hZ hS hk_14 (Nat.le_of_ble_eq_true rfl) d_L_init_17 (fun w_16 H locs hw_17 hZ hS => ?_)
  have hk_18 : w_16 q_4 = some (.inr (0, [.int 0, .ref e0, .int 0])) := up_ne hw_17 hc_15 (Ne.symm (z_neN ha hn_9))
  have hF := hF.put hw_17 (Or.inl (by simp))
  have hc_19 : w_16 a = some (.inr (2, [.int (zi vt), .ref q_4])) := up_self hw_17
  exact z_vret cx.1 cx.2.1 cx.rt cx.lk hS hZ ⟨(Nat.le_of_ble_eq_true rfl), (Nat.le_of_ble_eq_true rfl)⟩ d_L_init_20 (⟨q_4, rfl, hn_9, hk_18, hc_19, hF⟩)
set_option maxHeartbeats 4000000 in
set_option maxRecDepth 100000 in
theorem c_M_init (l : Launch) (G : zG) (n0 e0 : Nat) (w : zw) (a : Nat) (ha : w a = some (.inr (3, fM 0 0 0 0 .null 0 0 0))) : Ct l G n0 e0 y_M_init b_M_init 1 (Option.none : Option FieldType) ({ frames := 1, cells := 1, slots := 4, locals := 12 }) [.ref a] w (fun v w1 => ∃ q, v = none ∧ w q = none ∧ w1 q = some (.inl (G.2 1, 4, .inr (.inl (fun _ => 0)))) ∧ w1 a = some (.inr (3, fM 0 0 0 0 (.ref q) 0 0 0)) ∧ Fr [a] w w1) := by
  refine z_ct (by decide) (Nat.le_of_ble_eq_true rfl) ?_
  intro p e s m below meth c ls cx hnm hZ hS hl
  have hx := cx.1
  have hb := cx.2.1
  have hl : lv_has ls 1 [(0, .ref a)] := hl
  have hF : Fr [a] w w := Fr.rf
  refine lv_aload_n hx hb d_M_init_0 rfl (lv_at hl 0 rfl) ?_
  refine oi_M_3 cx hl.1 d_M_init_1 (Nat.le_of_ble_eq_true rfl) (Nat.le_of_ble_eq_true rfl) ?_
  refine W.eq (g2 := F0 m 4 ls []) rfl ?_
  refine lv_aload_n hx hb d_M_init_4 rfl (lv_at hl 0 rfl) ?_
  refine lv_iconst (v := 4) hx hb d_M_init_5 (by decide) ?_
  refine new_l (N := 4) cx hZ hS (by decide) (by decide) (Nat.le_of_ble_eq_true rfl) (Nat.le_of_ble_eq_true rfl) (Nat.le_of_ble_eq_true rfl) d_M_init_6 (fun q_1 w_2 H hq_4 hw_3 hZ hS => ?_)
  have hk_5 : w_2 a = some (.inr (3, [.long 0, .long 0, .long 0, .long 0, .null, .long 0, .int 0, .int 0])) := up_ne hw_3 ha (z_neN ha hq_4)
  have hn_6 := hF.2 _ hq_4
  have hF := hF.put hw_3 (Or.inr hn_6)
  have hc_7 : w_2 q_1 = some (.inl (G.2 1, 4, .inr (.inl (fun _ => 0)))) := up_self hw_3
  refine pf_M_9 cx hnm hZ hS hk_5 (Nat.le_of_ble_eq_true rfl) d_M_init_8 (fun w_8 H locs hw_9 hZ hS => ?_)
  have hk_10 : w_8 q_1 = some (.inl (G.2 1, 4, .inr (.inl (fun _ => 0)))) := up_ne hw_9 hc_7 ((Ne.symm (z_neN ha hn_6)))
  have hF := hF.put hw_9 (Or.inl (by simp))
  have hc_11 : w_8 a = some (.inr (3, [.long 0, .long 0, .long 0, .long 0, .ref q_1, .long 0, .int 0, .int 0])) := up_self hw_9
  exact z_vret cx.1 cx.2.1 cx.rt cx.lk hS hZ ⟨(Nat.le_of_ble_eq_true rfl), (Nat.le_of_ble_eq_true rfl)⟩ d_M_init_11 (⟨q_1, rfl, hn_6, hk_10, hc_11, hF⟩)
set_option maxHeartbeats 4000000 in
set_option maxRecDepth 100000 in
theorem c_D_init (l : Launch) (G : zG) (n0 e0 : Nat) (w : zw) (a : Nat) (ha : w a = some (.inr (5, [.null, .int 0, .null, .int 0]))) : Ct l G n0 e0 y_D_init b_D_init 1 (Option.none : Option FieldType) ({ frames := 1, cells := 2, slots := 116, locals := 12 }) [.ref a] w (fun v w1 => ∃ q r, v = none ∧ w q = none ∧ w r = none ∧ w1 q = some (.inl (G.2 4, 100, .inr (.inr (.inr (.inr (fun _ => none)))))) ∧ w1 r = some (.inl (G.2 5, 16, .inr (.inr (.inr (.inr (fun _ => none)))))) ∧ w1 a = some (.inr (5, [.ref q, .int 0, .ref r, .int 0])) ∧ Fr [a] w w1) := by
  refine z_ct (by decide) (Nat.le_of_ble_eq_true rfl) ?_
  intro p e s m below meth c ls cx hnm hZ hS hl
  have hx := cx.1
  have hb := cx.2.1
  have hl : lv_has ls 1 [(0, .ref a)] := hl
  have hF : Fr [a] w w := Fr.rf
  refine lv_aload_n hx hb d_D_init_0 rfl (lv_at hl 0 rfl) ?_
  refine oi_D_1 cx hl.1 d_D_init_1 (Nat.le_of_ble_eq_true rfl) (Nat.le_of_ble_eq_true rfl) ?_
  refine W.eq (g2 := F0 m 4 ls []) rfl ?_
  refine lv_aload_n hx hb d_D_init_4 rfl (lv_at hl 0 rfl) ?_
  refine lv_bipush (v := 100) hx hb d_D_init_5 (by decide) ?_
  refine nq_D_9 (N := 100) cx hZ hS (by decide) (by decide) (Nat.le_of_ble_eq_true rfl) (Nat.le_of_ble_eq_true rfl) (Nat.le_of_ble_eq_true rfl) d_D_init_7 (fun q_1 w_2 H hq_4 hw_3 hZ hS => ?_)
  have hk_5 : w_2 a = some (.inr (5, [.null, .int 0, .null, .int 0])) := up_ne hw_3 ha (z_neN ha hq_4)
  have hn_6 := hF.2 _ hq_4
  have hF := hF.put hw_3 (Or.inr hn_6)
  have hc_7 : w_2 q_1 = some (.inl (G.2 4, 100, .inr (.inr (.inr (.inr (fun _ => none)))))) := up_self hw_3
  refine pf_D_11 cx hnm hZ hS hk_5 (Nat.le_of_ble_eq_true rfl) d_D_init_10 (fun w_8 H locs hw_9 hZ hS => ?_)
  have hk_10 : w_8 q_1 = some (.inl (G.2 4, 100, .inr (.inr (.inr (.inr (fun _ => none)))))) := up_ne hw_9 hc_7 ((Ne.symm (z_neN ha hn_6)))
  have hF := hF.put hw_9 (Or.inl (by simp))
  have hc_11 : w_8 a = some (.inr (5, [.ref q_1, .int 0, .null, .int 0])) := up_self hw_9
  refine lv_aload_n hx hb d_D_init_13 rfl (lv_at hl 0 rfl) ?_
  refine lv_bipush (v := 16) hx hb d_D_init_14 (by decide) ?_
  refine nq_D_15 (N := 16) cx hZ hS (by decide) (by decide) (Nat.le_of_ble_eq_true rfl) (Nat.le_of_ble_eq_true rfl) (Nat.le_of_ble_eq_true rfl) d_D_init_16 (fun q_12 w_13 H hq_15 hw_14 hZ hS => ?_)
  have hk_16 : w_13 a = some (.inr (5, [.ref q_1, .int 0, .null, .int 0])) := up_ne hw_14 hc_11 (z_neN hc_11 hq_15)
  have hk_17 : w_13 q_1 = some (.inl (G.2 4, 100, .inr (.inr (.inr (.inr (fun _ => none)))))) := up_ne hw_14 hk_10 (z_neN hk_10 hq_15)
  have hn_18 := hF.2 _ hq_15
  have hF := hF.put hw_14 (Or.inr hn_18)
  have hc_19 : w_13 q_12 = some (.inl (G.2 5, 16, .inr (.inr (.inr (.inr (fun _ => none)))))) := up_self hw_14
  refine pf_D_17 cx hnm hZ hS hk_16 (Nat.le_of_ble_eq_true rfl) d_D_init_19 (fun w_20 H locs hw_21 hZ hS => ?_)
  have hk_22 : w_20 q_1 = some (.inl (G.2 4, 100, .inr (.inr (.inr (.inr (fun _ => none)))))) := up_ne hw_21 hk_17 ((Ne.symm (z_neN ha hn_6)))
  have hk_23 : w_20 q_12 = some (.inl (G.2 5, 16, .inr (.inr (.inr (.inr (fun _ => none)))))) := up_ne hw_21 hc_19 ((Ne.symm (z_neN ha hn_18)))
  have hF := hF.put hw_21 (Or.inl (by simp))
  have hc_24 : w_20 a = some (.inr (5, [.ref q_1, .int 0, .ref q_12, .int 0])) := up_self hw_21
  exact z_vret cx.1 cx.2.1 cx.rt cx.lk hS hZ ⟨(Nat.le_of_ble_eq_true rfl), (Nat.le_of_ble_eq_true rfl)⟩ d_D_init_22 (⟨q_1, q_12, rfl, hn_6, hn_18, hk_22, hk_23, hc_24, hF⟩)
set_option maxHeartbeats 4000000 in
set_option maxRecDepth 100000 in
theorem c_tellB (l : Launch) (G : zG) (n0 e0 : Nat) (w : zw) (b li sw al ar : Nat) (f : Nat → Int32) (vt : Bool) (md nn what : Int32) (hb0 : w b = some (.inr (4, fB li sw f))) (hli : w li = some (.inr (2, [.int (zi vt), .ref al]))) (ha : w al = some (.inr (0, fA md (.ref ar) nn))) : Ct l G n0 e0 y_B_tell b_B_tell 2 (Option.some FieldType.int) ({ frames := 1, cells := 0, slots := 0, locals := 20 }) [.ref b, .int what] w (fun v w1 => v = some (.int (tellB vt nn f what)) ∧ w1 = w) := by
  refine z_ct (by decide) (Nat.le_of_ble_eq_true rfl) ?_
  intro p e s m below meth c ls cx hnm hZ hS hl
  have hx := cx.1
  have hb := cx.2.1
  have hl : lv_has ls 2 [(0, .ref b), (1, .int what)] := hl
  refine lv_iload_n hx hb d_B_tell_0 rfl (lv_at hl 1 rfl) ?_
  by_cases e1_0 : what = 0
  · subst e1_0
    refine lv_tableIn (tgt := 36) (off := 35) hx hb d_B_tell_1 (by decide) (by decide) (by decide) (by decide) ?_
    refine lv_aload_n hx hb d_B_tell_36 rfl (lv_at hl 0 rfl) ?_
    refine gf_B_7 cx hZ hb0 rfl d_B_tell_37 ?_
    refine gf_B_40 cx hZ hli rfl d_B_tell_40 ?_
    refine lv_if_eq (tgt := 50) hx hb d_B_tell_43 (by decide) (fun c43 => ?_) (fun c43 => ?_)
    · refine lv_iconst (v := 1) hx hb d_B_tell_50 (by decide) ?_
      exact z_iret cx.1 cx.2.1 cx.rt cx.lk hS hZ ⟨(Nat.le_of_ble_eq_true rfl), (Nat.le_of_ble_eq_true rfl)⟩ d_B_tell_51 (⟨by simp_all [tellB, zi_0, zi_n0], rfl⟩)
    · refine lv_iconst (v := 2) hx hb d_B_tell_46 (by decide) ?_
      refine lv_goto (tgt := 51) hx hb d_B_tell_47 (by decide) ?_
      exact z_iret cx.1 cx.2.1 cx.rt cx.lk hS hZ ⟨(Nat.le_of_ble_eq_true rfl), (Nat.le_of_ble_eq_true rfl)⟩ d_B_tell_51 (⟨by simp_all [tellB, zi_0, zi_n0], rfl⟩)
  · skip
    by_cases e1_1 : what = 1
    · subst e1_1
      refine lv_tableIn (tgt := 52) (off := 51) hx hb d_B_tell_1 (by decide) (by decide) (by decide) (by decide) ?_
      refine lv_aload_n hx hb d_B_tell_52 rfl (lv_at hl 0 rfl) ?_
      refine gf_B_49 cx hZ hb0 rfl d_B_tell_53 ?_
      exact z_iret cx.1 cx.2.1 cx.rt cx.lk hS hZ ⟨(Nat.le_of_ble_eq_true rfl), (Nat.le_of_ble_eq_true rfl)⟩ d_B_tell_56 (⟨by simp_all [tellB, zi_0, zi_n0], rfl⟩)
    · skip
      by_cases e1_2 : what = 2
      · subst e1_2
        refine lv_tableIn (tgt := 57) (off := 56) hx hb d_B_tell_1 (by decide) (by decide) (by decide) (by decide) ?_
        refine lv_aload_n hx hb d_B_tell_57 rfl (lv_at hl 0 rfl) ?_
        refine gf_B_55 cx hZ hb0 rfl d_B_tell_58 ?_
        exact z_iret cx.1 cx.2.1 cx.rt cx.lk hS hZ ⟨(Nat.le_of_ble_eq_true rfl), (Nat.le_of_ble_eq_true rfl)⟩ d_B_tell_61 (⟨by simp_all [tellB, zi_0, zi_n0], rfl⟩)
      · skip
        by_cases e1_3 : what = 3
        · subst e1_3
          refine lv_tableIn (tgt := 62) (off := 61) hx hb d_B_tell_1 (by decide) (by decide) (by decide) (by decide) ?_
          refine lv_aload_n hx hb d_B_tell_62 rfl (lv_at hl 0 rfl) ?_
          refine gf_B_60 cx hZ hb0 rfl d_B_tell_63 ?_
          exact z_iret cx.1 cx.2.1 cx.rt cx.lk hS hZ ⟨(Nat.le_of_ble_eq_true rfl), (Nat.le_of_ble_eq_true rfl)⟩ d_B_tell_66 (⟨by simp_all [tellB, zi_0, zi_n0], rfl⟩)
        · skip
          by_cases e1_4 : what = 4
          · subst e1_4
            refine lv_tableIn (tgt := 67) (off := 66) hx hb d_B_tell_1 (by decide) (by decide) (by decide) (by decide) ?_
            refine lv_aload_n hx hb d_B_tell_67 rfl (lv_at hl 0 rfl) ?_
            refine gf_B_7 cx hZ hb0 rfl d_B_tell_68 ?_
            refine gf_B_62 cx hZ hli rfl d_B_tell_71 ?_
            refine iv_B_66 (As := []) (rest := []) cx (c_A_size l G n0 e0 w al md (.ref ar) nn ha) ha ⟨(Nat.le_of_ble_eq_true rfl), (Nat.le_of_ble_eq_true rfl)⟩ ⟨(Nat.le_of_ble_eq_true rfl), (Nat.le_of_ble_eq_true rfl)⟩ rfl hl.1 rfl (Nat.le_of_ble_eq_true rfl) d_B_tell_74 hZ hS (fun v w_1 H locs hp_2 hZ hS => ?_)
            obtain ⟨rfl, hq⟩ := hp_2
            subst w_1
            refine W.eq (g2 := F0 m 77 ls [.int nn]) rfl ?_
            exact z_iret cx.1 cx.2.1 cx.rt cx.lk hS hZ ⟨(Nat.le_of_ble_eq_true rfl), (Nat.le_of_ble_eq_true rfl)⟩ d_B_tell_77 (⟨by simp_all [tellB, zi_0, zi_n0], rfl⟩)
          · skip
            have te1_0 := lv_neT e1_0 (show (0 : Int32).toInt = 0 from by decide)
            have te1_1 := lv_neT e1_1 (show (1 : Int32).toInt = 1 from by decide)
            have te1_2 := lv_neT e1_2 (show (2 : Int32).toInt = 2 from by decide)
            have te1_3 := lv_neT e1_3 (show (3 : Int32).toInt = 3 from by decide)
            have te1_4 := lv_neT e1_4 (show (4 : Int32).toInt = 4 from by decide)
            refine lv_tableOut (tgt := 78) hx hb d_B_tell_1 (by omega) (by decide) ?_
            refine lv_aload_n hx hb d_B_tell_78 rfl (lv_at hl 0 rfl) ?_
            refine gf_B_33 cx hZ hb0 rfl d_B_tell_79 ?_
            exact z_iret cx.1 cx.2.1 cx.rt cx.lk hS hZ ⟨(Nat.le_of_ble_eq_true rfl), (Nat.le_of_ble_eq_true rfl)⟩ d_B_tell_82 (⟨by simp_all [tellB, zi_0, zi_n0], rfl⟩)
end
section
theorem dz_t {q : Prop} [Decidable q] (h : ¬ zi (decide q) = 0) : q := of_decide_eq_true ((zi_n0 _).mp h)
theorem dz_f {q : Prop} [Decidable q] (h : zi (decide q) = 0) : ¬ q := of_decide_eq_false ((zi_0 _).mp h)
def mxL (x y : Int64) : Int64 := if y < x then x else y
def acH (f : Nat → Int32) (he : Int64) : Int64 := if f 4 &&& 2 ≠ 0 then he else mxL he ((f 2).toInt64 - (f 9).toInt64)
def acD (f : Nat → Int32) (de : Int64) : Int64 := if f 4 &&& 4 ≠ 0 then de else mxL de ((f 3).toInt64 + (f 9).toInt64)
def isBR (f : Nat → Int32) : Prop := f 0 = 2 ∨ f 0 = 3 ∨ f 0 = 4
def dwN (f : Nat → Int32) (na de : Int64) : Int64 := na + de + (if f 0 = 2 ∨ f 0 = 3 ∨ f 0 = 4 then f 2 else f 1).toInt64
def dwD (f : Nat → Int32) : Int64 := if f 0 = 2 ∨ f 0 = 3 ∨ f 0 = 4 then (f 3).toInt64 else 0
def dwG (f : Nat → Int32) (gr : Int64) : Int64 := if f 0 = 2 ∨ f 0 = 3 ∨ f 0 = 4 then (if f 4 &&& 1 ≠ 0 then gr else mxL gr ((f 1).toInt64 + (f 9).toInt64)) else gr
def hiO (sf : Nat → Int64) : Int32 := if sf 3 ≠ 0 then 3 else if sf 2 ≠ 0 then 2 else if sf 1 ≠ 0 then 1 else 0
def canB (na gr he de sh : Int64) (sf : Nat → Int64) (ne : Int32) : Bool := szL (sf 0) && szL (sf 1) && szL (sf 2) && szL (sf 3) && szL na && szL sh && decide (ne < 100) && szL gr && szL he && szL de
theorem vin4 {x : Int32} (h : vp_in x 4) : ¬ (4 : Int32) ≤ x := by
  have h1 := vp_in_iff.mp h
  rw [Int32.le_iff_toInt_le]
  have h4 : (4 : Int32).toInt = 4 := by decide
  omega
set_option maxHeartbeats 4000000 in
set_option maxRecDepth 100000 in
theorem c_takeGlue (l : Launch) (G : zG) (n0 e0 : Nat) (w : zw) (a q : Nat) (na gr he de sh : Int64) (sf : Nat → Int64) (wi ne : Int32) (ha : w a = some (.inr (3, fM na gr he de (.ref q) sh wi ne))) (hq : w q = some (.inl (G.2 1, 4, .inr (.inl sf)))) (i : Nat) (f : Nat → Int32) (hi : w i = some (.inr (1, fI f))) (ho : vp_in (f 7) 4) : Ct l G n0 e0 y_M_takeGlueAndBoxes b_M_takeGlueAndBoxes 2 (Option.none : Option FieldType) ({ frames := 1, cells := 0, slots := 0, locals := 20 }) [.ref a, .ref i] w (fun v w1 => v = none ∧ w1 a = some (.inr (3, fM na gr he de (.ref q) (sh + (f 8).toInt64) (wi + (1 + f 10)) (if ne < f 11 then f 11 else ne))) ∧ w1 q = some (.inl (G.2 1, 4, .inr (.inl (vp_updL sf (f 7).toNatClampNeg (sf (f 7).toNatClampNeg + (f 6).toInt64))))) ∧ Fr [a, q] w w1) := by
  refine z_ct (by decide) (Nat.le_of_ble_eq_true rfl) ?_
  intro p e s m below meth c ls cx hnm hZ hS hl
  have hx := cx.1
  have hb := cx.2.1
  have hl : lv_has ls 2 [(0, .ref a), (1, .ref i)] := hl
  have hF : Fr [a, q] w w := Fr.rf
  refine lv_aload_n hx hb d_M_takeGlueAndBoxes_0 rfl (lv_at hl 1 rfl) ?_
  refine gf_M_15 cx hZ hi rfl d_M_takeGlueAndBoxes_1 ?_
  refine lv_if_lt (tgt := 32) hx hb d_M_takeGlueAndBoxes_4 (by decide) (fun c4 => ?_) (fun c4 => ?_)
  · exact absurd c4 (fun z => ho (Or.inl z))
  · refine lv_aload_n hx hb d_M_takeGlueAndBoxes_7 rfl (lv_at hl 1 rfl) ?_
    refine gf_M_15 cx hZ hi rfl d_M_takeGlueAndBoxes_8 ?_
    refine lv_iconst (v := 4) hx hb d_M_takeGlueAndBoxes_11 (by decide) ?_
    refine lv_icmp_ge (tgt := 32) hx hb d_M_takeGlueAndBoxes_12 (by decide) (fun c12 => ?_) (fun c12 => ?_)
    · exact absurd c12 (vin4 ho)
    · refine lv_aload_n hx hb d_M_takeGlueAndBoxes_15 rfl (lv_at hl 0 rfl) ?_
      refine gf_M_9 cx hZ ha rfl d_M_takeGlueAndBoxes_16 ?_
      refine lv_aload_n hx hb d_M_takeGlueAndBoxes_19 rfl (lv_at hl 1 rfl) ?_
      refine gf_M_15 cx hZ hi rfl d_M_takeGlueAndBoxes_20 ?_
      refine lv_dup2_11 hx hb d_M_takeGlueAndBoxes_23 rfl rfl ?_
      refine ld_l cx hZ hq ho d_M_takeGlueAndBoxes_24 ?_
      refine lv_aload_n hx hb d_M_takeGlueAndBoxes_25 rfl (lv_at hl 1 rfl) ?_
      refine gf_M_21 cx hZ hi rfl d_M_takeGlueAndBoxes_26 ?_
      refine lv_i2l hx hb d_M_takeGlueAndBoxes_29 rfl ?_
      refine lv_ladd hx hb d_M_takeGlueAndBoxes_30 ?_
      refine st_l cx hZ hS hq ho d_M_takeGlueAndBoxes_31 (fun w_1 H locs hw_2 hZ hS => ?_)
      have hk_3 : w_1 a = some (.inr (3, [.long na, .long gr, .long he, .long de, .ref q, .long sh, .int wi, .int ne])) := up_ne hw_2 ha (z_ne ha hq (by simp))
      have hk_4 : w_1 i = some (.inr (1, [.int (f 0), .int (f 1), .int (f 2), .int (f 3), .int (f 4), .int (f 5), .int (f 6), .int (f 7), .int (f 8), .int (f 9), .int (f 10), .int (f 11)])) := up_ne hw_2 hi (z_ne hi hq (by simp))
      have hF := hF.put hw_2 (Or.inl (by simp))
      have hc_5 : w_1 q = some (.inl (G.2 1, 4, .inr (.inl (vp_updL sf (f 7).toNatClampNeg ((sf (f 7).toNatClampNeg) + ((f 6).toInt64)))))) := up_self hw_2
      refine lv_aload_n hx hb d_M_takeGlueAndBoxes_32 rfl (lv_at hl 0 rfl) ?_
      refine lv_dup hx hb d_M_takeGlueAndBoxes_33 rfl ?_
      refine gf_M_24 cx hZ hk_3 rfl d_M_takeGlueAndBoxes_34 ?_
      refine lv_aload_n hx hb d_M_takeGlueAndBoxes_37 rfl (lv_at hl 1 rfl) ?_
      refine gf_M_28 cx hZ hk_4 rfl d_M_takeGlueAndBoxes_38 ?_
      refine lv_i2l hx hb d_M_takeGlueAndBoxes_41 rfl ?_
      refine lv_ladd hx hb d_M_takeGlueAndBoxes_42 ?_
      refine pf_M_24 cx hZ hS hk_3 (Nat.le_of_ble_eq_true rfl) d_M_takeGlueAndBoxes_43 (fun w_6 H locs hw_7 hZ hS => ?_)
      have hk_8 : w_6 i = some (.inr (1, [.int (f 0), .int (f 1), .int (f 2), .int (f 3), .int (f 4), .int (f 5), .int (f 6), .int (f 7), .int (f 8), .int (f 9), .int (f 10), .int (f 11)])) := up_ne hw_7 hk_4 (z_ne hk_4 hk_3 (by simp))
      have hk_9 : w_6 q = some (.inl (G.2 1, 4, .inr (.inl (vp_updL sf (f 7).toNatClampNeg ((sf (f 7).toNatClampNeg) + ((f 6).toInt64)))))) := up_ne hw_7 hc_5 (z_ne hc_5 hk_3 (by simp))
      have hF := hF.put hw_7 (Or.inl (by simp))
      have hc_10 : w_6 a = some (.inr (3, [.long na, .long gr, .long he, .long de, .ref q, .long (sh + ((f 8).toInt64)), .int wi, .int ne])) := up_self hw_7
      refine lv_aload_n hx hb d_M_takeGlueAndBoxes_46 rfl (lv_at hl 0 rfl) ?_
      refine lv_dup hx hb d_M_takeGlueAndBoxes_47 rfl ?_
      refine gf_M_31 cx hZ hc_10 rfl d_M_takeGlueAndBoxes_48 ?_
      refine lv_iconst (v := 1) hx hb d_M_takeGlueAndBoxes_51 (by decide) ?_
      refine lv_aload_n hx hb d_M_takeGlueAndBoxes_52 rfl (lv_at hl 1 rfl) ?_
      refine gf_M_34 cx hZ hk_8 rfl d_M_takeGlueAndBoxes_53 ?_
      refine lv_iadd hx hb d_M_takeGlueAndBoxes_56 ?_
      refine lv_iadd hx hb d_M_takeGlueAndBoxes_57 ?_
      refine pf_M_31 cx hZ hS hc_10 (Nat.le_of_ble_eq_true rfl) d_M_takeGlueAndBoxes_58 (fun w_11 H locs hw_12 hZ hS => ?_)
      have hk_13 : w_11 i = some (.inr (1, [.int (f 0), .int (f 1), .int (f 2), .int (f 3), .int (f 4), .int (f 5), .int (f 6), .int (f 7), .int (f 8), .int (f 9), .int (f 10), .int (f 11)])) := up_ne hw_12 hk_8 (z_ne hk_8 hc_10 (by simp))
      have hk_14 : w_11 q = some (.inl (G.2 1, 4, .inr (.inl (vp_updL sf (f 7).toNatClampNeg ((sf (f 7).toNatClampNeg) + ((f 6).toInt64)))))) := up_ne hw_12 hk_9 (z_ne hk_9 hc_10 (by simp))
      have hF := hF.put hw_12 (Or.inl (by simp))
      have hc_15 : w_11 a = some (.inr (3, [.long na, .long gr, .long he, .long de, .ref q, .long (sh + ((f 8).toInt64)), .int (wi + (1 + (f 10))), .int ne])) := up_self hw_12
      refine lv_aload_n hx hb d_M_takeGlueAndBoxes_61 rfl (lv_at hl 0 rfl) ?_
      refine lv_aload_n hx hb d_M_takeGlueAndBoxes_62 rfl (lv_at hl 0 rfl) ?_
      refine gf_M_35 cx hZ hc_15 rfl d_M_takeGlueAndBoxes_63 ?_
      refine lv_aload_n hx hb d_M_takeGlueAndBoxes_66 rfl (lv_at hl 1 rfl) ?_
      refine gf_M_38 cx hZ hk_13 rfl d_M_takeGlueAndBoxes_67 ?_
      refine mm_M_41 cx hl.1 d_M_takeGlueAndBoxes_70 (Nat.le_of_ble_eq_true rfl) (Nat.le_of_ble_eq_true rfl) (Nat.le_of_ble_eq_true rfl) (Nat.le_of_ble_eq_true rfl) ?_
      refine pf_M_35 cx hZ hS hc_15 (Nat.le_of_ble_eq_true rfl) d_M_takeGlueAndBoxes_73 (fun w_16 H locs hw_17 hZ hS => ?_)
      have hk_18 : w_16 i = some (.inr (1, [.int (f 0), .int (f 1), .int (f 2), .int (f 3), .int (f 4), .int (f 5), .int (f 6), .int (f 7), .int (f 8), .int (f 9), .int (f 10), .int (f 11)])) := up_ne hw_17 hk_13 (z_ne hk_13 hc_15 (by simp))
      have hk_19 : w_16 q = some (.inl (G.2 1, 4, .inr (.inl (vp_updL sf (f 7).toNatClampNeg ((sf (f 7).toNatClampNeg) + ((f 6).toInt64)))))) := up_ne hw_17 hk_14 (z_ne hk_14 hc_15 (by simp))
      have hF := hF.put hw_17 (Or.inl (by simp))
      have hc_20 : w_16 a = some (.inr (3, [.long na, .long gr, .long he, .long de, .ref q, .long (sh + ((f 8).toInt64)), .int (wi + (1 + (f 10))), .int (if ne < (f 11) then (f 11) else ne)])) := up_self hw_17
      exact z_vret cx.1 cx.2.1 cx.rt cx.lk hS hZ ⟨(Nat.le_of_ble_eq_true rfl), (Nat.le_of_ble_eq_true rfl)⟩ d_M_takeGlueAndBoxes_76 (⟨rfl, hc_20, hk_19, hF⟩)
set_option maxHeartbeats 4000000 in
set_option maxRecDepth 100000 in
theorem c_takeAcross (l : Launch) (G : zG) (n0 e0 : Nat) (w : zw) (a q : Nat) (na gr he de sh : Int64) (sf : Nat → Int64) (wi ne : Int32) (ha : w a = some (.inr (3, fM na gr he de (.ref q) sh wi ne))) (i : Nat) (f : Nat → Int32) (hi : w i = some (.inr (1, fI f)))  : Ct l G n0 e0 y_M_takeAcross b_M_takeAcross 2 (Option.none : Option FieldType) ({ frames := 1, cells := 0, slots := 0, locals := 21 }) [.ref a, .ref i] w (fun v w1 => v = none ∧ w1 a = some (.inr (3, fM (na + (f 1).toInt64) gr (acH f he) (acD f de) (.ref q) sh wi ne)) ∧ Fr [a] w w1) := by
  refine z_ct (by decide) (Nat.le_of_ble_eq_true rfl) ?_
  intro p e s m below meth c ls cx hnm hZ hS hl
  have hx := cx.1
  have hb := cx.2.1
  have hl : lv_has ls 2 [(0, .ref a), (1, .ref i)] := hl
  have hF : Fr [a] w w := Fr.rf
  refine lv_aload_n hx hb d_M_takeAcross_0 rfl (lv_at hl 0 rfl) ?_
  refine lv_dup hx hb d_M_takeAcross_1 rfl ?_
  refine gf_M_47 cx hZ ha rfl d_M_takeAcross_2 ?_
  refine lv_aload_n hx hb d_M_takeAcross_5 rfl (lv_at hl 1 rfl) ?_
  refine gf_M_50 cx hZ hi rfl d_M_takeAcross_6 ?_
  refine lv_i2l hx hb d_M_takeAcross_9 rfl ?_
  refine lv_ladd hx hb d_M_takeAcross_10 ?_
  refine pf_M_47 cx hZ hS ha (Nat.le_of_ble_eq_true rfl) d_M_takeAcross_11 (fun w_1 H locs hw_2 hZ hS => ?_)
  have hk_3 : w_1 i = some (.inr (1, [.int (f 0), .int (f 1), .int (f 2), .int (f 3), .int (f 4), .int (f 5), .int (f 6), .int (f 7), .int (f 8), .int (f 9), .int (f 10), .int (f 11)])) := up_ne hw_2 hi (z_ne hi ha (by simp))
  have hF := hF.put hw_2 (Or.inl (by simp))
  have hc_4 : w_1 a = some (.inr (3, [.long (na + ((f 1).toInt64)), .long gr, .long he, .long de, .ref q, .long sh, .int wi, .int ne])) := up_self hw_2
  refine lv_aload_n hx hb d_M_takeAcross_14 rfl (lv_at hl 1 rfl) ?_
  refine lv_iconst (v := 2) hx hb d_M_takeAcross_15 (by decide) ?_
  refine iv_M_53 (As := [.int 2]) (rest := []) cx (c_runs l G n0 e0 w_1 i f 2 hk_3) hk_3 ⟨(Nat.le_of_ble_eq_true rfl), (Nat.le_of_ble_eq_true rfl)⟩ ⟨(Nat.le_of_ble_eq_true rfl), (Nat.le_of_ble_eq_true rfl)⟩ rfl hl.1 rfl (Nat.le_of_ble_eq_true rfl) d_M_takeAcross_16 hZ hS (fun v w_5 H locs hp_6 hZ hS => ?_)
  obtain ⟨rfl, hq⟩ := hp_6
  subst w_5
  refine W.eq (g2 := F0 m 19 ls [.int (zi (decide (f 4 &&& 2 ≠ 0)))]) rfl ?_
  refine lv_if_ne (tgt := 44) hx hb d_M_takeAcross_19 (by decide) (fun c19 => ?_) (fun c19 => ?_)
  · refine lv_aload_n hx hb d_M_takeAcross_44 rfl (lv_at hl 1 rfl) ?_
    refine lv_iconst (v := 4) hx hb d_M_takeAcross_45 (by decide) ?_
    refine iv_M_53 (As := [.int 4]) (rest := []) cx (c_runs l G n0 e0 w_1 i f 4 hk_3) hk_3 ⟨(Nat.le_of_ble_eq_true rfl), (Nat.le_of_ble_eq_true rfl)⟩ ⟨(Nat.le_of_ble_eq_true rfl), (Nat.le_of_ble_eq_true rfl)⟩ rfl hl.1 rfl (Nat.le_of_ble_eq_true rfl) d_M_takeAcross_46 hZ hS (fun v w_7 H locs hp_8 hZ hS => ?_)
    obtain ⟨rfl, hq⟩ := hp_8
    subst w_7
    refine W.eq (g2 := F0 m 49 ls [.int (zi (decide (f 4 &&& 4 ≠ 0)))]) rfl ?_
    refine lv_if_ne (tgt := 74) hx hb d_M_takeAcross_49 (by decide) (fun c49 => ?_) (fun c49 => ?_)
    · exact z_vret cx.1 cx.2.1 cx.rt cx.lk hS hZ ⟨(Nat.le_of_ble_eq_true rfl), (Nat.le_of_ble_eq_true rfl)⟩ d_M_takeAcross_74 (by have e19 := dz_t c19; have e49 := dz_t c49; exact ⟨rfl, by rw [acH, if_pos e19, acD, if_pos e49]; exact hc_4, hF⟩)
    · refine lv_aload_n hx hb d_M_takeAcross_52 rfl (lv_at hl 0 rfl) ?_
      refine lv_aload_n hx hb d_M_takeAcross_53 rfl (lv_at hl 0 rfl) ?_
      refine gf_M_68 cx hZ hc_4 rfl d_M_takeAcross_54 ?_
      refine lv_aload_n hx hb d_M_takeAcross_57 rfl (lv_at hl 1 rfl) ?_
      refine gf_M_71 cx hZ hk_3 rfl d_M_takeAcross_58 ?_
      refine lv_i2l hx hb d_M_takeAcross_61 rfl ?_
      refine lv_aload_n hx hb d_M_takeAcross_62 rfl (lv_at hl 1 rfl) ?_
      refine gf_M_62 cx hZ hk_3 rfl d_M_takeAcross_63 ?_
      refine lv_i2l hx hb d_M_takeAcross_66 rfl ?_
      refine lv_ladd hx hb d_M_takeAcross_67 ?_
      refine mm_M_65 cx hl.1 d_M_takeAcross_68 (Nat.le_of_ble_eq_true rfl) (Nat.le_of_ble_eq_true rfl) (Nat.le_of_ble_eq_true rfl) (Nat.le_of_ble_eq_true rfl) ?_
      refine pf_M_68 cx hZ hS hc_4 (Nat.le_of_ble_eq_true rfl) d_M_takeAcross_71 (fun w_9 H locs hw_10 hZ hS => ?_)
      have hk_11 : w_9 i = some (.inr (1, [.int (f 0), .int (f 1), .int (f 2), .int (f 3), .int (f 4), .int (f 5), .int (f 6), .int (f 7), .int (f 8), .int (f 9), .int (f 10), .int (f 11)])) := up_ne hw_10 hk_3 (z_ne hk_3 hc_4 (by simp))
      have hF := hF.put hw_10 (Or.inl (by simp))
      have hc_12 : w_9 a = some (.inr (3, [.long (na + ((f 1).toInt64)), .long gr, .long he, .long (if (((f 3).toInt64) + ((f 9).toInt64)) < de then de else (((f 3).toInt64) + ((f 9).toInt64))), .ref q, .long sh, .int wi, .int ne])) := up_self hw_10
      exact z_vret cx.1 cx.2.1 cx.rt cx.lk hS hZ ⟨(Nat.le_of_ble_eq_true rfl), (Nat.le_of_ble_eq_true rfl)⟩ d_M_takeAcross_74 (by have e19 := dz_t c19; have e49 := dz_f c49; exact ⟨rfl, by rw [acH, if_pos e19, acD, if_neg e49]; exact hc_12, hF⟩)
  · refine lv_aload_n hx hb d_M_takeAcross_22 rfl (lv_at hl 0 rfl) ?_
    refine lv_aload_n hx hb d_M_takeAcross_23 rfl (lv_at hl 0 rfl) ?_
    refine gf_M_57 cx hZ hc_4 rfl d_M_takeAcross_24 ?_
    refine lv_aload_n hx hb d_M_takeAcross_27 rfl (lv_at hl 1 rfl) ?_
    refine gf_M_60 cx hZ hk_3 rfl d_M_takeAcross_28 ?_
    refine lv_i2l hx hb d_M_takeAcross_31 rfl ?_
    refine lv_aload_n hx hb d_M_takeAcross_32 rfl (lv_at hl 1 rfl) ?_
    refine gf_M_62 cx hZ hk_3 rfl d_M_takeAcross_33 ?_
    refine lv_i2l hx hb d_M_takeAcross_36 rfl ?_
    refine lv_lsub hx hb d_M_takeAcross_37 ?_
    refine mm_M_65 cx hl.1 d_M_takeAcross_38 (Nat.le_of_ble_eq_true rfl) (Nat.le_of_ble_eq_true rfl) (Nat.le_of_ble_eq_true rfl) (Nat.le_of_ble_eq_true rfl) ?_
    refine pf_M_57 cx hZ hS hc_4 (Nat.le_of_ble_eq_true rfl) d_M_takeAcross_41 (fun w_13 H locs hw_14 hZ hS => ?_)
    have hk_15 : w_13 i = some (.inr (1, [.int (f 0), .int (f 1), .int (f 2), .int (f 3), .int (f 4), .int (f 5), .int (f 6), .int (f 7), .int (f 8), .int (f 9), .int (f 10), .int (f 11)])) := up_ne hw_14 hk_3 (z_ne hk_3 hc_4 (by simp))
    have hF := hF.put hw_14 (Or.inl (by simp))
    have hc_16 : w_13 a = some (.inr (3, [.long (na + ((f 1).toInt64)), .long gr, .long (if (((f 2).toInt64) - ((f 9).toInt64)) < he then he else (((f 2).toInt64) - ((f 9).toInt64))), .long de, .ref q, .long sh, .int wi, .int ne])) := up_self hw_14
    refine lv_aload_n hx hb d_M_takeAcross_44 rfl (lv_at hl 1 rfl) ?_
    refine lv_iconst (v := 4) hx hb d_M_takeAcross_45 (by decide) ?_
    refine iv_M_53 (As := [.int 4]) (rest := []) cx (c_runs l G n0 e0 w_13 i f 4 hk_15) hk_15 ⟨(Nat.le_of_ble_eq_true rfl), (Nat.le_of_ble_eq_true rfl)⟩ ⟨(Nat.le_of_ble_eq_true rfl), (Nat.le_of_ble_eq_true rfl)⟩ rfl hl.1 rfl (Nat.le_of_ble_eq_true rfl) d_M_takeAcross_46 hZ hS (fun v w_17 H locs hp_18 hZ hS => ?_)
    obtain ⟨rfl, hq⟩ := hp_18
    subst w_17
    refine W.eq (g2 := F0 m 49 ls [.int (zi (decide (f 4 &&& 4 ≠ 0)))]) rfl ?_
    refine lv_if_ne (tgt := 74) hx hb d_M_takeAcross_49 (by decide) (fun c49 => ?_) (fun c49 => ?_)
    · exact z_vret cx.1 cx.2.1 cx.rt cx.lk hS hZ ⟨(Nat.le_of_ble_eq_true rfl), (Nat.le_of_ble_eq_true rfl)⟩ d_M_takeAcross_74 (by have e19 := dz_f c19; have e49 := dz_t c49; exact ⟨rfl, by rw [acH, if_neg e19, acD, if_pos e49]; exact hc_16, hF⟩)
    · refine lv_aload_n hx hb d_M_takeAcross_52 rfl (lv_at hl 0 rfl) ?_
      refine lv_aload_n hx hb d_M_takeAcross_53 rfl (lv_at hl 0 rfl) ?_
      refine gf_M_68 cx hZ hc_16 rfl d_M_takeAcross_54 ?_
      refine lv_aload_n hx hb d_M_takeAcross_57 rfl (lv_at hl 1 rfl) ?_
      refine gf_M_71 cx hZ hk_15 rfl d_M_takeAcross_58 ?_
      refine lv_i2l hx hb d_M_takeAcross_61 rfl ?_
      refine lv_aload_n hx hb d_M_takeAcross_62 rfl (lv_at hl 1 rfl) ?_
      refine gf_M_62 cx hZ hk_15 rfl d_M_takeAcross_63 ?_
      refine lv_i2l hx hb d_M_takeAcross_66 rfl ?_
      refine lv_ladd hx hb d_M_takeAcross_67 ?_
      refine mm_M_65 cx hl.1 d_M_takeAcross_68 (Nat.le_of_ble_eq_true rfl) (Nat.le_of_ble_eq_true rfl) (Nat.le_of_ble_eq_true rfl) (Nat.le_of_ble_eq_true rfl) ?_
      refine pf_M_68 cx hZ hS hc_16 (Nat.le_of_ble_eq_true rfl) d_M_takeAcross_71 (fun w_19 H locs hw_20 hZ hS => ?_)
      have hk_21 : w_19 i = some (.inr (1, [.int (f 0), .int (f 1), .int (f 2), .int (f 3), .int (f 4), .int (f 5), .int (f 6), .int (f 7), .int (f 8), .int (f 9), .int (f 10), .int (f 11)])) := up_ne hw_20 hk_15 (z_ne hk_15 hc_16 (by simp))
      have hF := hF.put hw_20 (Or.inl (by simp))
      have hc_22 : w_19 a = some (.inr (3, [.long (na + ((f 1).toInt64)), .long gr, .long (if (((f 2).toInt64) - ((f 9).toInt64)) < he then he else (((f 2).toInt64) - ((f 9).toInt64))), .long (if (((f 3).toInt64) + ((f 9).toInt64)) < de then de else (((f 3).toInt64) + ((f 9).toInt64))), .ref q, .long sh, .int wi, .int ne])) := up_self hw_20
      exact z_vret cx.1 cx.2.1 cx.rt cx.lk hS hZ ⟨(Nat.le_of_ble_eq_true rfl), (Nat.le_of_ble_eq_true rfl)⟩ d_M_takeAcross_74 (by have e19 := dz_f c19; have e49 := dz_f c49; exact ⟨rfl, by rw [acH, if_neg e19, acD, if_neg e49]; exact hc_22, hF⟩)
set_option maxHeartbeats 4000000 in
set_option maxRecDepth 100000 in
theorem c_takeDownwards (l : Launch) (G : zG) (n0 e0 : Nat) (w : zw) (a q : Nat) (na gr he de sh : Int64) (sf : Nat → Int64) (wi ne : Int32) (ha : w a = some (.inr (3, fM na gr he de (.ref q) sh wi ne))) (i : Nat) (f : Nat → Int32) (hi : w i = some (.inr (1, fI f)))  : Ct l G n0 e0 y_M_takeDownwards b_M_takeDownwards 2 (Option.none : Option FieldType) ({ frames := 1, cells := 0, slots := 0, locals := 21 }) [.ref a, .ref i] w (fun v w1 => v = none ∧ w1 a = some (.inr (3, fM (dwN f na de) (dwG f gr) he (dwD f) (.ref q) sh wi ne)) ∧ Fr [a] w w1) := by
  refine z_ct (by decide) (Nat.le_of_ble_eq_true rfl) ?_
  intro p e s m below meth c ls cx hnm hZ hS hl
  have hx := cx.1
  have hb := cx.2.1
  have hl : lv_has ls 2 [(0, .ref a), (1, .ref i)] := hl
  have hF : Fr [a] w w := Fr.rf
  refine lv_aload_n hx hb d_M_takeDownwards_0 rfl (lv_at hl 0 rfl) ?_
  refine lv_dup hx hb d_M_takeDownwards_1 rfl ?_
  refine gf_M_47 cx hZ ha rfl d_M_takeDownwards_2 ?_
  refine lv_aload_n hx hb d_M_takeDownwards_5 rfl (lv_at hl 0 rfl) ?_
  refine gf_M_68 cx hZ ha rfl d_M_takeDownwards_6 ?_
  refine lv_ladd hx hb d_M_takeDownwards_9 ?_
  refine pf_M_47 cx hZ hS ha (Nat.le_of_ble_eq_true rfl) d_M_takeDownwards_10 (fun w_1 H locs hw_2 hZ hS => ?_)
  have hk_3 : w_1 i = some (.inr (1, [.int (f 0), .int (f 1), .int (f 2), .int (f 3), .int (f 4), .int (f 5), .int (f 6), .int (f 7), .int (f 8), .int (f 9), .int (f 10), .int (f 11)])) := up_ne hw_2 hi (z_ne hi ha (by simp))
  have hF := hF.put hw_2 (Or.inl (by simp))
  have hc_4 : w_1 a = some (.inr (3, [.long (na + de), .long gr, .long he, .long de, .ref q, .long sh, .int wi, .int ne])) := up_self hw_2
  refine lv_aload_n hx hb d_M_takeDownwards_13 rfl (lv_at hl 0 rfl) ?_
  refine lv_lconst (v := 0) hx hb d_M_takeDownwards_14 (by decide) ?_
  refine pf_M_68 cx hZ hS hc_4 (Nat.le_of_ble_eq_true rfl) d_M_takeDownwards_15 (fun w_5 H locs hw_6 hZ hS => ?_)
  have hk_7 : w_5 i = some (.inr (1, [.int (f 0), .int (f 1), .int (f 2), .int (f 3), .int (f 4), .int (f 5), .int (f 6), .int (f 7), .int (f 8), .int (f 9), .int (f 10), .int (f 11)])) := up_ne hw_6 hk_3 (z_ne hk_3 hc_4 (by simp))
  have hF := hF.put hw_6 (Or.inl (by simp))
  have hc_8 : w_5 a = some (.inr (3, [.long (na + de), .long gr, .long he, .long 0, .ref q, .long sh, .int wi, .int ne])) := up_self hw_6
  refine lv_aload_n hx hb d_M_takeDownwards_18 rfl (lv_at hl 1 rfl) ?_
  refine iv_M_73 (As := []) (rest := []) cx (c_isBoxOrRule l G n0 e0 w_5 i f hk_7) hk_7 ⟨(Nat.le_of_ble_eq_true rfl), (Nat.le_of_ble_eq_true rfl)⟩ ⟨(Nat.le_of_ble_eq_true rfl), (Nat.le_of_ble_eq_true rfl)⟩ rfl hl.1 rfl (Nat.le_of_ble_eq_true rfl) d_M_takeDownwards_19 hZ hS (fun v w_9 H locs hp_10 hZ hS => ?_)
  obtain ⟨rfl, hq⟩ := hp_10
  subst w_9
  refine W.eq (g2 := F0 m 22 ls [.int (zi (decide (f 0 = 2 ∨ f 0 = 3 ∨ f 0 = 4)))]) rfl ?_
  refine lv_if_ne (tgt := 40) hx hb d_M_takeDownwards_22 (by decide) (fun c22 => ?_) (fun c22 => ?_)
  · refine lv_aload_n hx hb d_M_takeDownwards_40 rfl (lv_at hl 0 rfl) ?_
    refine lv_dup hx hb d_M_takeDownwards_41 rfl ?_
    refine gf_M_47 cx hZ hc_8 rfl d_M_takeDownwards_42 ?_
    refine lv_aload_n hx hb d_M_takeDownwards_45 rfl (lv_at hl 1 rfl) ?_
    refine gf_M_60 cx hZ hk_7 rfl d_M_takeDownwards_46 ?_
    refine lv_i2l hx hb d_M_takeDownwards_49 rfl ?_
    refine lv_ladd hx hb d_M_takeDownwards_50 ?_
    refine pf_M_47 cx hZ hS hc_8 (Nat.le_of_ble_eq_true rfl) d_M_takeDownwards_51 (fun w_11 H locs hw_12 hZ hS => ?_)
    have hk_13 : w_11 i = some (.inr (1, [.int (f 0), .int (f 1), .int (f 2), .int (f 3), .int (f 4), .int (f 5), .int (f 6), .int (f 7), .int (f 8), .int (f 9), .int (f 10), .int (f 11)])) := up_ne hw_12 hk_7 (z_ne hk_7 hc_8 (by simp))
    have hF := hF.put hw_12 (Or.inl (by simp))
    have hc_14 : w_11 a = some (.inr (3, [.long ((na + de) + ((f 2).toInt64)), .long gr, .long he, .long 0, .ref q, .long sh, .int wi, .int ne])) := up_self hw_12
    refine lv_aload_n hx hb d_M_takeDownwards_54 rfl (lv_at hl 0 rfl) ?_
    refine lv_aload_n hx hb d_M_takeDownwards_55 rfl (lv_at hl 1 rfl) ?_
    refine gf_M_71 cx hZ hk_13 rfl d_M_takeDownwards_56 ?_
    refine lv_i2l hx hb d_M_takeDownwards_59 rfl ?_
    refine pf_M_68 cx hZ hS hc_14 (Nat.le_of_ble_eq_true rfl) d_M_takeDownwards_60 (fun w_15 H locs hw_16 hZ hS => ?_)
    have hk_17 : w_15 i = some (.inr (1, [.int (f 0), .int (f 1), .int (f 2), .int (f 3), .int (f 4), .int (f 5), .int (f 6), .int (f 7), .int (f 8), .int (f 9), .int (f 10), .int (f 11)])) := up_ne hw_16 hk_13 (z_ne hk_13 hc_14 (by simp))
    have hF := hF.put hw_16 (Or.inl (by simp))
    have hc_18 : w_15 a = some (.inr (3, [.long ((na + de) + ((f 2).toInt64)), .long gr, .long he, .long ((f 3).toInt64), .ref q, .long sh, .int wi, .int ne])) := up_self hw_16
    refine lv_aload_n hx hb d_M_takeDownwards_63 rfl (lv_at hl 1 rfl) ?_
    refine lv_iconst (v := 1) hx hb d_M_takeDownwards_64 (by decide) ?_
    refine iv_M_53 (As := [.int 1]) (rest := []) cx (c_runs l G n0 e0 w_15 i f 1 hk_17) hk_17 ⟨(Nat.le_of_ble_eq_true rfl), (Nat.le_of_ble_eq_true rfl)⟩ ⟨(Nat.le_of_ble_eq_true rfl), (Nat.le_of_ble_eq_true rfl)⟩ rfl hl.1 rfl (Nat.le_of_ble_eq_true rfl) d_M_takeDownwards_65 hZ hS (fun v w_19 H locs hp_20 hZ hS => ?_)
    obtain ⟨rfl, hq⟩ := hp_20
    subst w_19
    refine W.eq (g2 := F0 m 68 ls [.int (zi (decide (f 4 &&& 1 ≠ 0)))]) rfl ?_
    refine lv_if_ne (tgt := 93) hx hb d_M_takeDownwards_68 (by decide) (fun c68 => ?_) (fun c68 => ?_)
    · exact z_vret cx.1 cx.2.1 cx.rt cx.lk hS hZ ⟨(Nat.le_of_ble_eq_true rfl), (Nat.le_of_ble_eq_true rfl)⟩ d_M_takeDownwards_93 (by have e22 := dz_t c22; have e68 := dz_t c68; exact ⟨rfl, by rw [dwN, dwD, dwG, if_pos e22, if_pos e22, if_pos e22, if_pos e68]; exact hc_18, hF⟩)
    · refine lv_aload_n hx hb d_M_takeDownwards_71 rfl (lv_at hl 0 rfl) ?_
      refine lv_aload_n hx hb d_M_takeDownwards_72 rfl (lv_at hl 0 rfl) ?_
      refine gf_M_77 cx hZ hc_18 rfl d_M_takeDownwards_73 ?_
      refine lv_aload_n hx hb d_M_takeDownwards_76 rfl (lv_at hl 1 rfl) ?_
      refine gf_M_50 cx hZ hk_17 rfl d_M_takeDownwards_77 ?_
      refine lv_i2l hx hb d_M_takeDownwards_80 rfl ?_
      refine lv_aload_n hx hb d_M_takeDownwards_81 rfl (lv_at hl 1 rfl) ?_
      refine gf_M_62 cx hZ hk_17 rfl d_M_takeDownwards_82 ?_
      refine lv_i2l hx hb d_M_takeDownwards_85 rfl ?_
      refine lv_ladd hx hb d_M_takeDownwards_86 ?_
      refine mm_M_65 cx hl.1 d_M_takeDownwards_87 (Nat.le_of_ble_eq_true rfl) (Nat.le_of_ble_eq_true rfl) (Nat.le_of_ble_eq_true rfl) (Nat.le_of_ble_eq_true rfl) ?_
      refine pf_M_77 cx hZ hS hc_18 (Nat.le_of_ble_eq_true rfl) d_M_takeDownwards_90 (fun w_21 H locs hw_22 hZ hS => ?_)
      have hk_23 : w_21 i = some (.inr (1, [.int (f 0), .int (f 1), .int (f 2), .int (f 3), .int (f 4), .int (f 5), .int (f 6), .int (f 7), .int (f 8), .int (f 9), .int (f 10), .int (f 11)])) := up_ne hw_22 hk_17 (z_ne hk_17 hc_18 (by simp))
      have hF := hF.put hw_22 (Or.inl (by simp))
      have hc_24 : w_21 a = some (.inr (3, [.long ((na + de) + ((f 2).toInt64)), .long (if (((f 1).toInt64) + ((f 9).toInt64)) < gr then gr else (((f 1).toInt64) + ((f 9).toInt64))), .long he, .long ((f 3).toInt64), .ref q, .long sh, .int wi, .int ne])) := up_self hw_22
      exact z_vret cx.1 cx.2.1 cx.rt cx.lk hS hZ ⟨(Nat.le_of_ble_eq_true rfl), (Nat.le_of_ble_eq_true rfl)⟩ d_M_takeDownwards_93 (by have e22 := dz_t c22; have e68 := dz_f c68; exact ⟨rfl, by rw [dwN, dwD, dwG, if_pos e22, if_pos e22, if_pos e22, if_neg e68]; exact hc_24, hF⟩)
  · refine lv_aload_n hx hb d_M_takeDownwards_25 rfl (lv_at hl 0 rfl) ?_
    refine lv_dup hx hb d_M_takeDownwards_26 rfl ?_
    refine gf_M_47 cx hZ hc_8 rfl d_M_takeDownwards_27 ?_
    refine lv_aload_n hx hb d_M_takeDownwards_30 rfl (lv_at hl 1 rfl) ?_
    refine gf_M_50 cx hZ hk_7 rfl d_M_takeDownwards_31 ?_
    refine lv_i2l hx hb d_M_takeDownwards_34 rfl ?_
    refine lv_ladd hx hb d_M_takeDownwards_35 ?_
    refine pf_M_47 cx hZ hS hc_8 (Nat.le_of_ble_eq_true rfl) d_M_takeDownwards_36 (fun w_25 H locs hw_26 hZ hS => ?_)
    have hk_27 : w_25 i = some (.inr (1, [.int (f 0), .int (f 1), .int (f 2), .int (f 3), .int (f 4), .int (f 5), .int (f 6), .int (f 7), .int (f 8), .int (f 9), .int (f 10), .int (f 11)])) := up_ne hw_26 hk_7 (z_ne hk_7 hc_8 (by simp))
    have hF := hF.put hw_26 (Or.inl (by simp))
    have hc_28 : w_25 a = some (.inr (3, [.long ((na + de) + ((f 1).toInt64)), .long gr, .long he, .long 0, .ref q, .long sh, .int wi, .int ne])) := up_self hw_26
    exact z_vret cx.1 cx.2.1 cx.rt cx.lk hS hZ ⟨(Nat.le_of_ble_eq_true rfl), (Nat.le_of_ble_eq_true rfl)⟩ d_M_takeDownwards_39 (by have e22 := dz_f c22; exact ⟨rfl, by rw [dwN, dwD, dwG, if_neg e22, if_neg e22, if_neg e22]; exact hc_28, hF⟩)
set_option maxHeartbeats 4000000 in
set_option maxRecDepth 100000 in
theorem c_limitDepth (l : Launch) (G : zG) (n0 e0 : Nat) (w : zw) (a q : Nat) (na gr he de sh : Int64) (sf : Nat → Int64) (wi ne : Int32) (lim : Int32) (ha : w a = some (.inr (3, fM na gr he de (.ref q) sh wi ne)))  : Ct l G n0 e0 y_M_limitDepth b_M_limitDepth 2 (Option.none : Option FieldType) ({ frames := 0, cells := 0, slots := 0, locals := 0 }) [.ref a, .int lim] w (fun v w1 => v = none ∧ w1 a = some (.inr (3, fM (if de ≤ lim.toInt64 then na else na + (de - lim.toInt64)) gr he (if de ≤ lim.toInt64 then de else lim.toInt64) (.ref q) sh wi ne)) ∧ Fr [a] w w1) := by
  refine z_ct (by decide) (Nat.le_of_ble_eq_true rfl) ?_
  intro p e s m below meth c ls cx hnm hZ hS hl
  have hx := cx.1
  have hb := cx.2.1
  have hl : lv_has ls 2 [(0, .ref a), (1, .int lim)] := hl
  have hF : Fr [a] w w := Fr.rf
  refine lv_aload_n hx hb d_M_limitDepth_0 rfl (lv_at hl 0 rfl) ?_
  refine gf_M_68 cx hZ ha rfl d_M_limitDepth_1 ?_
  refine lv_iload_n hx hb d_M_limitDepth_4 rfl (lv_at hl 1 rfl) ?_
  refine lv_i2l hx hb d_M_limitDepth_5 rfl ?_
  refine W.lcmp hx hb d_M_limitDepth_6 ?_
  refine lv_if_le (tgt := 32) hx hb d_M_limitDepth_7 (by decide) (fun c7 => ?_) (fun c7 => ?_)
  · have c7 := (lg_cmp_le _ _).mp c7
    exact z_vret cx.1 cx.2.1 cx.rt cx.lk hS hZ ⟨(Nat.le_of_ble_eq_true rfl), (Nat.le_of_ble_eq_true rfl)⟩ d_M_limitDepth_32 (⟨rfl, by rw [if_pos c7, if_pos c7]; exact ha, hF⟩)
  · have c7 := fun q => c7 ((lg_cmp_le _ _).mpr q)
    refine lv_aload_n hx hb d_M_limitDepth_10 rfl (lv_at hl 0 rfl) ?_
    refine lv_dup hx hb d_M_limitDepth_11 rfl ?_
    refine gf_M_47 cx hZ ha rfl d_M_limitDepth_12 ?_
    refine lv_aload_n hx hb d_M_limitDepth_15 rfl (lv_at hl 0 rfl) ?_
    refine gf_M_68 cx hZ ha rfl d_M_limitDepth_16 ?_
    refine lv_iload_n hx hb d_M_limitDepth_19 rfl (lv_at hl 1 rfl) ?_
    refine lv_i2l hx hb d_M_limitDepth_20 rfl ?_
    refine lv_lsub hx hb d_M_limitDepth_21 ?_
    refine lv_ladd hx hb d_M_limitDepth_22 ?_
    refine pf_M_47 cx hZ hS ha (Nat.le_of_ble_eq_true rfl) d_M_limitDepth_23 (fun w_1 H locs hw_2 hZ hS => ?_)
    have hF := hF.put hw_2 (Or.inl (by simp))
    have hc_3 : w_1 a = some (.inr (3, [.long (na + (de - lim.toInt64)), .long gr, .long he, .long de, .ref q, .long sh, .int wi, .int ne])) := up_self hw_2
    refine lv_aload_n hx hb d_M_limitDepth_26 rfl (lv_at hl 0 rfl) ?_
    refine lv_iload_n hx hb d_M_limitDepth_27 rfl (lv_at hl 1 rfl) ?_
    refine lv_i2l hx hb d_M_limitDepth_28 rfl ?_
    refine pf_M_68 cx hZ hS hc_3 (Nat.le_of_ble_eq_true rfl) d_M_limitDepth_29 (fun w_4 H locs hw_5 hZ hS => ?_)
    have hF := hF.put hw_5 (Or.inl (by simp))
    have hc_6 : w_4 a = some (.inr (3, [.long (na + (de - lim.toInt64)), .long gr, .long he, .long lim.toInt64, .ref q, .long sh, .int wi, .int ne])) := up_self hw_5
    exact z_vret cx.1 cx.2.1 cx.rt cx.lk hS hZ ⟨(Nat.le_of_ble_eq_true rfl), (Nat.le_of_ble_eq_true rfl)⟩ d_M_limitDepth_32 (⟨rfl, by rw [if_neg c7, if_neg c7]; exact hc_6, hF⟩)
set_option maxHeartbeats 4000000 in
set_option maxRecDepth 100000 in
theorem c_highestOrder (l : Launch) (G : zG) (n0 e0 : Nat) (w : zw) (a q : Nat) (na gr he de sh : Int64) (sf : Nat → Int64) (wi ne : Int32) (ha : w a = some (.inr (3, fM na gr he de (.ref q) sh wi ne))) (hq : w q = some (.inl (G.2 1, 4, .inr (.inl sf))))  : Ct l G n0 e0 y_M_highestOrder b_M_highestOrder 2 (Option.some FieldType.int) ({ frames := 0, cells := 0, slots := 0, locals := 0 }) [.ref a] w (fun v w1 => v = some (.int (hiO sf)) ∧ w1 = w) := by
  refine z_ct (by decide) (Nat.le_of_ble_eq_true rfl) ?_
  intro p e s m below meth c ls cx hnm hZ hS hl
  have hx := cx.1
  have hb := cx.2.1
  have hl : lv_has ls 2 [(0, .ref a)] := hl
  refine lv_iconst (v := 3) hx hb d_M_highestOrder_0 (by decide) ?_
  refine lv_istore_n (lv' := [(1, .int 3), (0, .ref a)]) hx hb d_M_highestOrder_1 rfl hl (by decide) rfl (fun ls hl => ?_)
  refine lv_iload_n hx hb d_M_highestOrder_2 rfl (lv_at hl 0 rfl) ?_
  refine lv_if_le (tgt := 23) hx hb d_M_highestOrder_3 (by decide) (fun c3 => ?_) (fun c3 => ?_)
  · exact absurd c3 (by decide)
  · refine lv_aload_n hx hb d_M_highestOrder_6 rfl (lv_at hl 1 rfl) ?_
    refine gf_M_9 cx hZ ha rfl d_M_highestOrder_7 ?_
    refine lv_iload_n hx hb d_M_highestOrder_10 rfl (lv_at hl 0 rfl) ?_
    refine ld_l cx hZ hq (by unfold vp_in; decide) d_M_highestOrder_11 ?_
    refine lv_lconst (v := 0) hx hb d_M_highestOrder_12 (by decide) ?_
    refine W.lcmp hx hb d_M_highestOrder_13 ?_
    refine lv_if_ne (tgt := 23) hx hb d_M_highestOrder_14 (by decide) (fun c14 => ?_) (fun c14 => ?_)
    · have c14 := fun q => c14 ((lg_cmp_eq _ _).mpr q)
      refine lv_iload_n hx hb d_M_highestOrder_23 rfl (lv_at hl 0 rfl) ?_
      exact z_iret cx.1 cx.2.1 cx.rt cx.lk hS hZ ⟨(Nat.le_of_ble_eq_true rfl), (Nat.le_of_ble_eq_true rfl)⟩ d_M_highestOrder_24 (⟨by rw [hiO, if_pos (show sf 3 ≠ 0 from c14)], rfl⟩)
    · have c14 := (lg_cmp_eq _ _).mp c14
      refine lv_iinc (v := 2) (lv' := [(1, .int 2), (0, .ref a)]) hx hb d_M_highestOrder_17 hl (k := 0) rfl (by decide) (by decide) rfl (fun ls hl => ?_)
      refine lv_goto (tgt := 2) hx hb d_M_highestOrder_20 (by decide) ?_
      refine lv_iload_n hx hb d_M_highestOrder_2 rfl (lv_at hl 0 rfl) ?_
      refine lv_if_le (tgt := 23) hx hb d_M_highestOrder_3 (by decide) (fun c3_1 => ?_) (fun c3_1 => ?_)
      · exact absurd c3_1 (by decide)
      · refine lv_aload_n hx hb d_M_highestOrder_6 rfl (lv_at hl 1 rfl) ?_
        refine gf_M_9 cx hZ ha rfl d_M_highestOrder_7 ?_
        refine lv_iload_n hx hb d_M_highestOrder_10 rfl (lv_at hl 0 rfl) ?_
        refine ld_l cx hZ hq (by unfold vp_in; decide) d_M_highestOrder_11 ?_
        refine lv_lconst (v := 0) hx hb d_M_highestOrder_12 (by decide) ?_
        refine W.lcmp hx hb d_M_highestOrder_13 ?_
        refine lv_if_ne (tgt := 23) hx hb d_M_highestOrder_14 (by decide) (fun c14_1 => ?_) (fun c14_1 => ?_)
        · have c14_1 := fun q => c14_1 ((lg_cmp_eq _ _).mpr q)
          refine lv_iload_n hx hb d_M_highestOrder_23 rfl (lv_at hl 0 rfl) ?_
          exact z_iret cx.1 cx.2.1 cx.rt cx.lk hS hZ ⟨(Nat.le_of_ble_eq_true rfl), (Nat.le_of_ble_eq_true rfl)⟩ d_M_highestOrder_24 (⟨by rw [hiO, if_neg (show ¬ sf 3 ≠ 0 from fun z => z c14), if_pos (show sf 2 ≠ 0 from c14_1)], rfl⟩)
        · have c14_1 := (lg_cmp_eq _ _).mp c14_1
          refine lv_iinc (v := 1) (lv' := [(1, .int 1), (0, .ref a)]) hx hb d_M_highestOrder_17 hl (k := 0) rfl (by decide) (by decide) rfl (fun ls hl => ?_)
          refine lv_goto (tgt := 2) hx hb d_M_highestOrder_20 (by decide) ?_
          refine lv_iload_n hx hb d_M_highestOrder_2 rfl (lv_at hl 0 rfl) ?_
          refine lv_if_le (tgt := 23) hx hb d_M_highestOrder_3 (by decide) (fun c3_2 => ?_) (fun c3_2 => ?_)
          · exact absurd c3_2 (by decide)
          · refine lv_aload_n hx hb d_M_highestOrder_6 rfl (lv_at hl 1 rfl) ?_
            refine gf_M_9 cx hZ ha rfl d_M_highestOrder_7 ?_
            refine lv_iload_n hx hb d_M_highestOrder_10 rfl (lv_at hl 0 rfl) ?_
            refine ld_l cx hZ hq (by unfold vp_in; decide) d_M_highestOrder_11 ?_
            refine lv_lconst (v := 0) hx hb d_M_highestOrder_12 (by decide) ?_
            refine W.lcmp hx hb d_M_highestOrder_13 ?_
            refine lv_if_ne (tgt := 23) hx hb d_M_highestOrder_14 (by decide) (fun c14_2 => ?_) (fun c14_2 => ?_)
            · have c14_2 := fun q => c14_2 ((lg_cmp_eq _ _).mpr q)
              refine lv_iload_n hx hb d_M_highestOrder_23 rfl (lv_at hl 0 rfl) ?_
              exact z_iret cx.1 cx.2.1 cx.rt cx.lk hS hZ ⟨(Nat.le_of_ble_eq_true rfl), (Nat.le_of_ble_eq_true rfl)⟩ d_M_highestOrder_24 (⟨by rw [hiO, if_neg (show ¬ sf 3 ≠ 0 from fun z => z c14), if_neg (show ¬ sf 2 ≠ 0 from fun z => z c14_1), if_pos (show sf 1 ≠ 0 from c14_2)], rfl⟩)
            · have c14_2 := (lg_cmp_eq _ _).mp c14_2
              refine lv_iinc (v := 0) (lv' := [(1, .int 0), (0, .ref a)]) hx hb d_M_highestOrder_17 hl (k := 0) rfl (by decide) (by decide) rfl (fun ls hl => ?_)
              refine lv_goto (tgt := 2) hx hb d_M_highestOrder_20 (by decide) ?_
              refine lv_iload_n hx hb d_M_highestOrder_2 rfl (lv_at hl 0 rfl) ?_
              refine lv_if_le (tgt := 23) hx hb d_M_highestOrder_3 (by decide) (fun c3_3 => ?_) (fun c3_3 => ?_)
              · refine lv_iload_n hx hb d_M_highestOrder_23 rfl (lv_at hl 0 rfl) ?_
                exact z_iret cx.1 cx.2.1 cx.rt cx.lk hS hZ ⟨(Nat.le_of_ble_eq_true rfl), (Nat.le_of_ble_eq_true rfl)⟩ d_M_highestOrder_24 (⟨by rw [hiO, if_neg (show ¬ sf 3 ≠ 0 from fun z => z c14), if_neg (show ¬ sf 2 ≠ 0 from fun z => z c14_1), if_neg (show ¬ sf 1 ≠ 0 from fun z => z c14_2)], rfl⟩)
              · exact absurd c3_3 (by decide)
set_option maxHeartbeats 4000000 in
set_option maxRecDepth 100000 in
theorem c_canBeBoxed (l : Launch) (G : zG) (n0 e0 : Nat) (w : zw) (a q : Nat) (na gr he de sh : Int64) (sf : Nat → Int64) (wi ne : Int32) (ha : w a = some (.inr (3, fM na gr he de (.ref q) sh wi ne))) (hq : w q = some (.inl (G.2 1, 4, .inr (.inl sf))))  : Ct l G n0 e0 y_M_canBeBoxed b_M_canBeBoxed 2 (Option.some FieldType.boolean) ({ frames := 1, cells := 0, slots := 0, locals := 21 }) [.ref a] w (fun v w1 => v = some (.int (zi (canB na gr he de sh sf ne))) ∧ w1 = w) := by
  refine z_ct (by decide) (Nat.le_of_ble_eq_true rfl) ?_
  intro p e s m below meth c ls cx hnm hZ hS hl
  have hx := cx.1
  have hb := cx.2.1
  have hl : lv_has ls 2 [(0, .ref a)] := hl
  refine lv_iconst (v := 0) hx hb d_M_canBeBoxed_0 (by decide) ?_
  refine lv_istore_n (lv' := [(1, .int 0), (0, .ref a)]) hx hb d_M_canBeBoxed_1 rfl hl (by decide) rfl (fun ls hl => ?_)
  refine lv_iload_n hx hb d_M_canBeBoxed_2 rfl (lv_at hl 0 rfl) ?_
  refine lv_iconst (v := 4) hx hb d_M_canBeBoxed_3 (by decide) ?_
  refine lv_icmp_ge (tgt := 27) hx hb d_M_canBeBoxed_4 (by decide) (fun c4 => ?_) (fun c4 => ?_)
  · exact absurd c4 (by decide)
  · refine lv_aload_n hx hb d_M_canBeBoxed_7 rfl (lv_at hl 1 rfl) ?_
    refine gf_M_9 cx hZ ha rfl d_M_canBeBoxed_8 ?_
    refine lv_iload_n hx hb d_M_canBeBoxed_11 rfl (lv_at hl 0 rfl) ?_
    refine ld_l cx hZ hq (by unfold vp_in; decide) d_M_canBeBoxed_12 ?_
    refine is_M_80 (As := [.long (sf (0 : Int32).toNatClampNeg)]) (rest := []) cx (c_isSize l G n0 e0 (sf (0 : Int32).toNatClampNeg) w) ⟨(Nat.le_of_ble_eq_true rfl), (Nat.le_of_ble_eq_true rfl)⟩ ⟨(Nat.le_of_ble_eq_true rfl), (Nat.le_of_ble_eq_true rfl)⟩ rfl hl.1 rfl (Nat.le_of_ble_eq_true rfl) d_M_canBeBoxed_13 hZ hS (fun v w_1 H locs hp_2 hZ hS => ?_)
    obtain ⟨rfl, hq⟩ := hp_2
    subst w_1
    refine W.eq (g2 := F0 m 16 ls [.int (zi (szL (sf (0 : Int32).toNatClampNeg)))]) rfl ?_
    refine lv_if_ne (tgt := 21) hx hb d_M_canBeBoxed_16 (by decide) (fun c16 => ?_) (fun c16 => ?_)
    · refine lv_iinc (v := 1) (lv' := [(1, .int 1), (0, .ref a)]) hx hb d_M_canBeBoxed_21 hl (k := 0) rfl (by decide) (by decide) rfl (fun ls hl => ?_)
      refine lv_goto (tgt := 2) hx hb d_M_canBeBoxed_24 (by decide) ?_
      refine lv_iload_n hx hb d_M_canBeBoxed_2 rfl (lv_at hl 0 rfl) ?_
      refine lv_iconst (v := 4) hx hb d_M_canBeBoxed_3 (by decide) ?_
      refine lv_icmp_ge (tgt := 27) hx hb d_M_canBeBoxed_4 (by decide) (fun c4_1 => ?_) (fun c4_1 => ?_)
      · exact absurd c4_1 (by decide)
      · refine lv_aload_n hx hb d_M_canBeBoxed_7 rfl (lv_at hl 1 rfl) ?_
        refine gf_M_9 cx hZ ha rfl d_M_canBeBoxed_8 ?_
        refine lv_iload_n hx hb d_M_canBeBoxed_11 rfl (lv_at hl 0 rfl) ?_
        refine ld_l cx hZ hq (by unfold vp_in; decide) d_M_canBeBoxed_12 ?_
        refine is_M_80 (As := [.long (sf (1 : Int32).toNatClampNeg)]) (rest := []) cx (c_isSize l G n0 e0 (sf (1 : Int32).toNatClampNeg) w) ⟨(Nat.le_of_ble_eq_true rfl), (Nat.le_of_ble_eq_true rfl)⟩ ⟨(Nat.le_of_ble_eq_true rfl), (Nat.le_of_ble_eq_true rfl)⟩ rfl hl.1 rfl (Nat.le_of_ble_eq_true rfl) d_M_canBeBoxed_13 hZ hS (fun v w_3 H locs hp_4 hZ hS => ?_)
        obtain ⟨rfl, hq⟩ := hp_4
        subst w_3
        refine W.eq (g2 := F0 m 16 ls [.int (zi (szL (sf (1 : Int32).toNatClampNeg)))]) rfl ?_
        refine lv_if_ne (tgt := 21) hx hb d_M_canBeBoxed_16 (by decide) (fun c16_1 => ?_) (fun c16_1 => ?_)
        · refine lv_iinc (v := 2) (lv' := [(1, .int 2), (0, .ref a)]) hx hb d_M_canBeBoxed_21 hl (k := 0) rfl (by decide) (by decide) rfl (fun ls hl => ?_)
          refine lv_goto (tgt := 2) hx hb d_M_canBeBoxed_24 (by decide) ?_
          refine lv_iload_n hx hb d_M_canBeBoxed_2 rfl (lv_at hl 0 rfl) ?_
          refine lv_iconst (v := 4) hx hb d_M_canBeBoxed_3 (by decide) ?_
          refine lv_icmp_ge (tgt := 27) hx hb d_M_canBeBoxed_4 (by decide) (fun c4_2 => ?_) (fun c4_2 => ?_)
          · exact absurd c4_2 (by decide)
          · refine lv_aload_n hx hb d_M_canBeBoxed_7 rfl (lv_at hl 1 rfl) ?_
            refine gf_M_9 cx hZ ha rfl d_M_canBeBoxed_8 ?_
            refine lv_iload_n hx hb d_M_canBeBoxed_11 rfl (lv_at hl 0 rfl) ?_
            refine ld_l cx hZ hq (by unfold vp_in; decide) d_M_canBeBoxed_12 ?_
            refine is_M_80 (As := [.long (sf (2 : Int32).toNatClampNeg)]) (rest := []) cx (c_isSize l G n0 e0 (sf (2 : Int32).toNatClampNeg) w) ⟨(Nat.le_of_ble_eq_true rfl), (Nat.le_of_ble_eq_true rfl)⟩ ⟨(Nat.le_of_ble_eq_true rfl), (Nat.le_of_ble_eq_true rfl)⟩ rfl hl.1 rfl (Nat.le_of_ble_eq_true rfl) d_M_canBeBoxed_13 hZ hS (fun v w_5 H locs hp_6 hZ hS => ?_)
            obtain ⟨rfl, hq⟩ := hp_6
            subst w_5
            refine W.eq (g2 := F0 m 16 ls [.int (zi (szL (sf (2 : Int32).toNatClampNeg)))]) rfl ?_
            refine lv_if_ne (tgt := 21) hx hb d_M_canBeBoxed_16 (by decide) (fun c16_2 => ?_) (fun c16_2 => ?_)
            · refine lv_iinc (v := 3) (lv' := [(1, .int 3), (0, .ref a)]) hx hb d_M_canBeBoxed_21 hl (k := 0) rfl (by decide) (by decide) rfl (fun ls hl => ?_)
              refine lv_goto (tgt := 2) hx hb d_M_canBeBoxed_24 (by decide) ?_
              refine lv_iload_n hx hb d_M_canBeBoxed_2 rfl (lv_at hl 0 rfl) ?_
              refine lv_iconst (v := 4) hx hb d_M_canBeBoxed_3 (by decide) ?_
              refine lv_icmp_ge (tgt := 27) hx hb d_M_canBeBoxed_4 (by decide) (fun c4_3 => ?_) (fun c4_3 => ?_)
              · exact absurd c4_3 (by decide)
              · refine lv_aload_n hx hb d_M_canBeBoxed_7 rfl (lv_at hl 1 rfl) ?_
                refine gf_M_9 cx hZ ha rfl d_M_canBeBoxed_8 ?_
                refine lv_iload_n hx hb d_M_canBeBoxed_11 rfl (lv_at hl 0 rfl) ?_
                refine ld_l cx hZ hq (by unfold vp_in; decide) d_M_canBeBoxed_12 ?_
                refine is_M_80 (As := [.long (sf (3 : Int32).toNatClampNeg)]) (rest := []) cx (c_isSize l G n0 e0 (sf (3 : Int32).toNatClampNeg) w) ⟨(Nat.le_of_ble_eq_true rfl), (Nat.le_of_ble_eq_true rfl)⟩ ⟨(Nat.le_of_ble_eq_true rfl), (Nat.le_of_ble_eq_true rfl)⟩ rfl hl.1 rfl (Nat.le_of_ble_eq_true rfl) d_M_canBeBoxed_13 hZ hS (fun v w_7 H locs hp_8 hZ hS => ?_)
                obtain ⟨rfl, hq⟩ := hp_8
                subst w_7
                refine W.eq (g2 := F0 m 16 ls [.int (zi (szL (sf (3 : Int32).toNatClampNeg)))]) rfl ?_
                refine lv_if_ne (tgt := 21) hx hb d_M_canBeBoxed_16 (by decide) (fun c16_3 => ?_) (fun c16_3 => ?_)
                · refine lv_iinc (v := 4) (lv' := [(1, .int 4), (0, .ref a)]) hx hb d_M_canBeBoxed_21 hl (k := 0) rfl (by decide) (by decide) rfl (fun ls hl => ?_)
                  refine lv_goto (tgt := 2) hx hb d_M_canBeBoxed_24 (by decide) ?_
                  refine lv_iload_n hx hb d_M_canBeBoxed_2 rfl (lv_at hl 0 rfl) ?_
                  refine lv_iconst (v := 4) hx hb d_M_canBeBoxed_3 (by decide) ?_
                  refine lv_icmp_ge (tgt := 27) hx hb d_M_canBeBoxed_4 (by decide) (fun c4_4 => ?_) (fun c4_4 => ?_)
                  · refine lv_aload_n hx hb d_M_canBeBoxed_27 rfl (lv_at hl 1 rfl) ?_
                    refine gf_M_47 cx hZ ha rfl d_M_canBeBoxed_28 ?_
                    refine is_M_80 (As := [.long na]) (rest := []) cx (c_isSize l G n0 e0 na w) ⟨(Nat.le_of_ble_eq_true rfl), (Nat.le_of_ble_eq_true rfl)⟩ ⟨(Nat.le_of_ble_eq_true rfl), (Nat.le_of_ble_eq_true rfl)⟩ rfl hl.1 rfl (Nat.le_of_ble_eq_true rfl) d_M_canBeBoxed_31 hZ hS (fun v w_9 H locs hp_10 hZ hS => ?_)
                    obtain ⟨rfl, hq⟩ := hp_10
                    subst w_9
                    refine W.eq (g2 := F0 m 34 ls [.int (zi (szL na))]) rfl ?_
                    refine lv_if_eq (tgt := 90) hx hb d_M_canBeBoxed_34 (by decide) (fun c34 => ?_) (fun c34 => ?_)
                    · refine lv_iconst (v := 0) hx hb d_M_canBeBoxed_90 (by decide) ?_
                      exact z_zret cx.1 cx.2.1 cx.rt cx.lk (by first | rfl | (simp [narrow]; done) | simp_all [narrow]) hS hZ ⟨(Nat.le_of_ble_eq_true rfl), (Nat.le_of_ble_eq_true rfl)⟩ d_M_canBeBoxed_91 (by have e_c16 : szL (sf 0) = true := (zi_n0 _).mp c16; have e_c16_1 : szL (sf 1) = true := (zi_n0 _).mp c16_1; have e_c16_2 : szL (sf 2) = true := (zi_n0 _).mp c16_2; have e_c16_3 : szL (sf 3) = true := (zi_n0 _).mp c16_3; have e_c34 : szL (na) = false := (zi_0 _).mp c34; exact ⟨by simp [canB, e_c16, e_c16_1, e_c16_2, e_c16_3, e_c34, zi], rfl⟩)
                    · refine lv_aload_n hx hb d_M_canBeBoxed_37 rfl (lv_at hl 1 rfl) ?_
                      refine gf_M_24 cx hZ ha rfl d_M_canBeBoxed_38 ?_
                      refine is_M_80 (As := [.long sh]) (rest := []) cx (c_isSize l G n0 e0 sh w) ⟨(Nat.le_of_ble_eq_true rfl), (Nat.le_of_ble_eq_true rfl)⟩ ⟨(Nat.le_of_ble_eq_true rfl), (Nat.le_of_ble_eq_true rfl)⟩ rfl hl.1 rfl (Nat.le_of_ble_eq_true rfl) d_M_canBeBoxed_41 hZ hS (fun v w_11 H locs hp_12 hZ hS => ?_)
                      obtain ⟨rfl, hq⟩ := hp_12
                      subst w_11
                      refine W.eq (g2 := F0 m 44 ls [.int (zi (szL sh))]) rfl ?_
                      refine lv_if_eq (tgt := 90) hx hb d_M_canBeBoxed_44 (by decide) (fun c44 => ?_) (fun c44 => ?_)
                      · refine lv_iconst (v := 0) hx hb d_M_canBeBoxed_90 (by decide) ?_
                        exact z_zret cx.1 cx.2.1 cx.rt cx.lk (by first | rfl | (simp [narrow]; done) | simp_all [narrow]) hS hZ ⟨(Nat.le_of_ble_eq_true rfl), (Nat.le_of_ble_eq_true rfl)⟩ d_M_canBeBoxed_91 (by have e_c16 : szL (sf 0) = true := (zi_n0 _).mp c16; have e_c16_1 : szL (sf 1) = true := (zi_n0 _).mp c16_1; have e_c16_2 : szL (sf 2) = true := (zi_n0 _).mp c16_2; have e_c16_3 : szL (sf 3) = true := (zi_n0 _).mp c16_3; have e_c34 : szL (na) = true := (zi_n0 _).mp c34; have e_c44 : szL (sh) = false := (zi_0 _).mp c44; exact ⟨by simp [canB, e_c16, e_c16_1, e_c16_2, e_c16_3, e_c34, e_c44, zi], rfl⟩)
                      · refine lv_aload_n hx hb d_M_canBeBoxed_47 rfl (lv_at hl 1 rfl) ?_
                        refine gf_M_35 cx hZ ha rfl d_M_canBeBoxed_48 ?_
                        refine lv_bipush (v := 100) hx hb d_M_canBeBoxed_51 (by decide) ?_
                        refine lv_icmp_ge (tgt := 90) hx hb d_M_canBeBoxed_53 (by decide) (fun c53 => ?_) (fun c53 => ?_)
                        · refine lv_iconst (v := 0) hx hb d_M_canBeBoxed_90 (by decide) ?_
                          exact z_zret cx.1 cx.2.1 cx.rt cx.lk (by first | rfl | (simp [narrow]; done) | simp_all [narrow]) hS hZ ⟨(Nat.le_of_ble_eq_true rfl), (Nat.le_of_ble_eq_true rfl)⟩ d_M_canBeBoxed_91 (by have e_c16 : szL (sf 0) = true := (zi_n0 _).mp c16; have e_c16_1 : szL (sf 1) = true := (zi_n0 _).mp c16_1; have e_c16_2 : szL (sf 2) = true := (zi_n0 _).mp c16_2; have e_c16_3 : szL (sf 3) = true := (zi_n0 _).mp c16_3; have e_c34 : szL (na) = true := (zi_n0 _).mp c34; have e_c44 : szL (sh) = true := (zi_n0 _).mp c44; have e53 : decide (ne < 100) = false := decide_eq_false (fun z => absurd z (Int32.not_lt.mpr c53)); exact ⟨by simp [canB, e_c16, e_c16_1, e_c16_2, e_c16_3, e_c34, e_c44, e53, zi], rfl⟩)
                        · refine lv_aload_n hx hb d_M_canBeBoxed_56 rfl (lv_at hl 1 rfl) ?_
                          refine gf_M_77 cx hZ ha rfl d_M_canBeBoxed_57 ?_
                          refine is_M_80 (As := [.long gr]) (rest := []) cx (c_isSize l G n0 e0 gr w) ⟨(Nat.le_of_ble_eq_true rfl), (Nat.le_of_ble_eq_true rfl)⟩ ⟨(Nat.le_of_ble_eq_true rfl), (Nat.le_of_ble_eq_true rfl)⟩ rfl hl.1 rfl (Nat.le_of_ble_eq_true rfl) d_M_canBeBoxed_60 hZ hS (fun v w_13 H locs hp_14 hZ hS => ?_)
                          obtain ⟨rfl, hq⟩ := hp_14
                          subst w_13
                          refine W.eq (g2 := F0 m 63 ls [.int (zi (szL gr))]) rfl ?_
                          refine lv_if_eq (tgt := 90) hx hb d_M_canBeBoxed_63 (by decide) (fun c63 => ?_) (fun c63 => ?_)
                          · refine lv_iconst (v := 0) hx hb d_M_canBeBoxed_90 (by decide) ?_
                            exact z_zret cx.1 cx.2.1 cx.rt cx.lk (by first | rfl | (simp [narrow]; done) | simp_all [narrow]) hS hZ ⟨(Nat.le_of_ble_eq_true rfl), (Nat.le_of_ble_eq_true rfl)⟩ d_M_canBeBoxed_91 (by have e_c16 : szL (sf 0) = true := (zi_n0 _).mp c16; have e_c16_1 : szL (sf 1) = true := (zi_n0 _).mp c16_1; have e_c16_2 : szL (sf 2) = true := (zi_n0 _).mp c16_2; have e_c16_3 : szL (sf 3) = true := (zi_n0 _).mp c16_3; have e_c34 : szL (na) = true := (zi_n0 _).mp c34; have e_c44 : szL (sh) = true := (zi_n0 _).mp c44; have e53 : decide (ne < 100) = true := decide_eq_true (Int32.not_le.mp c53); have e_c63 : szL (gr) = false := (zi_0 _).mp c63; exact ⟨by simp [canB, e_c16, e_c16_1, e_c16_2, e_c16_3, e_c34, e_c44, e53, e_c63, zi], rfl⟩)
                          · refine lv_aload_n hx hb d_M_canBeBoxed_66 rfl (lv_at hl 1 rfl) ?_
                            refine gf_M_57 cx hZ ha rfl d_M_canBeBoxed_67 ?_
                            refine is_M_80 (As := [.long he]) (rest := []) cx (c_isSize l G n0 e0 he w) ⟨(Nat.le_of_ble_eq_true rfl), (Nat.le_of_ble_eq_true rfl)⟩ ⟨(Nat.le_of_ble_eq_true rfl), (Nat.le_of_ble_eq_true rfl)⟩ rfl hl.1 rfl (Nat.le_of_ble_eq_true rfl) d_M_canBeBoxed_70 hZ hS (fun v w_15 H locs hp_16 hZ hS => ?_)
                            obtain ⟨rfl, hq⟩ := hp_16
                            subst w_15
                            refine W.eq (g2 := F0 m 73 ls [.int (zi (szL he))]) rfl ?_
                            refine lv_if_eq (tgt := 90) hx hb d_M_canBeBoxed_73 (by decide) (fun c73 => ?_) (fun c73 => ?_)
                            · refine lv_iconst (v := 0) hx hb d_M_canBeBoxed_90 (by decide) ?_
                              exact z_zret cx.1 cx.2.1 cx.rt cx.lk (by first | rfl | (simp [narrow]; done) | simp_all [narrow]) hS hZ ⟨(Nat.le_of_ble_eq_true rfl), (Nat.le_of_ble_eq_true rfl)⟩ d_M_canBeBoxed_91 (by have e_c16 : szL (sf 0) = true := (zi_n0 _).mp c16; have e_c16_1 : szL (sf 1) = true := (zi_n0 _).mp c16_1; have e_c16_2 : szL (sf 2) = true := (zi_n0 _).mp c16_2; have e_c16_3 : szL (sf 3) = true := (zi_n0 _).mp c16_3; have e_c34 : szL (na) = true := (zi_n0 _).mp c34; have e_c44 : szL (sh) = true := (zi_n0 _).mp c44; have e53 : decide (ne < 100) = true := decide_eq_true (Int32.not_le.mp c53); have e_c63 : szL (gr) = true := (zi_n0 _).mp c63; have e_c73 : szL (he) = false := (zi_0 _).mp c73; exact ⟨by simp [canB, e_c16, e_c16_1, e_c16_2, e_c16_3, e_c34, e_c44, e53, e_c63, e_c73, zi], rfl⟩)
                            · refine lv_aload_n hx hb d_M_canBeBoxed_76 rfl (lv_at hl 1 rfl) ?_
                              refine gf_M_68 cx hZ ha rfl d_M_canBeBoxed_77 ?_
                              refine is_M_80 (As := [.long de]) (rest := []) cx (c_isSize l G n0 e0 de w) ⟨(Nat.le_of_ble_eq_true rfl), (Nat.le_of_ble_eq_true rfl)⟩ ⟨(Nat.le_of_ble_eq_true rfl), (Nat.le_of_ble_eq_true rfl)⟩ rfl hl.1 rfl (Nat.le_of_ble_eq_true rfl) d_M_canBeBoxed_80 hZ hS (fun v w_17 H locs hp_18 hZ hS => ?_)
                              obtain ⟨rfl, hq⟩ := hp_18
                              subst w_17
                              refine W.eq (g2 := F0 m 83 ls [.int (zi (szL de))]) rfl ?_
                              refine lv_if_eq (tgt := 90) hx hb d_M_canBeBoxed_83 (by decide) (fun c83 => ?_) (fun c83 => ?_)
                              · refine lv_iconst (v := 0) hx hb d_M_canBeBoxed_90 (by decide) ?_
                                exact z_zret cx.1 cx.2.1 cx.rt cx.lk (by first | rfl | (simp [narrow]; done) | simp_all [narrow]) hS hZ ⟨(Nat.le_of_ble_eq_true rfl), (Nat.le_of_ble_eq_true rfl)⟩ d_M_canBeBoxed_91 (by have e_c16 : szL (sf 0) = true := (zi_n0 _).mp c16; have e_c16_1 : szL (sf 1) = true := (zi_n0 _).mp c16_1; have e_c16_2 : szL (sf 2) = true := (zi_n0 _).mp c16_2; have e_c16_3 : szL (sf 3) = true := (zi_n0 _).mp c16_3; have e_c34 : szL (na) = true := (zi_n0 _).mp c34; have e_c44 : szL (sh) = true := (zi_n0 _).mp c44; have e53 : decide (ne < 100) = true := decide_eq_true (Int32.not_le.mp c53); have e_c63 : szL (gr) = true := (zi_n0 _).mp c63; have e_c73 : szL (he) = true := (zi_n0 _).mp c73; have e_c83 : szL (de) = false := (zi_0 _).mp c83; exact ⟨by simp [canB, e_c16, e_c16_1, e_c16_2, e_c16_3, e_c34, e_c44, e53, e_c63, e_c73, e_c83, zi], rfl⟩)
                              · refine lv_iconst (v := 1) hx hb d_M_canBeBoxed_86 (by decide) ?_
                                refine lv_goto (tgt := 91) hx hb d_M_canBeBoxed_87 (by decide) ?_
                                exact z_zret cx.1 cx.2.1 cx.rt cx.lk (by first | rfl | (simp [narrow]; done) | simp_all [narrow]) hS hZ ⟨(Nat.le_of_ble_eq_true rfl), (Nat.le_of_ble_eq_true rfl)⟩ d_M_canBeBoxed_91 (by have e_c16 : szL (sf 0) = true := (zi_n0 _).mp c16; have e_c16_1 : szL (sf 1) = true := (zi_n0 _).mp c16_1; have e_c16_2 : szL (sf 2) = true := (zi_n0 _).mp c16_2; have e_c16_3 : szL (sf 3) = true := (zi_n0 _).mp c16_3; have e_c34 : szL (na) = true := (zi_n0 _).mp c34; have e_c44 : szL (sh) = true := (zi_n0 _).mp c44; have e53 : decide (ne < 100) = true := decide_eq_true (Int32.not_le.mp c53); have e_c63 : szL (gr) = true := (zi_n0 _).mp c63; have e_c73 : szL (he) = true := (zi_n0 _).mp c73; have e_c83 : szL (de) = true := (zi_n0 _).mp c83; exact ⟨by simp [canB, e_c16, e_c16_1, e_c16_2, e_c16_3, e_c34, e_c44, e53, e_c63, e_c73, e_c83, zi], rfl⟩)
                  · exact absurd c4_4 (by decide)
                · refine lv_iconst (v := 0) hx hb d_M_canBeBoxed_19 (by decide) ?_
                  exact z_zret cx.1 cx.2.1 cx.rt cx.lk (by first | rfl | (simp [narrow]; done) | simp_all [narrow]) hS hZ ⟨(Nat.le_of_ble_eq_true rfl), (Nat.le_of_ble_eq_true rfl)⟩ d_M_canBeBoxed_20 (by have e_c16 : szL (sf 0) = true := (zi_n0 _).mp c16; have e_c16_1 : szL (sf 1) = true := (zi_n0 _).mp c16_1; have e_c16_2 : szL (sf 2) = true := (zi_n0 _).mp c16_2; have e_c16_3 : szL (sf 3) = false := (zi_0 _).mp c16_3; exact ⟨by simp [canB, e_c16, e_c16_1, e_c16_2, e_c16_3, zi], rfl⟩)
            · refine lv_iconst (v := 0) hx hb d_M_canBeBoxed_19 (by decide) ?_
              exact z_zret cx.1 cx.2.1 cx.rt cx.lk (by first | rfl | (simp [narrow]; done) | simp_all [narrow]) hS hZ ⟨(Nat.le_of_ble_eq_true rfl), (Nat.le_of_ble_eq_true rfl)⟩ d_M_canBeBoxed_20 (by have e_c16 : szL (sf 0) = true := (zi_n0 _).mp c16; have e_c16_1 : szL (sf 1) = true := (zi_n0 _).mp c16_1; have e_c16_2 : szL (sf 2) = false := (zi_0 _).mp c16_2; exact ⟨by simp [canB, e_c16, e_c16_1, e_c16_2, zi], rfl⟩)
        · refine lv_iconst (v := 0) hx hb d_M_canBeBoxed_19 (by decide) ?_
          exact z_zret cx.1 cx.2.1 cx.rt cx.lk (by first | rfl | (simp [narrow]; done) | simp_all [narrow]) hS hZ ⟨(Nat.le_of_ble_eq_true rfl), (Nat.le_of_ble_eq_true rfl)⟩ d_M_canBeBoxed_20 (by have e_c16 : szL (sf 0) = true := (zi_n0 _).mp c16; have e_c16_1 : szL (sf 1) = false := (zi_0 _).mp c16_1; exact ⟨by simp [canB, e_c16, e_c16_1, zi], rfl⟩)
    · refine lv_iconst (v := 0) hx hb d_M_canBeBoxed_19 (by decide) ?_
      exact z_zret cx.1 cx.2.1 cx.rt cx.lk (by first | rfl | (simp [narrow]; done) | simp_all [narrow]) hS hZ ⟨(Nat.le_of_ble_eq_true rfl), (Nat.le_of_ble_eq_true rfl)⟩ d_M_canBeBoxed_20 (by have e_c16 : szL (sf 0) = false := (zi_0 _).mp c16; exact ⟨by simp [canB, e_c16, zi], rfl⟩)
set_option maxHeartbeats 4000000 in
set_option maxRecDepth 100000 in
theorem c_Pr_checkIndex (l : Launch) (G : zG) (n0 e0 : Nat) (w : zw) (i n : Int32) (h0 : ¬ i < 0) (h1 : i < n) : Ct l G n0 e0 y_Pr_checkIndex b_Pr_checkIndex 3 (Option.some FieldType.int) ({ frames := 0, cells := 0, slots := 0, locals := 0 }) [.int i, .int n, .null] w (fun v w1 => v = some (.int i) ∧ w1 = w) := by
  refine z_ct (by decide) (Nat.le_of_ble_eq_true rfl) ?_
  intro p e s m below meth c ls cx hnm hZ hS hl
  have hx := cx.1
  have hb := cx.2.1
  have hl : lv_has ls 3 [(0, .int i), (1, .int n), (2, .null)] := hl
  refine lv_iload_n hx hb d_Pr_checkIndex_0 rfl (lv_at hl 0 rfl) ?_
  refine lv_if_lt (tgt := 9) hx hb d_Pr_checkIndex_1 (by decide) (fun c1 => ?_) (fun c1 => ?_)
  · exact absurd c1 h0
  · refine lv_iload_n hx hb d_Pr_checkIndex_4 rfl (lv_at hl 0 rfl) ?_
    refine lv_iload_n hx hb d_Pr_checkIndex_5 rfl (lv_at hl 1 rfl) ?_
    refine lv_icmp_lt (tgt := 16) hx hb d_Pr_checkIndex_6 (by decide) (fun c6 => ?_) (fun c6 => ?_)
    · refine lv_iload_n hx hb d_Pr_checkIndex_16 rfl (lv_at hl 0 rfl) ?_
      exact z_iret cx.1 cx.2.1 cx.rt cx.lk hS hZ ⟨(Nat.le_of_ble_eq_true rfl), (Nat.le_of_ble_eq_true rfl)⟩ d_Pr_checkIndex_17 (⟨rfl, rfl⟩)
    · exact absurd h1 c6
set_option maxHeartbeats 4000000 in
set_option maxRecDepth 100000 in
theorem c_Ob_checkIndex (l : Launch) (G : zG) (n0 e0 : Nat) (w : zw) (i n : Int32) (h0 : ¬ i < 0) (h1 : i < n) : Ct l G n0 e0 y_Ob_checkIndex b_Ob_checkIndex 2 (Option.some FieldType.int) ({ frames := 1, cells := 0, slots := 0, locals := 22 }) [.int i, .int n] w (fun v w1 => v = some (.int i) ∧ w1 = w) := by
  refine z_ct (by decide) (Nat.le_of_ble_eq_true rfl) ?_
  intro p e s m below meth c ls cx hnm hZ hS hl
  have hx := cx.1
  have hb := cx.2.1
  have hl : lv_has ls 2 [(0, .int i), (1, .int n)] := hl
  refine lv_iload_n hx hb d_Ob_checkIndex_0 rfl (lv_at hl 0 rfl) ?_
  refine lv_iload_n hx hb d_Ob_checkIndex_1 rfl (lv_at hl 1 rfl) ?_
  refine lv_null hx hb d_Ob_checkIndex_2 ?_
  refine is_Ob_105 (As := [.int i, .int n, .null]) (rest := []) cx (c_Pr_checkIndex l G n0 e0 w i n h0 h1) ⟨(Nat.le_of_ble_eq_true rfl), (Nat.le_of_ble_eq_true rfl)⟩ ⟨(Nat.le_of_ble_eq_true rfl), (Nat.le_of_ble_eq_true rfl)⟩ rfl hl.1 rfl (Nat.le_of_ble_eq_true rfl) d_Ob_checkIndex_3 hZ hS (fun v w_1 H locs hp_2 hZ hS => ?_)
  obtain ⟨rfl, hq⟩ := hp_2
  subst w_1
  refine W.eq (g2 := F0 m 6 ls [.int i]) rfl ?_
  exact z_iret cx.1 cx.2.1 cx.rt cx.lk hS hZ ⟨(Nat.le_of_ble_eq_true rfl), (Nat.le_of_ble_eq_true rfl)⟩ d_Ob_checkIndex_6 (⟨rfl, rfl⟩)
set_option maxHeartbeats 4000000 in
set_option maxRecDepth 100000 in
theorem c_A_elementData (l : Launch) (G : zG) (n0 e0 : Nat) (w : zw) (a ar cap : Nat) (md n : Int32) (fa : Nat → Option Nat) (ha : w a = some (.inr (0, fA md (.ref ar) n))) (har : w ar = some (.inl (G.2 3, cap, .inr (.inr (.inr (.inr fa)))))) (i : Int32) (x : Nat) (hin : vp_in i cap) (hfx : fa i.toNatClampNeg = some x) : Ct l G n0 e0 y_A_elementData b_A_elementData 2 (Option.some (FieldType.object "java/lang/Object")) ({ frames := 0, cells := 0, slots := 0, locals := 0 }) [.ref a, .int i] w (fun v w1 => v = some (.ref x) ∧ w1 = w) := by
  refine z_ct (by decide) (Nat.le_of_ble_eq_true rfl) ?_
  intro p e s m below meth c ls cx hnm hZ hS hl
  have hx := cx.1
  have hb := cx.2.1
  have hl : lv_has ls 2 [(0, .ref a), (1, .int i)] := hl
  refine lv_aload_n hx hb d_A_elementData_0 rfl (lv_at hl 0 rfl) ?_
  refine gf_A_9 cx hZ ha rfl d_A_elementData_1 ?_
  refine lv_iload_n hx hb d_A_elementData_4 rfl (lv_at hl 1 rfl) ?_
  refine ld_q3 cx hZ har hin d_A_elementData_5 ?_
  rw [show fa i.toNatClampNeg = some x from hfx]
  refine W.eq (g2 := F0 m 6 ls [.ref x]) rfl ?_
  exact z_aret cx.1 cx.2.1 cx.rt cx.lk (by first | exact Or.inl ⟨_, rfl⟩ | exact Or.inr ⟨_, rfl⟩) (by first | exact Or.inl rfl | exact Or.inr ⟨_, rfl⟩) hS hZ ⟨(Nat.le_of_ble_eq_true rfl), (Nat.le_of_ble_eq_true rfl)⟩ d_A_elementData_6 (⟨rfl, rfl⟩)
set_option maxHeartbeats 4000000 in
set_option maxRecDepth 100000 in
theorem c_A_get (l : Launch) (G : zG) (n0 e0 : Nat) (w : zw) (a ar cap : Nat) (md n : Int32) (fa : Nat → Option Nat) (ha : w a = some (.inr (0, fA md (.ref ar) n))) (har : w ar = some (.inl (G.2 3, cap, .inr (.inr (.inr (.inr fa)))))) (i : Int32) (x : Nat) (h0 : ¬ i < 0) (h1 : i < n) (hin : vp_in i cap) (hfx : fa i.toNatClampNeg = some x) : Ct l G n0 e0 y_A_get b_A_get 2 (Option.some (FieldType.object "java/lang/Object")) ({ frames := 2, cells := 0, slots := 0, locals := 43 }) [.ref a, .int i] w (fun v w1 => v = some (.ref x) ∧ w1 = w) := by
  refine z_ct (by decide) (Nat.le_of_ble_eq_true rfl) ?_
  intro p e s m below meth c ls cx hnm hZ hS hl
  have hx := cx.1
  have hb := cx.2.1
  have hl : lv_has ls 2 [(0, .ref a), (1, .int i)] := hl
  refine lv_iload_n hx hb d_A_get_0 rfl (lv_at hl 1 rfl) ?_
  refine lv_aload_n hx hb d_A_get_1 rfl (lv_at hl 0 rfl) ?_
  refine gf_A_48 cx hZ ha rfl d_A_get_2 ?_
  refine is_A_118 (As := [.int i, .int n]) (rest := []) cx (c_Ob_checkIndex l G n0 e0 w i n h0 h1) ⟨(Nat.le_of_ble_eq_true rfl), (Nat.le_of_ble_eq_true rfl)⟩ ⟨(Nat.le_of_ble_eq_true rfl), (Nat.le_of_ble_eq_true rfl)⟩ rfl hl.1 rfl (Nat.le_of_ble_eq_true rfl) d_A_get_5 hZ hS (fun v w_1 H locs hp_2 hZ hS => ?_)
  obtain ⟨rfl, hq⟩ := hp_2
  subst w_1
  refine W.eq (g2 := F0 m 8 ls [.int i]) rfl ?_
  refine lv_pop hx hb d_A_get_8 rfl ?_
  refine lv_aload_n hx hb d_A_get_9 rfl (lv_at hl 0 rfl) ?_
  refine lv_iload_n hx hb d_A_get_10 rfl (lv_at hl 1 rfl) ?_
  refine iv_A_123 (As := [.int i]) (rest := []) cx (c_A_elementData l G n0 e0 w a ar cap md n fa ha har i x hin hfx) ha ⟨(Nat.le_of_ble_eq_true rfl), (Nat.le_of_ble_eq_true rfl)⟩ ⟨(Nat.le_of_ble_eq_true rfl), (Nat.le_of_ble_eq_true rfl)⟩ rfl hl.1 rfl (Nat.le_of_ble_eq_true rfl) d_A_get_11 hZ hS (fun v w_3 H locs hp_4 hZ hS => ?_)
  obtain ⟨rfl, hq⟩ := hp_4
  subst w_3
  refine W.eq (g2 := F0 m 14 ls [.ref x]) rfl ?_
  exact z_aret cx.1 cx.2.1 cx.rt cx.lk (by first | exact Or.inl ⟨_, rfl⟩ | exact Or.inr ⟨_, rfl⟩) (by first | exact Or.inl rfl | exact Or.inr ⟨_, rfl⟩) hS hZ ⟨(Nat.le_of_ble_eq_true rfl), (Nat.le_of_ble_eq_true rfl)⟩ d_A_get_14 (⟨rfl, rfl⟩)
end
section
theorem asg_IO {s : State} (hz : va_Nw (.castable "BoxDesk$Item" "java/lang/Object") s) : ∀ comp c0 : ClassId, s.vm.findClass "java/lang/Object" = some comp → s.vm.findClass "BoxDesk$Item" = some c0 → s.vm.assignable c0 comp = true := by
  intro comp c0 h1 h2
  obtain ⟨c1, t1, f1, f2, f3⟩ := Cond.castable_spec (va_Nw.use (A := #[]) rfl hz)
  cases f1.symm.trans h2
  cases f2.symm.trans h1
  exact f3
section CPY
variable {p : Program} {l : Launch} {e : Env} {R : Room} {s : State} {m : MethodId} {args : Array Value} {below : List Frame} {meth : Method} {c : Code} {H : Heap} {locs : List Loc} {cells slots : Nat} {Q : State → Prop}
variable {cc : ByteArray} {pc nL : Nat} {ls : Array Slot} {rest : List Value} {G : zG} {n0 e0 : Nat} {w : zw} {ret : Option FieldType} {a a0 : Nat}
theorem cp_o (cx : Cx G n0 e0 p s m args meth c cc nL "java/util/Arrays" ret) (hsz : ls.size = nL) (hZ : Zw G.1 vwC (zA n0) w H) (hS : va_S (zA n0) s.heap H locs) {k0 k1 : Nat} {f g : Nat → Option Nat} (ha0 : w a0 = some (.inl (G.2 3, k0, .inr (.inr (.inr (.inr f)))))) (ha1 : w a = some (.inl (G.2 3, k1, .inr (.inr (.inr (.inr g)))))) {n : Int32} (h3 : ¬ n < 0) (h4 : n.toNatClampNeg ≤ k0) (h5 : n.toNatClampNeg ≤ k1) (hel : ∀ i : Nat, i < n.toNatClampNeg → ∀ y : Nat, f i = some y → ∃ fs, w y = some (.inr (1, fs)))
    (hf : 1 ≤ R.frames) (hlo : (rest.map fun v => v.category).sum + 18 ≤ R.locals) (hdg : decode cc pc = .ok (.invokestatic 150, 3))
    (kk : ∀ (w1 : zw) (H1 : Heap) (locs1 : List Loc), w1 = va_up w a (some (.inl (G.2 3, k1, .inr (.inr (.inr (.inr (va_cpy f g 0 0 n.toNatClampNeg))))))) → Zw G.1 vwC (zA n0) w1 H1 → va_S (zA n0) s.heap H1 locs1 → W p l e R s m args below meth c H1 locs1 cells slots Q (F0 m (pc + 3) ls rest)) : W p l e R s m args below meth c H locs cells slots Q (F0 m pc ls (.int n :: .int 0 :: .ref a :: .int 0 :: .ref a0 :: rest)) := by
  have hZ' := hZ
  obtain ⟨ws, hP, hD, rfl⟩ := hZ
  obtain ⟨q0, hq0⟩ := z_lk_of ha0
  obtain ⟨q1, hq1⟩ := z_lk_of ha1
  refine va_copyq (C := "BoxDesk$Item") cx.1 cx.2.1 (by rw [cx.ml, hsz]) cx.ow (cx.tb _ tw_223) (cx.tb _ tw_225) (cx.tb _ tw_224) (cx.tb _ tw_11) cx.K hP hD hS q0 q1 3 3 hq0 hq1 rfl rfl (by decide) (by decide) h3 (by rw [show (0 : Int32).toNatClampNeg = 0 from rfl]; omega) (by rw [show (0 : Int32).toNatClampNeg = 0 from rfl]; omega) ?_ (asg_IO (cx.nw _ nw_834)) hf (by rw [show nativeFrameWords "java/lang/System" "arraycopy" 5 = 7 from by decide]; omega) hdg (fun H1 locs1 hP1 hD1 hS1 => kk _ H1 locs1 rfl ⟨_, hP1, hD1, z_lk_set hD hq1⟩ hS1)
  intro i hi y hy
  rw [show (0 : Int32).toNatClampNeg = 0 from rfl, Nat.zero_add] at hy
  obtain ⟨fs, hfs⟩ := hel i hi y hy
  exact hZ'.recv (q := (R_I, T_I, 12)) cx.K rfl hfs
theorem gc_o (cx : Cx G n0 e0 p s m args meth c cc nL "java/util/Arrays" ret) (hsz : ls.size = nL) (hZ : Zw G.1 vwC (zA n0) w H) {x : vp_A} (ha : w a = some (.inl (G.2 3, x))) (hf : 1 ≤ R.frames) (hlo : (rest.map fun v => v.category).sum + 14 ≤ R.locals) (hdg : decode cc pc = .ok (.invokevirtual 86, 3))
    (kk : W p l e R s m args below meth c H locs cells slots Q (F0 m (pc + 3) ls (.ref (G.2 6) :: rest))) : W p l e R s m args below meth c H locs cells slots Q (F0 m pc ls (.ref a :: rest)) := by
  have hn := va_nmO (nm := "[Ljava/lang/Object;") (cx.K.2 3 (G.2 3, .object "java/lang/Object") rfl).2 (by decide)
  have hat := (hZ.at ha).1
  refine va_getC (C := "[Ljava/lang/Object;") cx.1 cx.2.1 (by rw [cx.ml, hsz]) cx.ow (cx.tb _ tw_199) (va_Dc.use cx.X.2.2.2.2) (cx.tb _ tw_829) (cx.tb _ tw_200) (cx.tb _ tw_213) cx.X.2.2.2.1 ⟨_, hat, ?_, ?_⟩ hf hlo hdg kk
  · obtain ⟨k, d⟩ := x
    rcases d with d | d | d | d | d <;> rfl
  · rw [hn]
    obtain ⟨k, d⟩ := x
    rcases d with d | d | d | d | d <;> rfl
theorem lm_o (cx : Cx G n0 e0 p s m args meth c cc nL "java/util/Arrays" ret) (hdg : decode cc pc = .ok (.ldc 110, 2)) (kk : W p l e R s m args below meth c H locs cells slots Q (F0 m (pc + 2) ls (.ref (G.2 6) :: rest))) : W p l e R s m args below meth c H locs cells slots Q (F0 m pc ls rest) := va_ldcM cx.1 cx.2.1 cx.ow (cx.tb _ tw_217) cx.X.2.2.2.1 hdg kk
end CPY
end
section
theorem mn_nI {a b : Nat} (h : a ≤ b) (hb : b < 2 ^ 31) : (if nI b < nI a then nI b else nI a) = nI a := if_neg (nI_nlt h hb)
theorem mx_nI {a b : Nat} (h : b ≤ a) (ha : a < 2 ^ 31) : (if nI b < nI a then nI a else nI b) = nI a := by
  by_cases q : nI b < nI a
  · rw [if_pos q]
  · rw [if_neg q]
    have h3 : ¬ b < a := fun z => q ((nI_ltI (a := b) (b := a) (by omega) ha).mpr z)
    rw [show b = a by omega]
theorem sh1_nI {n : Nat} (h : n < 2 ^ 31) : nI n >>> ((1 : Int32) &&& 31) = nI (n / 2) := by
  have k := pk_shrN (n := n) h ((1 : Int32) &&& 31) 1 (by decide)
  rw [Nat.pow_one] at k
  exact k
theorem soft_nI {n : Nat} (h : n < 100000) : ¬ (2147483639 : Int32) < nI n := by
  rw [Int32.lt_iff_toInt_lt, nI_toInt (by omega)]
  have : (2147483639 : Int32).toInt = 2147483639 := by decide
  omega
theorem sub1_nI (n : Nat) : nI (n + 1) - nI n = nI 1 := by
  have k := pk_sub (a := n + 1) (b := n) (by omega)
  rw [Nat.add_sub_cancel_left] at k
  exact k
set_option maxHeartbeats 4000000 in
set_option maxRecDepth 100000 in
theorem c_copyOf3 (l : Launch) (G : zG) (n0 e0 : Nat) (w : zw) (ar cap N : Nat) (fa : Nat → Option Nat) (har : w ar = some (.inl (G.2 3, cap, .inr (.inr (.inr (.inr fa)))))) (hcN : cap ≤ N) (hN : N ≤ 100000) (hel : ∀ i : Nat, i < cap → ∀ y : Nat, fa i = some y → ∃ fs, w y = some (.inr (1, fs)))  : Ct l G n0 e0 y_Ar_copyOf_aOIC b_Ar_copyOf_aOIC 4 (Option.some (FieldType.array (FieldType.object "java/lang/Object"))) ({ frames := 1, cells := 1, slots := N, locals := 24 }) [.ref ar, .int (nI N), .ref (G.2 6)] w (fun v w1 => ∃ q, v = some (.ref q) ∧ w q = none ∧ w1 q = some (.inl (G.2 3, N, .inr (.inr (.inr (.inr (va_cpy fa (fun _ => none) 0 0 cap)))))) ∧ Fr [] w w1) := by
  refine z_ct (by decide) (Nat.le_of_ble_eq_true rfl) ?_
  intro p e s m below meth c ls cx hnm hZ hS hl
  have hx := cx.1
  have hb := cx.2.1
  have hl : lv_has ls 4 [(0, .ref ar), (1, .int (nI N)), (2, .ref (G.2 6))] := hl
  have hF : Fr [] w w := Fr.rf
  refine lv_aload_n hx hb d_Ar_copyOf_aOIC_0 rfl (lv_at hl 2 rfl) ?_
  refine lm_o cx d_Ar_copyOf_aOIC_1 ?_
  refine lv_acmp_ne (rx := (some (G.2 6))) (ry := (some (G.2 6))) (tgt := 13) hx hb d_Ar_copyOf_aOIC_3 (by decide) (fun c3 => ?_) (fun c3 => ?_)
  · exact absurd rfl c3
  · refine lv_iload_n hx hb d_Ar_copyOf_aOIC_6 rfl (lv_at hl 1 rfl) ?_
    refine nq_Ar_2 (N := N) cx hZ hS (nI_pos (by omega)) (nI_clamp (by omega)) (by omega) (by dsimp only; omega) (by dsimp only; omega) d_Ar_copyOf_aOIC_7 (fun q_1 w_2 H hq_4 hw_3 hZ hS => ?_)
    have hk_5 : w_2 ar = some (.inl (G.2 3, cap, .inr (.inr (.inr (.inr fa))))) := up_ne hw_3 har (z_neN har hq_4)
    have hn_6 := hF.2 _ hq_4
    have hF := hF.put hw_3 (Or.inr hn_6)
    have hc_7 : w_2 q_1 = some (.inl (G.2 3, N, .inr (.inr (.inr (.inr (fun _ => none)))))) := up_self hw_3
    refine lv_goto (tgt := 24) hx hb d_Ar_copyOf_aOIC_10 (by decide) ?_
    refine lv_astore_n (lv' := [(3, .ref q_1), (0, .ref ar), (1, .int (nI N)), (2, .ref (G.2 6))]) hx hb d_Ar_copyOf_aOIC_24 rfl hl (by decide) rfl (fun ls hl => ?_)
    refine lv_aload_n hx hb d_Ar_copyOf_aOIC_25 rfl (lv_at hl 1 rfl) ?_
    refine lv_iconst (v := 0) hx hb d_Ar_copyOf_aOIC_26 (by decide) ?_
    refine lv_aload_n hx hb d_Ar_copyOf_aOIC_27 rfl (lv_at hl 0 rfl) ?_
    refine lv_iconst (v := 0) hx hb d_Ar_copyOf_aOIC_28 (by decide) ?_
    refine lv_aload_n hx hb d_Ar_copyOf_aOIC_29 rfl (lv_at hl 1 rfl) ?_
    refine len_q3 cx hZ hk_5 d_Ar_copyOf_aOIC_30 ?_
    refine lv_iload_n hx hb d_Ar_copyOf_aOIC_31 rfl (lv_at hl 2 rfl) ?_
    refine mm_Ar_304 cx hl.1 d_Ar_copyOf_aOIC_32 (Nat.le_of_ble_eq_true rfl) (Nat.le_of_ble_eq_true rfl) (by dsimp only; omega) (by dsimp only; omega) ?_
    rw [show ((if (nI N) < (nI cap) then (nI N) else (nI cap)) : Int32) = nI cap from mn_nI hcN (by omega)]
    refine cp_o cx hl.1 hZ hS hk_5 hc_7 (nI_pos (by omega)) (by rw [nI_clamp (by omega)]; omega) (by rw [nI_clamp (by omega)]; omega) (fun i hi y hy => by rw [nI_clamp (by omega)] at hi; obtain ⟨fs, h⟩ := hel i hi y hy; exact ⟨fs, up_ne hw_3 h (z_neN h hq_4)⟩) (Nat.le_of_ble_eq_true rfl) (Nat.le_of_ble_eq_true rfl) d_Ar_copyOf_aOIC_35 (fun w_8 H locs hw_9 hZ hS => ?_)
    have hk_10 : w_8 ar = some (.inl (G.2 3, cap, .inr (.inr (.inr (.inr fa))))) := up_ne hw_9 hk_5 ((z_neN har hn_6))
    have hF := hF.put hw_9 (Or.inr hn_6)
    have hc_11 : w_8 q_1 = some (.inl (G.2 3, N, .inr (.inr (.inr (.inr (va_cpy fa (fun _ => none) 0 0 (nI cap).toNatClampNeg)))))) := up_self hw_9
    refine lv_aload_n hx hb d_Ar_copyOf_aOIC_38 rfl (lv_at hl 0 rfl) ?_
    exact z_aret cx.1 cx.2.1 cx.rt cx.lk (by first | exact Or.inl ⟨_, rfl⟩ | exact Or.inr ⟨_, rfl⟩) (by first | exact Or.inl rfl | exact Or.inr ⟨_, rfl⟩) hS hZ ⟨(by dsimp only; omega), (by dsimp only; omega)⟩ d_Ar_copyOf_aOIC_39 (⟨q_1, rfl, hn_6, (by have := hc_11; rw [nI_clamp (by omega)] at this; exact this), hF⟩)
set_option maxHeartbeats 4000000 in
set_option maxRecDepth 100000 in
theorem c_copyOf2 (l : Launch) (G : zG) (n0 e0 : Nat) (w : zw) (ar cap N : Nat) (fa : Nat → Option Nat) (har : w ar = some (.inl (G.2 3, cap, .inr (.inr (.inr (.inr fa)))))) (hcN : cap ≤ N) (hN : N ≤ 100000) (hel : ∀ i : Nat, i < cap → ∀ y : Nat, fa i = some y → ∃ fs, w y = some (.inr (1, fs)))  : Ct l G n0 e0 y_Ar_copyOf_aOI b_Ar_copyOf_aOI 2 (Option.some (FieldType.array (FieldType.object "java/lang/Object"))) ({ frames := 2, cells := 1, slots := N, locals := 47 }) [.ref ar, .int (nI N)] w (fun v w1 => ∃ q, v = some (.ref q) ∧ w q = none ∧ w1 q = some (.inl (G.2 3, N, .inr (.inr (.inr (.inr (va_cpy fa (fun _ => none) 0 0 cap)))))) ∧ Fr [] w w1) := by
  refine z_ct (by decide) (Nat.le_of_ble_eq_true rfl) ?_
  intro p e s m below meth c ls cx hnm hZ hS hl
  have hx := cx.1
  have hb := cx.2.1
  have hl : lv_has ls 2 [(0, .ref ar), (1, .int (nI N))] := hl
  have hF : Fr [] w w := Fr.rf
  refine lv_aload_n hx hb d_Ar_copyOf_aOI_0 rfl (lv_at hl 0 rfl) ?_
  refine lv_iload_n hx hb d_Ar_copyOf_aOI_1 rfl (lv_at hl 1 rfl) ?_
  refine lv_aload_n hx hb d_Ar_copyOf_aOI_2 rfl (lv_at hl 0 rfl) ?_
  refine gc_o cx hl.1 hZ har (Nat.le_of_ble_eq_true rfl) (Nat.le_of_ble_eq_true rfl) d_Ar_copyOf_aOI_3 ?_
  refine is_Ar_300 (As := [.ref ar, .int (nI N), .ref (G.2 6)]) (rest := []) cx (c_copyOf3 l G n0 e0 w ar cap N fa har hcN hN hel) ⟨(Nat.le_of_ble_eq_true rfl), (Nat.le_of_ble_eq_true rfl)⟩ ⟨(by dsimp only; omega), (by dsimp only; omega)⟩ rfl hl.1 rfl (Nat.le_of_ble_eq_true rfl) d_Ar_copyOf_aOI_6 hZ hS (fun v w_2 H locs hp_3 hZ hS => ?_)
  obtain ⟨q_1, rfl, hc_4, hc_5, hf_6⟩ := hp_3
  have hk_7 : w_2 ar = some (.inl (G.2 3, cap, .inr (.inr (.inr (.inr fa))))) := hf_6.keep har (by simp)
  have hn_8 := hF.2 _ hc_4
  have hF := hF.call hf_6 (fun _ h => absurd h List.not_mem_nil)
  refine W.eq (g2 := F0 m 9 ls [.ref q_1]) rfl ?_
  exact z_aret cx.1 cx.2.1 cx.rt cx.lk (by first | exact Or.inl ⟨_, rfl⟩ | exact Or.inr ⟨_, rfl⟩) (by first | exact Or.inl rfl | exact Or.inr ⟨_, rfl⟩) hS hZ ⟨(by dsimp only; omega), (by dsimp only; omega)⟩ d_Ar_copyOf_aOI_9 (⟨q_1, rfl, hn_8, hc_5, hF⟩)
set_option maxHeartbeats 4000000 in
set_option maxRecDepth 100000 in
theorem c_newLength (l : Launch) (G : zG) (n0 e0 : Nat) (w : zw) (a b d : Nat) (hbd : b ≤ d) (hd : 1 ≤ d) (had : a + d < 100000) : Ct l G n0 e0 y_As_newLength b_As_newLength 4 (Option.some FieldType.int) ({ frames := 1, cells := 0, slots := 0, locals := 24 }) [.int (nI a), .int (nI b), .int (nI d)] w (fun v w1 => v = some (.int (nI (a + d))) ∧ w1 = w) := by
  refine z_ct (by decide) (Nat.le_of_ble_eq_true rfl) ?_
  intro p e s m below meth c ls cx hnm hZ hS hl
  have hx := cx.1
  have hb := cx.2.1
  have hl : lv_has ls 4 [(0, .int (nI a)), (1, .int (nI b)), (2, .int (nI d))] := hl
  refine lv_iload_n hx hb d_As_newLength_0 rfl (lv_at hl 0 rfl) ?_
  refine lv_iload_n hx hb d_As_newLength_1 rfl (lv_at hl 1 rfl) ?_
  refine lv_iload_n hx hb d_As_newLength_2 rfl (lv_at hl 2 rfl) ?_
  refine mm_As_194 cx hl.1 d_As_newLength_3 (Nat.le_of_ble_eq_true rfl) (Nat.le_of_ble_eq_true rfl) (Nat.le_of_ble_eq_true rfl) (Nat.le_of_ble_eq_true rfl) ?_
  rw [show ((if (nI b) < (nI d) then (nI d) else (nI b)) : Int32) = nI d from mx_nI hbd (by omega)]
  refine lv_iadd hx hb d_As_newLength_6 ?_
  rw [show (((nI a) + (nI d)) : Int32) = nI (a + d) from nI_add a d]
  refine lv_istore_n (lv' := [(3, .int (nI (a + d))), (0, .int (nI a)), (1, .int (nI b)), (2, .int (nI d))]) hx hb d_As_newLength_7 rfl hl (by decide) rfl (fun ls hl => ?_)
  refine lv_iconst (v := 0) hx hb d_As_newLength_8 (by decide) ?_
  refine lv_iload_n hx hb d_As_newLength_9 rfl (lv_at hl 0 rfl) ?_
  refine lv_icmp_ge (tgt := 21) hx hb d_As_newLength_10 (by decide) (fun c10 => ?_) (fun c10 => ?_)
  · exact absurd c10 (nI_nle (by omega) (by omega))
  · refine lv_iload_n hx hb d_As_newLength_13 rfl (lv_at hl 0 rfl) ?_
    refine lc_As_200 cx d_As_newLength_14 ?_
    refine lv_icmp_gt (tgt := 21) hx hb d_As_newLength_16 (by decide) (fun c16 => ?_) (fun c16 => ?_)
    · exact absurd c16 (soft_nI (by omega))
    · refine lv_iload_n hx hb d_As_newLength_19 rfl (lv_at hl 0 rfl) ?_
      exact z_iret cx.1 cx.2.1 cx.rt cx.lk hS hZ ⟨(Nat.le_of_ble_eq_true rfl), (Nat.le_of_ble_eq_true rfl)⟩ d_As_newLength_20 (⟨rfl, rfl⟩)
set_option maxHeartbeats 4000000 in
set_option maxRecDepth 100000 in
theorem c_grow1_full (l : Launch) (G : zG) (n0 e0 : Nat) (w : zw) (a ar cap : Nat) (md : Int32) (fa : Nat → Option Nat) (ha : w a = some (.inr (0, fA md (.ref ar) (nI cap)))) (har : w ar = some (.inl (G.2 3, cap, .inr (.inr (.inr (.inr fa)))))) (hc : 10 ≤ cap) (hcc : cap ≤ 60000) (hel : ∀ i : Nat, i < cap → ∀ y : Nat, fa i = some y → ∃ fs, w y = some (.inr (1, fs)))  : Ct l G n0 e0 y_A_grow_I b_A_grow_I 4 (Option.some (FieldType.array (FieldType.object "java/lang/Object"))) ({ frames := 3, cells := 1, slots := cap + cap / 2, locals := 68 }) [.ref a, .int (nI (cap + 1))] w (fun v w1 => ∃ q, v = some (.ref q) ∧ w q = none ∧ w1 q = some (.inl (G.2 3, cap + cap / 2, .inr (.inr (.inr (.inr (va_cpy fa (fun _ => none) 0 0 cap)))))) ∧ w1 a = some (.inr (0, fA md (.ref q) (nI cap))) ∧ Fr [a] w w1) := by
  refine z_ct (by decide) (Nat.le_of_ble_eq_true rfl) ?_
  intro p e s m below meth c ls cx hnm hZ hS hl
  have hx := cx.1
  have hb := cx.2.1
  have hl : lv_has ls 4 [(0, .ref a), (1, .int (nI (cap + 1)))] := hl
  have hF : Fr [a] w w := Fr.rf
  refine lv_aload_n hx hb d_A_grow_I_0 rfl (lv_at hl 0 rfl) ?_
  refine gf_A_9 cx hZ ha rfl d_A_grow_I_1 ?_
  refine len_q3 cx hZ har d_A_grow_I_4 ?_
  refine lv_istore_n (lv' := [(2, .int (nI cap)), (0, .ref a), (1, .int (nI (cap + 1)))]) hx hb d_A_grow_I_5 rfl hl (by decide) rfl (fun ls hl => ?_)
  refine lv_iload_n hx hb d_A_grow_I_6 rfl (lv_at hl 0 rfl) ?_
  refine lv_if_gt (tgt := 20) hx hb d_A_grow_I_7 (by decide) (fun c7 => ?_) (fun c7 => ?_)
  · refine lv_iload_n hx hb d_A_grow_I_20 rfl (lv_at hl 0 rfl) ?_
    refine lv_iload_n hx hb d_A_grow_I_21 rfl (lv_at hl 2 rfl) ?_
    refine lv_iload_n hx hb d_A_grow_I_22 rfl (lv_at hl 0 rfl) ?_
    refine lv_isub hx hb d_A_grow_I_23 ?_
    rw [show (((nI (cap + 1)) - (nI cap)) : Int32) = nI 1 from sub1_nI cap]
    refine lv_iload_n hx hb d_A_grow_I_24 rfl (lv_at hl 0 rfl) ?_
    refine lv_iconst (v := 1) hx hb d_A_grow_I_25 (by decide) ?_
    refine lv_ishr hx hb d_A_grow_I_26 ?_
    rw [show (((nI cap) >>> (1 &&& 31)) : Int32) = nI (cap / 2) from sh1_nI (by omega)]
    refine is_A_73 (As := [.int (nI cap), .int (nI 1), .int (nI (cap / 2))]) (rest := []) cx (c_newLength l G n0 e0 w cap 1 (cap / 2) (by omega) (by omega) (by omega)) ⟨(Nat.le_of_ble_eq_true rfl), (Nat.le_of_ble_eq_true rfl)⟩ ⟨(by dsimp only; omega), (by dsimp only; omega)⟩ rfl hl.1 rfl (Nat.le_of_ble_eq_true rfl) d_A_grow_I_27 hZ hS (fun v w_1 H locs hp_2 hZ hS => ?_)
    obtain ⟨rfl, hq⟩ := hp_2
    subst w_1
    refine W.eq (g2 := F0 m 30 ls [.int (nI (cap + cap / 2))]) rfl ?_
    refine lv_istore_n (lv' := [(3, .int (nI (cap + cap / 2))), (2, .int (nI cap)), (0, .ref a), (1, .int (nI (cap + 1)))]) hx hb d_A_grow_I_30 rfl hl (by decide) rfl (fun ls hl => ?_)
    refine lv_aload_n hx hb d_A_grow_I_31 rfl (lv_at hl 2 rfl) ?_
    refine lv_aload_n hx hb d_A_grow_I_32 rfl (lv_at hl 2 rfl) ?_
    refine gf_A_9 cx hZ ha rfl d_A_grow_I_33 ?_
    refine lv_iload_n hx hb d_A_grow_I_36 rfl (lv_at hl 0 rfl) ?_
    refine is_A_66 (As := [.ref ar, .int (nI (cap + cap / 2))]) (rest := [.ref a]) cx (c_copyOf2 l G n0 e0 w ar cap (cap + cap / 2) fa har (by omega) (by omega) hel) ⟨(Nat.le_of_ble_eq_true rfl), (Nat.le_of_ble_eq_true rfl)⟩ ⟨(by dsimp only; omega), (by dsimp only; omega)⟩ rfl hl.1 rfl (Nat.le_of_ble_eq_true rfl) d_A_grow_I_37 hZ hS (fun v w_4 H locs hp_5 hZ hS => ?_)
    obtain ⟨q_3, rfl, hc_6, hc_7, hf_8⟩ := hp_5
    have hk_9 : w_4 a = some (.inr (0, [.int md, .ref ar, .int (nI cap)])) := hf_8.keep ha (by simp)
    have hk_10 : w_4 ar = some (.inl (G.2 3, cap, .inr (.inr (.inr (.inr fa))))) := hf_8.keep har (by simp)
    have hn_11 := hF.2 _ hc_6
    have hF := hF.call hf_8 (fun _ h => absurd h List.not_mem_nil)
    refine W.eq (g2 := F0 m 40 ls [.ref q_3, .ref a]) rfl ?_
    refine lv_dup_x1 hx hb d_A_grow_I_40 rfl rfl ?_
    refine pf_A_9 cx hZ hS hk_9 (Nat.le_of_ble_eq_true rfl) d_A_grow_I_41 (fun w_12 H locs hw_13 hZ hS => ?_)
    have hk_14 : w_12 ar = some (.inl (G.2 3, cap, .inr (.inr (.inr (.inr fa))))) := up_ne hw_13 hk_10 (z_ne hk_10 hk_9 (by simp))
    have hk_15 : w_12 q_3 = some (.inl (G.2 3, (cap + cap / 2), .inr (.inr (.inr (.inr (va_cpy fa (fun _ => none) 0 0 cap)))))) := up_ne hw_13 hc_7 ((Ne.symm (z_neN ha hn_11)))
    have hF := hF.put hw_13 (Or.inl (by simp))
    have hc_16 : w_12 a = some (.inr (0, [.int md, .ref q_3, .int (nI cap)])) := up_self hw_13
    exact z_aret cx.1 cx.2.1 cx.rt cx.lk (by first | exact Or.inl ⟨_, rfl⟩ | exact Or.inr ⟨_, rfl⟩) (by first | exact Or.inl rfl | exact Or.inr ⟨_, rfl⟩) hS hZ ⟨(by dsimp only; omega), (by dsimp only; omega)⟩ d_A_grow_I_44 (⟨q_3, rfl, hn_11, hk_15, hc_16, hF⟩)
  · exact absurd (nI_lt (show 0 < cap by omega) (by omega)) c7
set_option maxHeartbeats 4000000 in
set_option maxRecDepth 100000 in
theorem c_grow0_full (l : Launch) (G : zG) (n0 e0 : Nat) (w : zw) (a ar cap : Nat) (md : Int32) (fa : Nat → Option Nat) (ha : w a = some (.inr (0, fA md (.ref ar) (nI cap)))) (har : w ar = some (.inl (G.2 3, cap, .inr (.inr (.inr (.inr fa)))))) (hc : 10 ≤ cap) (hcc : cap ≤ 60000) (hel : ∀ i : Nat, i < cap → ∀ y : Nat, fa i = some y → ∃ fs, w y = some (.inr (1, fs)))  : Ct l G n0 e0 y_A_grow_0 b_A_grow_0 1 (Option.some (FieldType.array (FieldType.object "java/lang/Object"))) ({ frames := 4, cells := 1, slots := cap + cap / 2, locals := 91 }) [.ref a] w (fun v w1 => ∃ q, v = some (.ref q) ∧ w q = none ∧ w1 q = some (.inl (G.2 3, cap + cap / 2, .inr (.inr (.inr (.inr (va_cpy fa (fun _ => none) 0 0 cap)))))) ∧ w1 a = some (.inr (0, fA md (.ref q) (nI cap))) ∧ Fr [a] w w1) := by
  refine z_ct (by decide) (Nat.le_of_ble_eq_true rfl) ?_
  intro p e s m below meth c ls cx hnm hZ hS hl
  have hx := cx.1
  have hb := cx.2.1
  have hl : lv_has ls 1 [(0, .ref a)] := hl
  have hF : Fr [a] w w := Fr.rf
  refine lv_aload_n hx hb d_A_grow_0_0 rfl (lv_at hl 0 rfl) ?_
  refine lv_aload_n hx hb d_A_grow_0_1 rfl (lv_at hl 0 rfl) ?_
  refine gf_A_48 cx hZ ha rfl d_A_grow_0_2 ?_
  refine lv_iconst (v := 1) hx hb d_A_grow_0_5 (by decide) ?_
  refine lv_iadd hx hb d_A_grow_0_6 ?_
  rw [show (((nI cap) + 1) : Int32) = nI (cap + 1) from nI_1 cap]
  refine iv_A_69 (As := [.int (nI (cap + 1))]) (rest := []) cx (c_grow1_full l G n0 e0 w a ar cap md fa ha har hc hcc hel) ha ⟨(Nat.le_of_ble_eq_true rfl), (Nat.le_of_ble_eq_true rfl)⟩ ⟨(by dsimp only; omega), (by dsimp only; omega)⟩ rfl hl.1 rfl (Nat.le_of_ble_eq_true rfl) d_A_grow_0_7 hZ hS (fun v w_2 H locs hp_3 hZ hS => ?_)
  obtain ⟨q_1, rfl, hc_4, hc_5, hc_6, hf_7⟩ := hp_3
  have hk_8 : w_2 ar = some (.inl (G.2 3, cap, .inr (.inr (.inr (.inr fa))))) := hf_7.keep har (by simp only [List.mem_cons, List.not_mem_nil, or_false, not_or]; exact z_ne har ha (by simp))
  have hn_9 := hF.2 _ hc_4
  have hF := hF.call hf_7 (List.forall_mem_cons.mpr ⟨Or.inl (by simp), fun _ h => absurd h List.not_mem_nil⟩)
  refine W.eq (g2 := F0 m 10 ls [.ref q_1]) rfl ?_
  exact z_aret cx.1 cx.2.1 cx.rt cx.lk (by first | exact Or.inl ⟨_, rfl⟩ | exact Or.inr ⟨_, rfl⟩) (by first | exact Or.inl rfl | exact Or.inr ⟨_, rfl⟩) hS hZ ⟨(by dsimp only; omega), (by dsimp only; omega)⟩ d_A_grow_0_10 (⟨q_1, rfl, hn_9, hc_5, hc_6, hF⟩)
set_option maxHeartbeats 4000000 in
set_option maxRecDepth 100000 in
theorem c_grow1_first (l : Launch) (G : zG) (n0 e0 : Nat) (w : zw) (a : Nat) (md : Int32) (ha : w a = some (.inr (0, fA md (.ref e0) 0)))  : Ct l G n0 e0 y_A_grow_I b_A_grow_I 4 (Option.some (FieldType.array (FieldType.object "java/lang/Object"))) ({ frames := 3, cells := 1, slots := 10, locals := 68 }) [.ref a, .int 1] w (fun v w1 => ∃ q, v = some (.ref q) ∧ w q = none ∧ w1 q = some (.inl (G.2 3, 10, .inr (.inr (.inr (.inr (fun _ => none)))))) ∧ w1 a = some (.inr (0, fA md (.ref q) 0)) ∧ Fr [a] w w1) := by
  refine z_ct (by decide) (Nat.le_of_ble_eq_true rfl) ?_
  intro p e s m below meth c ls cx hnm hZ hS hl
  have hx := cx.1
  have hb := cx.2.1
  have hl : lv_has ls 4 [(0, .ref a), (1, .int 1)] := hl
  have hF : Fr [a] w w := Fr.rf
  refine lv_aload_n hx hb d_A_grow_I_0 rfl (lv_at hl 0 rfl) ?_
  refine gf_A_9 cx hZ ha rfl d_A_grow_I_1 ?_
  refine va_tlen cx.1 cx.2.1 cx.X.2.2.1 hS (v := 0) rfl d_A_grow_I_4 ?_
  refine lv_istore_n (lv' := [(2, .int 0), (0, .ref a), (1, .int 1)]) hx hb d_A_grow_I_5 rfl hl (by decide) rfl (fun ls hl => ?_)
  refine lv_iload_n hx hb d_A_grow_I_6 rfl (lv_at hl 0 rfl) ?_
  refine lv_if_gt (tgt := 20) hx hb d_A_grow_I_7 (by decide) (fun c7 => ?_) (fun c7 => ?_)
  · exact absurd c7 (by decide)
  · refine lv_aload_n hx hb d_A_grow_I_10 rfl (lv_at hl 1 rfl) ?_
    refine gf_A_9 cx hZ ha rfl d_A_grow_I_11 ?_
    refine gs_A_39 cx hS d_A_grow_I_14 ?_
    refine lv_acmp_eq (rx := (some e0)) (ry := (some e0)) (tgt := 45) hx hb d_A_grow_I_17 (by decide) (fun c17 => ?_) (fun c17 => ?_)
    · refine lv_aload_n hx hb d_A_grow_I_45 rfl (lv_at hl 1 rfl) ?_
      refine lv_bipush (v := 10) hx hb d_A_grow_I_46 (by decide) ?_
      refine lv_iload_n hx hb d_A_grow_I_48 rfl (lv_at hl 2 rfl) ?_
      refine mm_A_79 cx hl.1 d_A_grow_I_49 (Nat.le_of_ble_eq_true rfl) (Nat.le_of_ble_eq_true rfl) (Nat.le_of_ble_eq_true rfl) (Nat.le_of_ble_eq_true rfl) ?_
      rw [show ((if (10 : Int32) < (1 : Int32) then (1 : Int32) else (10 : Int32)) : Int32) = 10 from by decide]
      refine nq_A_7 (N := 10) cx hZ hS (by decide) (by decide) (Nat.le_of_ble_eq_true rfl) (Nat.le_of_ble_eq_true rfl) (Nat.le_of_ble_eq_true rfl) d_A_grow_I_52 (fun q_1 w_2 H hq_4 hw_3 hZ hS => ?_)
      have hk_5 : w_2 a = some (.inr (0, [.int md, .ref e0, .int 0])) := up_ne hw_3 ha (z_neN ha hq_4)
      have hn_6 := hF.2 _ hq_4
      have hF := hF.put hw_3 (Or.inr hn_6)
      have hc_7 : w_2 q_1 = some (.inl (G.2 3, 10, .inr (.inr (.inr (.inr (fun _ => none)))))) := up_self hw_3
      refine lv_dup_x1 hx hb d_A_grow_I_55 rfl rfl ?_
      refine pf_A_9 cx hZ hS hk_5 (Nat.le_of_ble_eq_true rfl) d_A_grow_I_56 (fun w_8 H locs hw_9 hZ hS => ?_)
      have hk_10 : w_8 q_1 = some (.inl (G.2 3, 10, .inr (.inr (.inr (.inr (fun _ => none)))))) := up_ne hw_9 hc_7 ((Ne.symm (z_neN ha hn_6)))
      have hF := hF.put hw_9 (Or.inl (by simp))
      have hc_11 : w_8 a = some (.inr (0, [.int md, .ref q_1, .int 0])) := up_self hw_9
      exact z_aret cx.1 cx.2.1 cx.rt cx.lk (by first | exact Or.inl ⟨_, rfl⟩ | exact Or.inr ⟨_, rfl⟩) (by first | exact Or.inl rfl | exact Or.inr ⟨_, rfl⟩) hS hZ ⟨(Nat.le_of_ble_eq_true rfl), (Nat.le_of_ble_eq_true rfl)⟩ d_A_grow_I_59 (⟨q_1, rfl, hn_6, hk_10, hc_11, hF⟩)
    · exact absurd rfl c17
set_option maxHeartbeats 4000000 in
set_option maxRecDepth 100000 in
theorem c_grow0_first (l : Launch) (G : zG) (n0 e0 : Nat) (w : zw) (a : Nat) (md : Int32) (ha : w a = some (.inr (0, fA md (.ref e0) 0)))  : Ct l G n0 e0 y_A_grow_0 b_A_grow_0 1 (Option.some (FieldType.array (FieldType.object "java/lang/Object"))) ({ frames := 4, cells := 1, slots := 10, locals := 91 }) [.ref a] w (fun v w1 => ∃ q, v = some (.ref q) ∧ w q = none ∧ w1 q = some (.inl (G.2 3, 10, .inr (.inr (.inr (.inr (fun _ => none)))))) ∧ w1 a = some (.inr (0, fA md (.ref q) 0)) ∧ Fr [a] w w1) := by
  refine z_ct (by decide) (Nat.le_of_ble_eq_true rfl) ?_
  intro p e s m below meth c ls cx hnm hZ hS hl
  have hx := cx.1
  have hb := cx.2.1
  have hl : lv_has ls 1 [(0, .ref a)] := hl
  have hF : Fr [a] w w := Fr.rf
  refine lv_aload_n hx hb d_A_grow_0_0 rfl (lv_at hl 0 rfl) ?_
  refine lv_aload_n hx hb d_A_grow_0_1 rfl (lv_at hl 0 rfl) ?_
  refine gf_A_48 cx hZ ha rfl d_A_grow_0_2 ?_
  refine lv_iconst (v := 1) hx hb d_A_grow_0_5 (by decide) ?_
  refine lv_iadd hx hb d_A_grow_0_6 ?_
  rw [show ((0 + 1) : Int32) = 1 from by decide]
  refine iv_A_69 (As := [.int 1]) (rest := []) cx (c_grow1_first l G n0 e0 w a md ha) ha ⟨(Nat.le_of_ble_eq_true rfl), (Nat.le_of_ble_eq_true rfl)⟩ ⟨(Nat.le_of_ble_eq_true rfl), (Nat.le_of_ble_eq_true rfl)⟩ rfl hl.1 rfl (Nat.le_of_ble_eq_true rfl) d_A_grow_0_7 hZ hS (fun v w_2 H locs hp_3 hZ hS => ?_)
  obtain ⟨q_1, rfl, hc_4, hc_5, hc_6, hf_7⟩ := hp_3
  have hn_8 := hF.2 _ hc_4
  have hF := hF.call hf_7 (List.forall_mem_cons.mpr ⟨Or.inl (by simp), fun _ h => absurd h List.not_mem_nil⟩)
  refine W.eq (g2 := F0 m 10 ls [.ref q_1]) rfl ?_
  exact z_aret cx.1 cx.2.1 cx.rt cx.lk (by first | exact Or.inl ⟨_, rfl⟩ | exact Or.inr ⟨_, rfl⟩) (by first | exact Or.inl rfl | exact Or.inr ⟨_, rfl⟩) hS hZ ⟨(Nat.le_of_ble_eq_true rfl), (Nat.le_of_ble_eq_true rfl)⟩ d_A_grow_0_10 (⟨q_1, rfl, hn_8, hc_5, hc_6, hF⟩)
set_option maxHeartbeats 4000000 in
set_option maxRecDepth 100000 in
theorem c_add3_room (l : Launch) (G : zG) (n0 e0 : Nat) (w : zw) (a ar cap n : Nat) (md : Int32) (fa : Nat → Option Nat) (ha : w a = some (.inr (0, fA md (.ref ar) (nI n)))) (har : w ar = some (.inl (G.2 3, cap, .inr (.inr (.inr (.inr fa)))))) (hn : n < cap) (hcc : cap ≤ 60000) (x : Nat) (fx : List Value) (hxi : w x = some (.inr (1, fx)))  : Ct l G n0 e0 y_A_add_OaOI b_A_add_OaOI 4 (Option.none : Option FieldType) ({ frames := 4, cells := 0, slots := 0, locals := 91 }) [.ref a, .ref x, .ref ar, .int (nI n)] w (fun v w1 => v = none ∧ w1 a = some (.inr (0, fA md (.ref ar) (nI (n + 1)))) ∧ w1 ar = some (.inl (G.2 3, cap, .inr (.inr (.inr (.inr (va_up fa n (some x))))))) ∧ Fr [a, ar] w w1) := by
  refine z_ct (by decide) (Nat.le_of_ble_eq_true rfl) ?_
  intro p e s m below meth c ls cx hnm hZ hS hl
  have hx := cx.1
  have hb := cx.2.1
  have hl : lv_has ls 4 [(0, .ref a), (1, .ref x), (2, .ref ar), (3, .int (nI n))] := hl
  have hF : Fr [a, ar] w w := Fr.rf
  refine lv_iload_n hx hb d_A_add_OaOI_0 rfl (lv_at hl 3 rfl) ?_
  refine lv_aload_n hx hb d_A_add_OaOI_1 rfl (lv_at hl 2 rfl) ?_
  refine len_q3 cx hZ har d_A_add_OaOI_2 ?_
  refine lv_icmp_ne (tgt := 11) hx hb d_A_add_OaOI_3 (by decide) (fun c3 => ?_) (fun c3 => ?_)
  · refine lv_aload_n hx hb d_A_add_OaOI_11 rfl (lv_at hl 2 rfl) ?_
    refine lv_iload_n hx hb d_A_add_OaOI_12 rfl (lv_at hl 3 rfl) ?_
    refine lv_aload_n hx hb d_A_add_OaOI_13 rfl (lv_at hl 1 rfl) ?_
    refine st_o cx hZ hS har hxi (vp_in_nI hn (by omega)) d_A_add_OaOI_14 (fun w_1 H locs hw_2 hZ hS => ?_)
    have hk_3 : w_1 a = some (.inr (0, [.int md, .ref ar, .int (nI n)])) := up_ne hw_2 ha (z_ne ha har (by simp))
    have hk_4 : w_1 x = some (.inr (1, fx)) := up_ne hw_2 hxi (z_ne hxi har (by simp))
    have hF := hF.put hw_2 (Or.inl (by simp))
    have hc_5 : w_1 ar = some (.inl (G.2 3, cap, .inr (.inr (.inr (.inr (va_up fa (nI n).toNatClampNeg (some x))))))) := up_self hw_2
    refine lv_aload_n hx hb d_A_add_OaOI_15 rfl (lv_at hl 0 rfl) ?_
    refine lv_iload_n hx hb d_A_add_OaOI_16 rfl (lv_at hl 3 rfl) ?_
    refine lv_iconst (v := 1) hx hb d_A_add_OaOI_17 (by decide) ?_
    refine lv_iadd hx hb d_A_add_OaOI_18 ?_
    rw [show (((nI n) + 1) : Int32) = nI (n + 1) from nI_1 n]
    refine pf_A_48 cx hZ hS hk_3 (Nat.le_of_ble_eq_true rfl) d_A_add_OaOI_19 (fun w_6 H locs hw_7 hZ hS => ?_)
    have hk_8 : w_6 x = some (.inr (1, fx)) := up_ne hw_7 hk_4 (z_ne hk_4 hk_3 (by simp))
    have hk_9 : w_6 ar = some (.inl (G.2 3, cap, .inr (.inr (.inr (.inr (va_up fa (nI n).toNatClampNeg (some x))))))) := up_ne hw_7 hc_5 (z_ne hc_5 hk_3 (by simp))
    have hF := hF.put hw_7 (Or.inl (by simp))
    have hc_10 : w_6 a = some (.inr (0, [.int md, .ref ar, .int (nI (n + 1))])) := up_self hw_7
    exact z_vret cx.1 cx.2.1 cx.rt cx.lk hS hZ ⟨(Nat.le_of_ble_eq_true rfl), (Nat.le_of_ble_eq_true rfl)⟩ d_A_add_OaOI_22 (⟨rfl, hc_10, (by have := hk_9; rw [nI_clamp (by omega)] at this; exact this), hF⟩)
  · exact absurd ((nI_eq (by omega) (by omega)).mp c3) (by omega)
set_option maxHeartbeats 4000000 in
set_option maxRecDepth 100000 in
theorem c_add3_full (l : Launch) (G : zG) (n0 e0 : Nat) (w : zw) (a ar cap : Nat) (md : Int32) (fa : Nat → Option Nat) (ha : w a = some (.inr (0, fA md (.ref ar) (nI cap)))) (har : w ar = some (.inl (G.2 3, cap, .inr (.inr (.inr (.inr fa)))))) (hc : 10 ≤ cap) (hcc : cap ≤ 60000) (hel : ∀ i : Nat, i < cap → ∀ y : Nat, fa i = some y → ∃ fs, w y = some (.inr (1, fs))) (x : Nat) (fx : List Value) (hxi : w x = some (.inr (1, fx)))  : Ct l G n0 e0 y_A_add_OaOI b_A_add_OaOI 4 (Option.none : Option FieldType) ({ frames := 5, cells := 1, slots := cap + cap / 2, locals := 111 }) [.ref a, .ref x, .ref ar, .int (nI cap)] w (fun v w1 => ∃ q, v = none ∧ w q = none ∧ w1 q = some (.inl (G.2 3, cap + cap / 2, .inr (.inr (.inr (.inr (va_up (va_cpy fa (fun _ => none) 0 0 cap) cap (some x))))))) ∧ w1 a = some (.inr (0, fA md (.ref q) (nI (cap + 1)))) ∧ Fr [a] w w1) := by
  refine z_ct (by decide) (Nat.le_of_ble_eq_true rfl) ?_
  intro p e s m below meth c ls cx hnm hZ hS hl
  have hx := cx.1
  have hb := cx.2.1
  have hl : lv_has ls 4 [(0, .ref a), (1, .ref x), (2, .ref ar), (3, .int (nI cap))] := hl
  have hF : Fr [a] w w := Fr.rf
  refine lv_iload_n hx hb d_A_add_OaOI_0 rfl (lv_at hl 3 rfl) ?_
  refine lv_aload_n hx hb d_A_add_OaOI_1 rfl (lv_at hl 2 rfl) ?_
  refine len_q3 cx hZ har d_A_add_OaOI_2 ?_
  refine lv_icmp_ne (tgt := 11) hx hb d_A_add_OaOI_3 (by decide) (fun c3 => ?_) (fun c3 => ?_)
  · exact absurd rfl c3
  · refine lv_aload_n hx hb d_A_add_OaOI_6 rfl (lv_at hl 0 rfl) ?_
    refine iv_A_129 (As := []) (rest := []) cx (c_grow0_full l G n0 e0 w a ar cap md fa ha har hc hcc hel) ha ⟨(Nat.le_of_ble_eq_true rfl), (Nat.le_of_ble_eq_true rfl)⟩ ⟨(by dsimp only; omega), (by dsimp only; omega)⟩ rfl hl.1 rfl (Nat.le_of_ble_eq_true rfl) d_A_add_OaOI_7 hZ hS (fun v w_2 H locs hp_3 hZ hS => ?_)
    obtain ⟨q_1, rfl, hc_4, hc_5, hc_6, hf_7⟩ := hp_3
    have hk_8 : w_2 x = some (.inr (1, fx)) := hf_7.keep hxi (by simp only [List.mem_cons, List.not_mem_nil, or_false, not_or]; exact z_ne hxi ha (by simp))
    have hk_9 : w_2 ar = some (.inl (G.2 3, cap, .inr (.inr (.inr (.inr fa))))) := hf_7.keep har (by simp only [List.mem_cons, List.not_mem_nil, or_false, not_or]; exact z_ne har ha (by simp))
    have hn_10 := hF.2 _ hc_4
    have hF := hF.call hf_7 (List.forall_mem_cons.mpr ⟨Or.inl (by simp), fun _ h => absurd h List.not_mem_nil⟩)
    refine W.eq (g2 := F0 m 10 ls [.ref q_1]) rfl ?_
    refine lv_astore_n (lv' := [(2, .ref q_1), (0, .ref a), (1, .ref x), (3, .int (nI cap))]) hx hb d_A_add_OaOI_10 rfl hl (by decide) rfl (fun ls hl => ?_)
    refine lv_aload_n hx hb d_A_add_OaOI_11 rfl (lv_at hl 0 rfl) ?_
    refine lv_iload_n hx hb d_A_add_OaOI_12 rfl (lv_at hl 3 rfl) ?_
    refine lv_aload_n hx hb d_A_add_OaOI_13 rfl (lv_at hl 2 rfl) ?_
    refine st_o cx hZ hS hc_5 hk_8 (vp_in_nI (by omega) (by omega)) d_A_add_OaOI_14 (fun w_11 H locs hw_12 hZ hS => ?_)
    have hk_13 : w_11 a = some (.inr (0, [.int md, .ref q_1, .int (nI cap)])) := up_ne hw_12 hc_6 (z_neN ha hn_10)
    have hk_14 : w_11 x = some (.inr (1, fx)) := up_ne hw_12 hk_8 (z_neN hxi hn_10)
    have hk_15 : w_11 ar = some (.inl (G.2 3, cap, .inr (.inr (.inr (.inr fa))))) := up_ne hw_12 hk_9 ((z_neN har hn_10))
    have hF := hF.put hw_12 (Or.inr hn_10)
    have hc_16 : w_11 q_1 = some (.inl (G.2 3, (cap + cap / 2), .inr (.inr (.inr (.inr (va_up (va_cpy fa (fun _ => none) 0 0 cap) (nI cap).toNatClampNeg (some x))))))) := up_self hw_12
    refine lv_aload_n hx hb d_A_add_OaOI_15 rfl (lv_at hl 1 rfl) ?_
    refine lv_iload_n hx hb d_A_add_OaOI_16 rfl (lv_at hl 3 rfl) ?_
    refine lv_iconst (v := 1) hx hb d_A_add_OaOI_17 (by decide) ?_
    refine lv_iadd hx hb d_A_add_OaOI_18 ?_
    rw [show (((nI cap) + 1) : Int32) = nI (cap + 1) from nI_1 cap]
    refine pf_A_48 cx hZ hS hk_13 (Nat.le_of_ble_eq_true rfl) d_A_add_OaOI_19 (fun w_17 H locs hw_18 hZ hS => ?_)
    have hk_19 : w_17 x = some (.inr (1, fx)) := up_ne hw_18 hk_14 (z_ne hk_14 hk_13 (by simp))
    have hk_20 : w_17 ar = some (.inl (G.2 3, cap, .inr (.inr (.inr (.inr fa))))) := up_ne hw_18 hk_15 (z_ne hk_15 hk_13 (by simp))
    have hk_21 : w_17 q_1 = some (.inl (G.2 3, (cap + cap / 2), .inr (.inr (.inr (.inr (va_up (va_cpy fa (fun _ => none) 0 0 cap) (nI cap).toNatClampNeg (some x))))))) := up_ne hw_18 hc_16 ((Ne.symm (z_neN ha hn_10)))
    have hF := hF.put hw_18 (Or.inl (by simp))
    have hc_22 : w_17 a = some (.inr (0, [.int md, .ref q_1, .int (nI (cap + 1))])) := up_self hw_18
    exact z_vret cx.1 cx.2.1 cx.rt cx.lk hS hZ ⟨(by dsimp only; omega), (by dsimp only; omega)⟩ d_A_add_OaOI_22 (⟨q_1, rfl, hn_10, (by have := hk_21; rw [nI_clamp (by omega)] at this; exact this), hc_22, hF⟩)
set_option maxHeartbeats 4000000 in
set_option maxRecDepth 100000 in
theorem c_add3_first (l : Launch) (G : zG) (n0 e0 : Nat) (w : zw) (a : Nat) (md : Int32) (ha : w a = some (.inr (0, fA md (.ref e0) 0))) (x : Nat) (fx : List Value) (hxi : w x = some (.inr (1, fx)))  : Ct l G n0 e0 y_A_add_OaOI b_A_add_OaOI 4 (Option.none : Option FieldType) ({ frames := 5, cells := 1, slots := 10, locals := 111 }) [.ref a, .ref x, .ref e0, .int 0] w (fun v w1 => ∃ q, v = none ∧ w q = none ∧ w1 q = some (.inl (G.2 3, 10, .inr (.inr (.inr (.inr (va_up (fun _ => none) 0 (some x))))))) ∧ w1 a = some (.inr (0, fA md (.ref q) 1)) ∧ Fr [a] w w1) := by
  refine z_ct (by decide) (Nat.le_of_ble_eq_true rfl) ?_
  intro p e s m below meth c ls cx hnm hZ hS hl
  have hx := cx.1
  have hb := cx.2.1
  have hl : lv_has ls 4 [(0, .ref a), (1, .ref x), (2, .ref e0), (3, .int 0)] := hl
  have hF : Fr [a] w w := Fr.rf
  refine lv_iload_n hx hb d_A_add_OaOI_0 rfl (lv_at hl 3 rfl) ?_
  refine lv_aload_n hx hb d_A_add_OaOI_1 rfl (lv_at hl 2 rfl) ?_
  refine va_tlen cx.1 cx.2.1 cx.X.2.2.1 hS (v := 0) rfl d_A_add_OaOI_2 ?_
  refine lv_icmp_ne (tgt := 11) hx hb d_A_add_OaOI_3 (by decide) (fun c3 => ?_) (fun c3 => ?_)
  · exact absurd c3 (by decide)
  · refine lv_aload_n hx hb d_A_add_OaOI_6 rfl (lv_at hl 0 rfl) ?_
    refine iv_A_129 (As := []) (rest := []) cx (c_grow0_first l G n0 e0 w a md ha) ha ⟨(Nat.le_of_ble_eq_true rfl), (Nat.le_of_ble_eq_true rfl)⟩ ⟨(Nat.le_of_ble_eq_true rfl), (Nat.le_of_ble_eq_true rfl)⟩ rfl hl.1 rfl (Nat.le_of_ble_eq_true rfl) d_A_add_OaOI_7 hZ hS (fun v w_2 H locs hp_3 hZ hS => ?_)
    obtain ⟨q_1, rfl, hc_4, hc_5, hc_6, hf_7⟩ := hp_3
    have hk_8 : w_2 x = some (.inr (1, fx)) := hf_7.keep hxi (by simp only [List.mem_cons, List.not_mem_nil, or_false, not_or]; exact z_ne hxi ha (by simp))
    have hn_9 := hF.2 _ hc_4
    have hF := hF.call hf_7 (List.forall_mem_cons.mpr ⟨Or.inl (by simp), fun _ h => absurd h List.not_mem_nil⟩)
    refine W.eq (g2 := F0 m 10 ls [.ref q_1]) rfl ?_
    refine lv_astore_n (lv' := [(2, .ref q_1), (0, .ref a), (1, .ref x), (3, .int 0)]) hx hb d_A_add_OaOI_10 rfl hl (by decide) rfl (fun ls hl => ?_)
    refine lv_aload_n hx hb d_A_add_OaOI_11 rfl (lv_at hl 0 rfl) ?_
    refine lv_iload_n hx hb d_A_add_OaOI_12 rfl (lv_at hl 3 rfl) ?_
    refine lv_aload_n hx hb d_A_add_OaOI_13 rfl (lv_at hl 2 rfl) ?_
    refine st_o cx hZ hS hc_5 hk_8 (by unfold vp_in; decide) d_A_add_OaOI_14 (fun w_10 H locs hw_11 hZ hS => ?_)
    have hk_12 : w_10 a = some (.inr (0, [.int md, .ref q_1, .int 0])) := up_ne hw_11 hc_6 (z_neN ha hn_9)
    have hk_13 : w_10 x = some (.inr (1, fx)) := up_ne hw_11 hk_8 (z_neN hxi hn_9)
    have hF := hF.put hw_11 (Or.inr hn_9)
    have hc_14 : w_10 q_1 = some (.inl (G.2 3, 10, .inr (.inr (.inr (.inr (va_up (fun _ => none) (0 : Int32).toNatClampNeg (some x))))))) := up_self hw_11
    refine lv_aload_n hx hb d_A_add_OaOI_15 rfl (lv_at hl 1 rfl) ?_
    refine lv_iload_n hx hb d_A_add_OaOI_16 rfl (lv_at hl 3 rfl) ?_
    refine lv_iconst (v := 1) hx hb d_A_add_OaOI_17 (by decide) ?_
    refine lv_iadd hx hb d_A_add_OaOI_18 ?_
    rw [show ((0 + 1) : Int32) = 1 from by decide]
    refine pf_A_48 cx hZ hS hk_12 (Nat.le_of_ble_eq_true rfl) d_A_add_OaOI_19 (fun w_15 H locs hw_16 hZ hS => ?_)
    have hk_17 : w_15 x = some (.inr (1, fx)) := up_ne hw_16 hk_13 (z_ne hk_13 hk_12 (by simp))
    have hk_18 : w_15 q_1 = some (.inl (G.2 3, 10, .inr (.inr (.inr (.inr (va_up (fun _ => none) (0 : Int32).toNatClampNeg (some x))))))) := up_ne hw_16 hc_14 ((Ne.symm (z_neN ha hn_9)))
    have hF := hF.put hw_16 (Or.inl (by simp))
    have hc_19 : w_15 a = some (.inr (0, [.int md, .ref q_1, .int 1])) := up_self hw_16
    exact z_vret cx.1 cx.2.1 cx.rt cx.lk hS hZ ⟨(Nat.le_of_ble_eq_true rfl), (Nat.le_of_ble_eq_true rfl)⟩ d_A_add_OaOI_22 (⟨q_1, rfl, hn_9, hk_18, hc_19, hF⟩)
end
section
/-- a measure: natural, greatest, height, depth, stretches, shrinks, within, nested inside -/
abbrev MT : Type := Int64 × Int64 × Int64 × Int64 × (Nat → Int64) × Int64 × Int32 × Int32
abbrev fMt (u : MT) (r : Nat) : List Value := fM u.1 u.2.1 u.2.2.1 u.2.2.2.1 (.ref r) u.2.2.2.2.2.1 u.2.2.2.2.2.2.1 u.2.2.2.2.2.2.2
def mGlue (f : Nat → Int32) (u : MT) : (Nat → Int64) × Int64 × Int32 × Int32 := (vp_updL u.2.2.2.2.1 (f 7).toNatClampNeg (u.2.2.2.2.1 (f 7).toNatClampNeg + (f 6).toInt64), u.2.2.2.2.2.1 + (f 8).toInt64, u.2.2.2.2.2.2.1 + (1 + f 10), if u.2.2.2.2.2.2.2 < f 11 then f 11 else u.2.2.2.2.2.2.2)
def mStep (vt : Bool) (f : Nat → Int32) (u : MT) : MT := if vt = true then (dwN f u.1 u.2.2.2.1, dwG f u.2.1, u.2.2.1, dwD f, mGlue f u) else (u.1 + (f 1).toInt64, u.2.1, acH f u.2.2.1, acD f u.2.2.2.1, mGlue f u)
def mAll (vt : Bool) (its : Nat → Nat → Int32) : Nat → MT
  | 0 => (0, 0, 0, 0, fun _ => 0, 0, 0, 0)
  | n + 1 => mStep vt (its n) (mAll vt its n)
def mLim (vt : Bool) (lim : Int32) (u : MT) : MT := if vt = true then (if u.2.2.2.1 ≤ lim.toInt64 then u.1 else u.1 + (u.2.2.2.1 - lim.toInt64), u.2.1, u.2.2.1, if u.2.2.2.1 ≤ lim.toInt64 then u.2.2.2.1 else lim.toInt64, u.2.2.2.2) else u
set_option maxHeartbeats 4000000 in
set_option maxRecDepth 100000 in
theorem c_add_room (l : Launch) (G : zG) (n0 e0 : Nat) (w : zw) (a ar cap n : Nat) (md : Int32) (fa : Nat → Option Nat) (ha : w a = some (.inr (0, fA md (.ref ar) (nI n)))) (har : w ar = some (.inl (G.2 3, cap, .inr (.inr (.inr (.inr fa)))))) (hn : n < cap) (hcc : cap ≤ 60000) (x : Nat) (fx : List Value) (hxi : w x = some (.inr (1, fx)))  : Ct l G n0 e0 y_A_add_O b_A_add_O 2 (Option.some FieldType.boolean) ({ frames := 5, cells := 0, slots := 0, locals := 114 }) [.ref a, .ref x] w (fun v w1 => v = some (.int 1) ∧ w1 a = some (.inr (0, fA (md + 1) (.ref ar) (nI (n + 1)))) ∧ w1 ar = some (.inl (G.2 3, cap, .inr (.inr (.inr (.inr (va_up fa n (some x))))))) ∧ Fr [a, ar] w w1) := by
  refine z_ct (by decide) (Nat.le_of_ble_eq_true rfl) ?_
  intro p e s m below meth c ls cx hnm hZ hS hl
  have hx := cx.1
  have hb := cx.2.1
  have hl : lv_has ls 2 [(0, .ref a), (1, .ref x)] := hl
  have hF : Fr [a, ar] w w := Fr.rf
  refine lv_aload_n hx hb d_A_add_O_0 rfl (lv_at hl 0 rfl) ?_
  refine lv_dup hx hb d_A_add_O_1 rfl ?_
  refine gf_A_63 cx hZ ha rfl d_A_add_O_2 ?_
  refine lv_iconst (v := 1) hx hb d_A_add_O_5 (by decide) ?_
  refine lv_iadd hx hb d_A_add_O_6 ?_
  refine pf_A_63 cx hZ hS ha (Nat.le_of_ble_eq_true rfl) d_A_add_O_7 (fun w_1 H locs hw_2 hZ hS => ?_)
  have hk_3 : w_1 x = some (.inr (1, fx)) := up_ne hw_2 hxi (z_ne hxi ha (by simp))
  have hk_4 : w_1 ar = some (.inl (G.2 3, cap, .inr (.inr (.inr (.inr fa))))) := up_ne hw_2 har (z_ne har ha (by simp))
  have hF := hF.put hw_2 (Or.inl (by simp))
  have hc_5 : w_1 a = some (.inr (0, [.int (md + 1), .ref ar, .int (nI n)])) := up_self hw_2
  refine lv_aload_n hx hb d_A_add_O_10 rfl (lv_at hl 0 rfl) ?_
  refine lv_aload_n hx hb d_A_add_O_11 rfl (lv_at hl 1 rfl) ?_
  refine lv_aload_n hx hb d_A_add_O_12 rfl (lv_at hl 0 rfl) ?_
  refine gf_A_9 cx hZ hc_5 rfl d_A_add_O_13 ?_
  refine lv_aload_n hx hb d_A_add_O_16 rfl (lv_at hl 0 rfl) ?_
  refine gf_A_48 cx hZ hc_5 rfl d_A_add_O_17 ?_
  refine iv_A_131 (As := [.ref x, .ref ar, .int (nI n)]) (rest := []) cx (c_add3_room l G n0 e0 w_1 a ar cap n (md + 1) fa hc_5 hk_4 hn hcc x fx hk_3) hc_5 ⟨(Nat.le_of_ble_eq_true rfl), (Nat.le_of_ble_eq_true rfl)⟩ ⟨(Nat.le_of_ble_eq_true rfl), (Nat.le_of_ble_eq_true rfl)⟩ rfl hl.1 rfl (Nat.le_of_ble_eq_true rfl) d_A_add_O_20 hZ hS (fun v w_6 H locs hp_7 hZ hS => ?_)
  obtain ⟨rfl, hc_8, hc_9, hf_10⟩ := hp_7
  have hk_11 : w_6 x = some (.inr (1, fx)) := hf_10.keep hk_3 (by simp only [List.mem_cons, List.not_mem_nil, or_false, not_or]; exact ⟨z_ne hk_3 hc_5 (by simp), z_ne hk_3 hk_4 (by simp)⟩)
  have hF := hF.call hf_10 (List.forall_mem_cons.mpr ⟨Or.inl (by simp), List.forall_mem_cons.mpr ⟨Or.inl (by simp), fun _ h => absurd h List.not_mem_nil⟩⟩)
  refine W.eq (g2 := F0 m 23 ls []) rfl ?_
  refine lv_iconst (v := 1) hx hb d_A_add_O_23 (by decide) ?_
  exact z_zret cx.1 cx.2.1 cx.rt cx.lk (by first | rfl | (simp [narrow]; done) | simp_all [narrow]) hS hZ ⟨(Nat.le_of_ble_eq_true rfl), (Nat.le_of_ble_eq_true rfl)⟩ d_A_add_O_24 (⟨rfl, hc_8, hc_9, hF⟩)
set_option maxHeartbeats 4000000 in
set_option maxRecDepth 100000 in
theorem c_add_full (l : Launch) (G : zG) (n0 e0 : Nat) (w : zw) (a ar cap : Nat) (md : Int32) (fa : Nat → Option Nat) (ha : w a = some (.inr (0, fA md (.ref ar) (nI cap)))) (har : w ar = some (.inl (G.2 3, cap, .inr (.inr (.inr (.inr fa)))))) (hc : 10 ≤ cap) (hcc : cap ≤ 60000) (hel : ∀ i : Nat, i < cap → ∀ y : Nat, fa i = some y → ∃ fs, w y = some (.inr (1, fs))) (x : Nat) (fx : List Value) (hxi : w x = some (.inr (1, fx)))  : Ct l G n0 e0 y_A_add_O b_A_add_O 2 (Option.some FieldType.boolean) ({ frames := 6, cells := 1, slots := cap + cap / 2, locals := 134 }) [.ref a, .ref x] w (fun v w1 => ∃ q, v = some (.int 1) ∧ w q = none ∧ w1 q = some (.inl (G.2 3, cap + cap / 2, .inr (.inr (.inr (.inr (va_up (va_cpy fa (fun _ => none) 0 0 cap) cap (some x))))))) ∧ w1 a = some (.inr (0, fA (md + 1) (.ref q) (nI (cap + 1)))) ∧ Fr [a] w w1) := by
  refine z_ct (by decide) (Nat.le_of_ble_eq_true rfl) ?_
  intro p e s m below meth c ls cx hnm hZ hS hl
  have hx := cx.1
  have hb := cx.2.1
  have hl : lv_has ls 2 [(0, .ref a), (1, .ref x)] := hl
  have hF : Fr [a] w w := Fr.rf
  refine lv_aload_n hx hb d_A_add_O_0 rfl (lv_at hl 0 rfl) ?_
  refine lv_dup hx hb d_A_add_O_1 rfl ?_
  refine gf_A_63 cx hZ ha rfl d_A_add_O_2 ?_
  refine lv_iconst (v := 1) hx hb d_A_add_O_5 (by decide) ?_
  refine lv_iadd hx hb d_A_add_O_6 ?_
  refine pf_A_63 cx hZ hS ha (Nat.le_of_ble_eq_true rfl) d_A_add_O_7 (fun w_1 H locs hw_2 hZ hS => ?_)
  have hk_3 : w_1 x = some (.inr (1, fx)) := up_ne hw_2 hxi (z_ne hxi ha (by simp))
  have hk_4 : w_1 ar = some (.inl (G.2 3, cap, .inr (.inr (.inr (.inr fa))))) := up_ne hw_2 har (z_ne har ha (by simp))
  have hF := hF.put hw_2 (Or.inl (by simp))
  have hc_5 : w_1 a = some (.inr (0, [.int (md + 1), .ref ar, .int (nI cap)])) := up_self hw_2
  refine lv_aload_n hx hb d_A_add_O_10 rfl (lv_at hl 0 rfl) ?_
  refine lv_aload_n hx hb d_A_add_O_11 rfl (lv_at hl 1 rfl) ?_
  refine lv_aload_n hx hb d_A_add_O_12 rfl (lv_at hl 0 rfl) ?_
  refine gf_A_9 cx hZ hc_5 rfl d_A_add_O_13 ?_
  refine lv_aload_n hx hb d_A_add_O_16 rfl (lv_at hl 0 rfl) ?_
  refine gf_A_48 cx hZ hc_5 rfl d_A_add_O_17 ?_
  refine iv_A_131 (As := [.ref x, .ref ar, .int (nI cap)]) (rest := []) cx (c_add3_full l G n0 e0 w_1 a ar cap (md + 1) fa hc_5 hk_4 hc hcc (fun i hi y hy => by obtain ⟨fs, h⟩ := hel i hi y hy; exact ⟨fs, up_ne hw_2 h (z_ne h ha (by simp))⟩) x fx hk_3) hc_5 ⟨(Nat.le_of_ble_eq_true rfl), (Nat.le_of_ble_eq_true rfl)⟩ ⟨(by dsimp only; omega), (by dsimp only; omega)⟩ rfl hl.1 rfl (Nat.le_of_ble_eq_true rfl) d_A_add_O_20 hZ hS (fun v w_7 H locs hp_8 hZ hS => ?_)
  obtain ⟨q_6, rfl, hc_9, hc_10, hc_11, hf_12⟩ := hp_8
  have hk_13 : w_7 x = some (.inr (1, fx)) := hf_12.keep hk_3 (by simp only [List.mem_cons, List.not_mem_nil, or_false, not_or]; exact z_ne hk_3 hc_5 (by simp))
  have hk_14 : w_7 ar = some (.inl (G.2 3, cap, .inr (.inr (.inr (.inr fa))))) := hf_12.keep hk_4 (by simp only [List.mem_cons, List.not_mem_nil, or_false, not_or]; exact z_ne hk_4 hc_5 (by simp))
  have hn_15 := hF.2 _ hc_9
  have hF := hF.call hf_12 (List.forall_mem_cons.mpr ⟨Or.inl (by simp), fun _ h => absurd h List.not_mem_nil⟩)
  refine W.eq (g2 := F0 m 23 ls []) rfl ?_
  refine lv_iconst (v := 1) hx hb d_A_add_O_23 (by decide) ?_
  exact z_zret cx.1 cx.2.1 cx.rt cx.lk (by first | rfl | (simp [narrow]; done) | simp_all [narrow]) hS hZ ⟨(by dsimp only; omega), (by dsimp only; omega)⟩ d_A_add_O_24 (⟨q_6, rfl, hn_15, hc_10, hc_11, hF⟩)
set_option maxHeartbeats 4000000 in
set_option maxRecDepth 100000 in
theorem c_add_first (l : Launch) (G : zG) (n0 e0 : Nat) (w : zw) (a : Nat) (md : Int32) (ha : w a = some (.inr (0, fA md (.ref e0) 0))) (x : Nat) (fx : List Value) (hxi : w x = some (.inr (1, fx)))  : Ct l G n0 e0 y_A_add_O b_A_add_O 2 (Option.some FieldType.boolean) ({ frames := 6, cells := 1, slots := 10, locals := 134 }) [.ref a, .ref x] w (fun v w1 => ∃ q, v = some (.int 1) ∧ w q = none ∧ w1 q = some (.inl (G.2 3, 10, .inr (.inr (.inr (.inr (va_up (fun _ => none) 0 (some x))))))) ∧ w1 a = some (.inr (0, fA (md + 1) (.ref q) 1)) ∧ Fr [a] w w1) := by
  refine z_ct (by decide) (Nat.le_of_ble_eq_true rfl) ?_
  intro p e s m below meth c ls cx hnm hZ hS hl
  have hx := cx.1
  have hb := cx.2.1
  have hl : lv_has ls 2 [(0, .ref a), (1, .ref x)] := hl
  have hF : Fr [a] w w := Fr.rf
  refine lv_aload_n hx hb d_A_add_O_0 rfl (lv_at hl 0 rfl) ?_
  refine lv_dup hx hb d_A_add_O_1 rfl ?_
  refine gf_A_63 cx hZ ha rfl d_A_add_O_2 ?_
  refine lv_iconst (v := 1) hx hb d_A_add_O_5 (by decide) ?_
  refine lv_iadd hx hb d_A_add_O_6 ?_
  refine pf_A_63 cx hZ hS ha (Nat.le_of_ble_eq_true rfl) d_A_add_O_7 (fun w_1 H locs hw_2 hZ hS => ?_)
  have hk_3 : w_1 x = some (.inr (1, fx)) := up_ne hw_2 hxi (z_ne hxi ha (by simp))
  have hF := hF.put hw_2 (Or.inl (by simp))
  have hc_4 : w_1 a = some (.inr (0, [.int (md + 1), .ref e0, .int 0])) := up_self hw_2
  refine lv_aload_n hx hb d_A_add_O_10 rfl (lv_at hl 0 rfl) ?_
  refine lv_aload_n hx hb d_A_add_O_11 rfl (lv_at hl 1 rfl) ?_
  refine lv_aload_n hx hb d_A_add_O_12 rfl (lv_at hl 0 rfl) ?_
  refine gf_A_9 cx hZ hc_4 rfl d_A_add_O_13 ?_
  refine lv_aload_n hx hb d_A_add_O_16 rfl (lv_at hl 0 rfl) ?_
  refine gf_A_48 cx hZ hc_4 rfl d_A_add_O_17 ?_
  refine iv_A_131 (As := [.ref x, .ref e0, .int 0]) (rest := []) cx (c_add3_first l G n0 e0 w_1 a (md + 1) hc_4 x fx hk_3) hc_4 ⟨(Nat.le_of_ble_eq_true rfl), (Nat.le_of_ble_eq_true rfl)⟩ ⟨(Nat.le_of_ble_eq_true rfl), (Nat.le_of_ble_eq_true rfl)⟩ rfl hl.1 rfl (Nat.le_of_ble_eq_true rfl) d_A_add_O_20 hZ hS (fun v w_6 H locs hp_7 hZ hS => ?_)
  obtain ⟨q_5, rfl, hc_8, hc_9, hc_10, hf_11⟩ := hp_7
  have hk_12 : w_6 x = some (.inr (1, fx)) := hf_11.keep hk_3 (by simp only [List.mem_cons, List.not_mem_nil, or_false, not_or]; exact z_ne hk_3 hc_4 (by simp))
  have hn_13 := hF.2 _ hc_8
  have hF := hF.call hf_11 (List.forall_mem_cons.mpr ⟨Or.inl (by simp), fun _ h => absurd h List.not_mem_nil⟩)
  refine W.eq (g2 := F0 m 23 ls []) rfl ?_
  refine lv_iconst (v := 1) hx hb d_A_add_O_23 (by decide) ?_
  exact z_zret cx.1 cx.2.1 cx.rt cx.lk (by first | rfl | (simp [narrow]; done) | simp_all [narrow]) hS hZ ⟨(Nat.le_of_ble_eq_true rfl), (Nat.le_of_ble_eq_true rfl)⟩ d_A_add_O_24 (⟨q_5, rfl, hn_13, hc_9, hc_10, hF⟩)
end
section
theorem mAll_t {vt : Bool} {its : Nat → Nat → Int32} {i : Nat} (h : vt = true) : mAll vt its (i + 1) = (dwN (its i) (mAll vt its i).1 (mAll vt its i).2.2.2.1, dwG (its i) (mAll vt its i).2.1, (mAll vt its i).2.2.1, dwD (its i), mGlue (its i) (mAll vt its i)) := by rw [mAll, mStep, if_pos h]
theorem mAll_f {vt : Bool} {its : Nat → Nat → Int32} {i : Nat} (h : vt = false) : mAll vt its (i + 1) = ((mAll vt its i).1 + (its i 1).toInt64, (mAll vt its i).2.1, acH (its i) (mAll vt its i).2.2.1, acD (its i) (mAll vt its i).2.2.2.1, mGlue (its i) (mAll vt its i)) := by rw [mAll, mStep, if_neg (by rw [h]; decide)]
set_option maxHeartbeats 4000000 in
set_option maxRecDepth 100000 in
theorem c_measured (l : Launch) (G : zG) (n0 e0 : Nat) (w : zw) (il al ar cap n : Nat) (vt : Bool) (md : Int32) (fa : Nat → Option Nat) (its : Nat → Nat → Int32) (hli : w il = some (.inr (2, [.int (zi vt), .ref al]))) (hal : w al = some (.inr (0, fA md (.ref ar) (nI n)))) (har : n = 0 ∨ (w ar = some (.inl (G.2 3, cap, .inr (.inr (.inr (.inr fa))))) ∧ n ≤ cap)) (hcn : n ≤ 60000) (hcap : cap ≤ 100000) (hit : ∀ i, i < n → ∃ x, fa i = some x ∧ w x = some (.inr (1, fI (its i))) ∧ vp_in (its i 7) 4) (lim : Int32) : Ct l G n0 e0 y_D_measured b_D_measured 5 (Option.some (FieldType.object "BoxDesk$Measure")) ({ frames := 3, cells := 2, slots := 12, locals := 64 }) [.ref il, .int lim] w (fun v w1 => ∃ q r, v = some (.ref q) ∧ w q = none ∧ w r = none ∧ w1 q = some (.inr (3, fMt (mLim vt lim (mAll vt its n)) r)) ∧ w1 r = some (.inl (G.2 1, 4, .inr (.inl (mLim vt lim (mAll vt its n)).2.2.2.2.1))) ∧ Fr [] w w1) := by
  refine z_ct (by decide) (Nat.le_of_ble_eq_true rfl) ?_
  intro p e s m below meth c ls cx hnm hZ hS hl
  have hx := cx.1
  have hb := cx.2.1
  have hl : lv_has ls 5 [(0, .ref il), (1, .int lim)] := hl
  have hF : Fr [] w w := Fr.rf
  refine nw_D_85_o cx hZ hS (Nat.le_of_ble_eq_true rfl) (Nat.le_of_ble_eq_true rfl) d_D_measured_0 (fun q_1 w_2 H hq_4 hw_3 hZ hS => ?_)
  have hk_5 : w_2 il = some (.inr (2, [.int (zi vt), .ref al])) := up_ne hw_3 hli (z_neN hli hq_4)
  have hk_6 : w_2 al = some (.inr (0, [.int md, .ref ar, .int (nI n)])) := up_ne hw_3 hal (z_neN hal hq_4)
  have hn_7 := hF.2 _ hq_4
  have hF := hF.put hw_3 (Or.inr hn_7)
  have hc_8 : w_2 q_1 = some (.inr (3, [.long 0, .long 0, .long 0, .long 0, .null, .long 0, .int 0, .int 0])) := up_self hw_3
  refine lv_dup hx hb d_D_measured_3 rfl ?_
  refine ip_D_178 (As := []) (rest := [.ref q_1]) cx (c_M_init l G n0 e0 w_2 q_1 hc_8) ⟨(Nat.le_of_ble_eq_true rfl), (Nat.le_of_ble_eq_true rfl)⟩ ⟨(Nat.le_of_ble_eq_true rfl), (Nat.le_of_ble_eq_true rfl)⟩ rfl hl.1 rfl (Nat.le_of_ble_eq_true rfl) d_D_measured_4 hZ hS (fun v w_10 H locs hp_11 hZ hS => ?_)
  obtain ⟨r_9, rfl, hc_12, hc_13, hc_14, hf_15⟩ := hp_11
  have hk_16 : w_10 il = some (.inr (2, [.int (zi vt), .ref al])) := hf_15.keep hk_5 (by simp only [List.mem_cons, List.not_mem_nil, or_false, not_or]; exact (z_neN hli hn_7))
  have hk_17 : w_10 al = some (.inr (0, [.int md, .ref ar, .int (nI n)])) := hf_15.keep hk_6 (by simp only [List.mem_cons, List.not_mem_nil, or_false, not_or]; exact (z_neN hal hn_7))
  have hn_18 := hF.2 _ hc_12
  have hF := hF.call hf_15 (List.forall_mem_cons.mpr ⟨Or.inr hn_7, fun _ h => absurd h List.not_mem_nil⟩)
  refine W.eq (g2 := F0 m 7 ls [.ref q_1]) rfl ?_
  refine lv_astore_n (lv' := [(2, .ref q_1), (0, .ref il), (1, .int lim)]) hx hb d_D_measured_7 rfl hl (by decide) rfl (fun ls hl => ?_)
  refine lv_iconst (v := 0) hx hb d_D_measured_8 (by decide) ?_
  refine lv_istore_n (lv' := [(3, .int 0), (2, .ref q_1), (0, .ref il), (1, .int lim)]) hx hb d_D_measured_9 rfl hl (by decide) rfl (fun ls hl => ?_)
  refine W.widen (k := 2) (n := 12) (Nat.le_of_ble_eq_true rfl) (Nat.le_of_ble_eq_true rfl) ?_
  have loop : ∀ (k i : Nat) (w2 : zw) (H : Heap) (locs : List Loc) (ls : Array Slot), i + k = n → Zw G.1 vwC (zA n0) w2 H → va_S (zA n0) s.heap H locs → Fr [] w w2 → w2 q_1 = some (.inr (3, fMt (mAll vt its i) r_9)) → w2 r_9 = some (.inl (G.2 1, 4, .inr (.inl (mAll vt its i).2.2.2.2.1))) → lv_has ls 5 [(3, .int (nI i)), (2, .ref q_1), (0, .ref il), (1, .int lim)] → W p l e ({ frames := 3, cells := 2, slots := 12, locals := 64 }) s m [.ref il, .int lim].toArray below meth c H locs 2 12 (MQ below (zQ G.1 vwC n0 (fun v w1 => ∃ q r, v = some (.ref q) ∧ w q = none ∧ w r = none ∧ w1 q = some (.inr (3, fMt (mLim vt lim (mAll vt its n)) r)) ∧ w1 r = some (.inl (G.2 1, 4, .inr (.inl (mLim vt lim (mAll vt its n)).2.2.2.2.1))) ∧ Fr [] w w1)) [.ref il, .int lim].toArray s ({ frames := 3, cells := 2, slots := 12, locals := 64 } : Room).cells ({ frames := 3, cells := 2, slots := 12, locals := 64 } : Room).slots (zA n0)) (F0 m 10 ls []) := by
    intro k
    induction k with
    | zero =>
      intro i w2 H locs ls hik hZ hS hF hq hr hl
      have hk_19 : w2 il = some (.inr (2, [.int (zi vt), .ref al])) := hF.keep hli (by simp)
      have hk_20 : w2 al = some (.inr (0, [.int md, .ref ar, .int (nI n)])) := hF.keep hal (by simp)
      have hin : i = n := by omega
      subst hin
      refine lv_iload_n hx hb d_D_measured_10 rfl (lv_at hl 0 rfl) ?_
      refine lv_aload_n hx hb d_D_measured_11 rfl (lv_at hl 2 rfl) ?_
      refine gf_D_117 cx hZ hk_19 rfl d_D_measured_12 ?_
      refine iv_D_135 (As := []) (rest := [.int (nI i)]) cx (c_A_size l G n0 e0 w2 al md (.ref ar) (nI i) hk_20) hk_20 ⟨(Nat.le_of_ble_eq_true rfl), (Nat.le_of_ble_eq_true rfl)⟩ ⟨(Nat.le_of_ble_eq_true rfl), (Nat.le_of_ble_eq_true rfl)⟩ rfl hl.1 rfl (Nat.le_of_ble_eq_true rfl) d_D_measured_15 hZ hS (fun v w_21 H locs hp_22 hZ hS => ?_)
      obtain ⟨rfl, hq⟩ := hp_22
      subst w_21
      refine W.eq (g2 := F0 m 18 ls [.int (nI i), .int (nI i)]) rfl ?_
      refine lv_icmp_ge (tgt := 68) hx hb d_D_measured_18 (by decide) (fun c18 => ?_) (fun c18 => ?_)
      · refine lv_aload_n hx hb d_D_measured_68 rfl (lv_at hl 2 rfl) ?_
        refine gf_D_32 cx hZ hk_19 rfl d_D_measured_69 ?_
        refine lv_if_eq (tgt := 80) hx hb d_D_measured_72 (by decide) (fun c72 => ?_) (fun c72 => ?_)
        · refine lv_aload_n hx hb d_D_measured_80 rfl (lv_at hl 1 rfl) ?_
          exact z_aret cx.1 cx.2.1 cx.rt cx.lk (by first | exact Or.inl ⟨_, rfl⟩ | exact Or.inr ⟨_, rfl⟩) (by first | exact Or.inl rfl | exact Or.inr ⟨_, rfl⟩) hS hZ ⟨(Nat.le_of_ble_eq_true rfl), (Nat.le_of_ble_eq_true rfl)⟩ d_D_measured_81 (⟨q_1, r_9, rfl, hn_7, hn_18, (by rw [mLim, if_neg (by rw [(zi_0 vt).mp c72]; decide)]; exact hq), (by rw [mLim, if_neg (by rw [(zi_0 vt).mp c72]; decide)]; exact hr), hF⟩)
        · refine lv_aload_n hx hb d_D_measured_75 rfl (lv_at hl 1 rfl) ?_
          refine lv_iload_n hx hb d_D_measured_76 rfl (lv_at hl 3 rfl) ?_
          refine iv_D_189 (As := [.int lim]) (rest := []) cx (c_limitDepth l G n0 e0 w2 q_1 r_9 ((mAll vt its i).1) ((mAll vt its i).2.1) ((mAll vt its i).2.2.1) ((mAll vt its i).2.2.2.1) ((mAll vt its i).2.2.2.2.2.1) ((mAll vt its i).2.2.2.2.1) ((mAll vt its i).2.2.2.2.2.2.1) ((mAll vt its i).2.2.2.2.2.2.2) lim hq) hq ⟨(Nat.le_of_ble_eq_true rfl), (Nat.le_of_ble_eq_true rfl)⟩ ⟨(Nat.le_of_ble_eq_true rfl), (Nat.le_of_ble_eq_true rfl)⟩ rfl hl.1 rfl (Nat.le_of_ble_eq_true rfl) d_D_measured_77 hZ hS (fun v w_23 H locs hp_24 hZ hS => ?_)
          obtain ⟨rfl, hc_25, hf_26⟩ := hp_24
          have hk_27 : w_23 il = some (.inr (2, [.int (zi vt), .ref al])) := hf_26.keep hk_19 (by simp only [List.mem_cons, List.not_mem_nil, or_false, not_or]; exact (z_neN hli hn_7))
          have hk_28 : w_23 al = some (.inr (0, [.int md, .ref ar, .int (nI i)])) := hf_26.keep hk_20 (by simp only [List.mem_cons, List.not_mem_nil, or_false, not_or]; exact (z_neN hal hn_7))
          have hk_29 : w_23 r_9 = some (.inl (G.2 1, 4, .inr (.inl ((mAll vt its i).2.2.2.2.1)))) := hf_26.keep hr (by simp only [List.mem_cons, List.not_mem_nil, or_false, not_or]; exact z_ne hr hq (by simp))
          have hF := hF.call hf_26 (List.forall_mem_cons.mpr ⟨Or.inr hn_7, fun _ h => absurd h List.not_mem_nil⟩)
          refine W.eq (g2 := F0 m 80 ls []) rfl ?_
          refine lv_aload_n hx hb d_D_measured_80 rfl (lv_at hl 1 rfl) ?_
          exact z_aret cx.1 cx.2.1 cx.rt cx.lk (by first | exact Or.inl ⟨_, rfl⟩ | exact Or.inr ⟨_, rfl⟩) (by first | exact Or.inl rfl | exact Or.inr ⟨_, rfl⟩) hS hZ ⟨(Nat.le_of_ble_eq_true rfl), (Nat.le_of_ble_eq_true rfl)⟩ d_D_measured_81 (⟨q_1, r_9, rfl, hn_7, hn_18, (by rw [mLim, if_pos ((zi_n0 vt).mp c72)]; exact hc_25), (by rw [mLim, if_pos ((zi_n0 vt).mp c72)]; exact hk_29), hF⟩)
      · exact absurd (nI_le (Nat.le_refl _) (by omega)) c18
    | succ k ih =>
      intro i w2 H locs ls hik hZ hS hF hq hr hl
      have hk_30 : w2 il = some (.inr (2, [.int (zi vt), .ref al])) := hF.keep hli (by simp)
      have hk_31 : w2 al = some (.inr (0, [.int md, .ref ar, .int (nI n)])) := hF.keep hal (by simp)
      have hin : i < n := by omega
      obtain ⟨x, hfx, hxi, hox⟩ := hit i hin
      have hxk : w2 x = some (.inr (1, fI (its i))) := hF.keep hxi (by simp)
      obtain ⟨har1, har2⟩ := har.resolve_left (by omega)
      have hark : w2 ar = some (.inl (G.2 3, cap, .inr (.inr (.inr (.inr fa))))) := hF.keep har1 (by simp)
      refine lv_iload_n hx hb d_D_measured_10 rfl (lv_at hl 0 rfl) ?_
      refine lv_aload_n hx hb d_D_measured_11 rfl (lv_at hl 2 rfl) ?_
      refine gf_D_117 cx hZ hk_30 rfl d_D_measured_12 ?_
      refine iv_D_135 (As := []) (rest := [.int (nI i)]) cx (c_A_size l G n0 e0 w2 al md (.ref ar) (nI n) hk_31) hk_31 ⟨(Nat.le_of_ble_eq_true rfl), (Nat.le_of_ble_eq_true rfl)⟩ ⟨(Nat.le_of_ble_eq_true rfl), (Nat.le_of_ble_eq_true rfl)⟩ rfl hl.1 rfl (Nat.le_of_ble_eq_true rfl) d_D_measured_15 hZ hS (fun v w_32 H locs hp_33 hZ hS => ?_)
      obtain ⟨rfl, hq⟩ := hp_33
      subst w_32
      refine W.eq (g2 := F0 m 18 ls [.int (nI n), .int (nI i)]) rfl ?_
      refine lv_icmp_ge (tgt := 68) hx hb d_D_measured_18 (by decide) (fun c18 => ?_) (fun c18 => ?_)
      · exact absurd c18 (nI_ge hin (by omega))
      · refine lv_aload_n hx hb d_D_measured_21 rfl (lv_at hl 2 rfl) ?_
        refine gf_D_117 cx hZ hk_30 rfl d_D_measured_22 ?_
        refine lv_iload_n hx hb d_D_measured_25 rfl (lv_at hl 0 rfl) ?_
        refine iv_D_139 (As := [.int (nI i)]) (rest := []) cx (c_A_get l G n0 e0 w2 al ar cap md (nI n) fa hk_31 hark (nI i) x (nI_pos (by omega)) (nI_lt hin (by omega)) (vp_in_nI (by omega) (by omega)) (by rw [nI_clamp (by omega)]; exact hfx)) hk_31 ⟨(Nat.le_of_ble_eq_true rfl), (Nat.le_of_ble_eq_true rfl)⟩ ⟨(Nat.le_of_ble_eq_true rfl), (Nat.le_of_ble_eq_true rfl)⟩ rfl hl.1 rfl (Nat.le_of_ble_eq_true rfl) d_D_measured_26 hZ hS (fun v w_34 H locs hp_35 hZ hS => ?_)
        obtain ⟨rfl, hq⟩ := hp_35
        subst w_34
        refine W.eq (g2 := F0 m 29 ls [.ref x]) rfl ?_
        refine kc_D_40 cx hZ hxk d_D_measured_29 ?_
        refine lv_astore (lv' := [(4, .ref x), (3, .int (nI i)), (2, .ref q_1), (0, .ref il), (1, .int lim)]) hx hb d_D_measured_32 hl (by decide) rfl (fun ls hl => ?_)
        refine lv_aload_n hx hb d_D_measured_34 rfl (lv_at hl 2 rfl) ?_
        refine lv_aload hx hb d_D_measured_35 (lv_at hl 0 rfl) ?_
        refine iv_D_179 (As := [.ref x]) (rest := []) cx (c_takeGlue l G n0 e0 w2 q_1 r_9 ((mAll vt its i).1) ((mAll vt its i).2.1) ((mAll vt its i).2.2.1) ((mAll vt its i).2.2.2.1) ((mAll vt its i).2.2.2.2.2.1) ((mAll vt its i).2.2.2.2.1) ((mAll vt its i).2.2.2.2.2.2.1) ((mAll vt its i).2.2.2.2.2.2.2) hq hr x (its i) hxk hox) hq ⟨(Nat.le_of_ble_eq_true rfl), (Nat.le_of_ble_eq_true rfl)⟩ ⟨(Nat.le_of_ble_eq_true rfl), (Nat.le_of_ble_eq_true rfl)⟩ rfl hl.1 rfl (Nat.le_of_ble_eq_true rfl) d_D_measured_37 hZ hS (fun v w_36 H locs hp_37 hZ hS => ?_)
        obtain ⟨rfl, hc_38, hc_39, hf_40⟩ := hp_37
        have hk_41 : w_36 il = some (.inr (2, [.int (zi vt), .ref al])) := hf_40.keep hk_30 (by simp only [List.mem_cons, List.not_mem_nil, or_false, not_or]; exact ⟨(z_neN hli hn_7), (z_neN hli hn_18)⟩)
        have hk_42 : w_36 al = some (.inr (0, [.int md, .ref ar, .int (nI n)])) := hf_40.keep hk_31 (by simp only [List.mem_cons, List.not_mem_nil, or_false, not_or]; exact ⟨(z_neN hal hn_7), (z_neN hal hn_18)⟩)
        have hk_43 : w_36 x = some (.inr (1, [.int (its i 0), .int (its i 1), .int (its i 2), .int (its i 3), .int (its i 4), .int (its i 5), .int (its i 6), .int (its i 7), .int (its i 8), .int (its i 9), .int (its i 10), .int (its i 11)])) := hf_40.keep hxk (by simp only [List.mem_cons, List.not_mem_nil, or_false, not_or]; exact ⟨z_ne hxk hq (by simp), z_ne hxk hr (by simp)⟩)
        have hk_44 : w_36 ar = some (.inl (G.2 3, cap, .inr (.inr (.inr (.inr fa))))) := hf_40.keep hark (by simp only [List.mem_cons, List.not_mem_nil, or_false, not_or]; exact ⟨z_ne hark hq (by simp), z_ne hark hr (by simp)⟩)
        have hF := hF.call hf_40 (List.forall_mem_cons.mpr ⟨Or.inr hn_7, List.forall_mem_cons.mpr ⟨Or.inr hn_18, fun _ h => absurd h List.not_mem_nil⟩⟩)
        refine W.eq (g2 := F0 m 40 ls []) rfl ?_
        refine lv_aload_n hx hb d_D_measured_40 rfl (lv_at hl 3 rfl) ?_
        refine gf_D_32 cx hZ hk_41 rfl d_D_measured_41 ?_
        refine lv_if_eq (tgt := 56) hx hb d_D_measured_44 (by decide) (fun c44 => ?_) (fun c44 => ?_)
        · refine lv_aload_n hx hb d_D_measured_56 rfl (lv_at hl 2 rfl) ?_
          refine lv_aload hx hb d_D_measured_57 (lv_at hl 0 rfl) ?_
          refine iv_D_186 (As := [.ref x]) (rest := []) cx (c_takeAcross l G n0 e0 w_36 q_1 r_9 ((mAll vt its i).1) ((mAll vt its i).2.1) ((mAll vt its i).2.2.1) ((mAll vt its i).2.2.2.1) ((mAll vt its i).2.2.2.2.2.1 + (its i 8).toInt64) (vp_updL ((mAll vt its i).2.2.2.2.1) (its i 7).toNatClampNeg (((mAll vt its i).2.2.2.2.1) (its i 7).toNatClampNeg + (its i 6).toInt64)) ((mAll vt its i).2.2.2.2.2.2.1 + (1 + its i 10)) (if (mAll vt its i).2.2.2.2.2.2.2 < its i 11 then its i 11 else (mAll vt its i).2.2.2.2.2.2.2) hc_38 x (its i) hk_43) hc_38 ⟨(Nat.le_of_ble_eq_true rfl), (Nat.le_of_ble_eq_true rfl)⟩ ⟨(Nat.le_of_ble_eq_true rfl), (Nat.le_of_ble_eq_true rfl)⟩ rfl hl.1 rfl (Nat.le_of_ble_eq_true rfl) d_D_measured_59 hZ hS (fun v w_45 H locs hp_46 hZ hS => ?_)
          obtain ⟨rfl, hc_47, hf_48⟩ := hp_46
          have hk_49 : w_45 il = some (.inr (2, [.int (zi vt), .ref al])) := hf_48.keep hk_41 (by simp only [List.mem_cons, List.not_mem_nil, or_false, not_or]; exact (z_neN hli hn_7))
          have hk_50 : w_45 al = some (.inr (0, [.int md, .ref ar, .int (nI n)])) := hf_48.keep hk_42 (by simp only [List.mem_cons, List.not_mem_nil, or_false, not_or]; exact (z_neN hal hn_7))
          have hk_51 : w_45 x = some (.inr (1, [.int (its i 0), .int (its i 1), .int (its i 2), .int (its i 3), .int (its i 4), .int (its i 5), .int (its i 6), .int (its i 7), .int (its i 8), .int (its i 9), .int (its i 10), .int (its i 11)])) := hf_48.keep hk_43 (by simp only [List.mem_cons, List.not_mem_nil, or_false, not_or]; exact z_ne hk_43 hc_38 (by simp))
          have hk_52 : w_45 r_9 = some (.inl (G.2 1, 4, .inr (.inl (vp_updL ((mAll vt its i).2.2.2.2.1) (its i 7).toNatClampNeg (((mAll vt its i).2.2.2.2.1) (its i 7).toNatClampNeg + (its i 6).toInt64))))) := hf_48.keep hc_39 (by simp only [List.mem_cons, List.not_mem_nil, or_false, not_or]; exact z_ne hc_39 hc_38 (by simp))
          have hk_53 : w_45 ar = some (.inl (G.2 3, cap, .inr (.inr (.inr (.inr fa))))) := hf_48.keep hk_44 (by simp only [List.mem_cons, List.not_mem_nil, or_false, not_or]; exact z_ne hk_44 hc_38 (by simp))
          have hF := hF.call hf_48 (List.forall_mem_cons.mpr ⟨Or.inr hn_7, fun _ h => absurd h List.not_mem_nil⟩)
          refine W.eq (g2 := F0 m 62 ls []) rfl ?_
          refine lv_iinc (v := ((nI i) + 1)) (lv' := [(3, .int ((nI i) + 1)), (4, .ref x), (2, .ref q_1), (0, .ref il), (1, .int lim)]) hx hb d_D_measured_62 hl (k := 1) rfl rfl (by decide) rfl (fun ls hl => ?_)
          refine lv_goto (tgt := 10) hx hb d_D_measured_65 (by decide) ?_
          exact ih (i + 1) _ _ _ _ (by omega) hZ hS hF (by rw [mAll_f ((zi_0 vt).mp c44)]; exact hc_47) (by rw [mAll_f ((zi_0 vt).mp c44)]; exact hk_52) (lv_sub hl [0, 2, 3, 4] (by rw [← nI_1 i]; rfl))
        · refine lv_aload_n hx hb d_D_measured_47 rfl (lv_at hl 2 rfl) ?_
          refine lv_aload hx hb d_D_measured_48 (lv_at hl 0 rfl) ?_
          refine iv_D_183 (As := [.ref x]) (rest := []) cx (c_takeDownwards l G n0 e0 w_36 q_1 r_9 ((mAll vt its i).1) ((mAll vt its i).2.1) ((mAll vt its i).2.2.1) ((mAll vt its i).2.2.2.1) ((mAll vt its i).2.2.2.2.2.1 + (its i 8).toInt64) (vp_updL ((mAll vt its i).2.2.2.2.1) (its i 7).toNatClampNeg (((mAll vt its i).2.2.2.2.1) (its i 7).toNatClampNeg + (its i 6).toInt64)) ((mAll vt its i).2.2.2.2.2.2.1 + (1 + its i 10)) (if (mAll vt its i).2.2.2.2.2.2.2 < its i 11 then its i 11 else (mAll vt its i).2.2.2.2.2.2.2) hc_38 x (its i) hk_43) hc_38 ⟨(Nat.le_of_ble_eq_true rfl), (Nat.le_of_ble_eq_true rfl)⟩ ⟨(Nat.le_of_ble_eq_true rfl), (Nat.le_of_ble_eq_true rfl)⟩ rfl hl.1 rfl (Nat.le_of_ble_eq_true rfl) d_D_measured_50 hZ hS (fun v w_54 H locs hp_55 hZ hS => ?_)
          obtain ⟨rfl, hc_56, hf_57⟩ := hp_55
          have hk_58 : w_54 il = some (.inr (2, [.int (zi vt), .ref al])) := hf_57.keep hk_41 (by simp only [List.mem_cons, List.not_mem_nil, or_false, not_or]; exact (z_neN hli hn_7))
          have hk_59 : w_54 al = some (.inr (0, [.int md, .ref ar, .int (nI n)])) := hf_57.keep hk_42 (by simp only [List.mem_cons, List.not_mem_nil, or_false, not_or]; exact (z_neN hal hn_7))
          have hk_60 : w_54 x = some (.inr (1, [.int (its i 0), .int (its i 1), .int (its i 2), .int (its i 3), .int (its i 4), .int (its i 5), .int (its i 6), .int (its i 7), .int (its i 8), .int (its i 9), .int (its i 10), .int (its i 11)])) := hf_57.keep hk_43 (by simp only [List.mem_cons, List.not_mem_nil, or_false, not_or]; exact z_ne hk_43 hc_38 (by simp))
          have hk_61 : w_54 r_9 = some (.inl (G.2 1, 4, .inr (.inl (vp_updL ((mAll vt its i).2.2.2.2.1) (its i 7).toNatClampNeg (((mAll vt its i).2.2.2.2.1) (its i 7).toNatClampNeg + (its i 6).toInt64))))) := hf_57.keep hc_39 (by simp only [List.mem_cons, List.not_mem_nil, or_false, not_or]; exact z_ne hc_39 hc_38 (by simp))
          have hk_62 : w_54 ar = some (.inl (G.2 3, cap, .inr (.inr (.inr (.inr fa))))) := hf_57.keep hk_44 (by simp only [List.mem_cons, List.not_mem_nil, or_false, not_or]; exact z_ne hk_44 hc_38 (by simp))
          have hF := hF.call hf_57 (List.forall_mem_cons.mpr ⟨Or.inr hn_7, fun _ h => absurd h List.not_mem_nil⟩)
          refine W.eq (g2 := F0 m 53 ls []) rfl ?_
          refine lv_goto (tgt := 62) hx hb d_D_measured_53 (by decide) ?_
          refine lv_iinc (v := ((nI i) + 1)) (lv' := [(3, .int ((nI i) + 1)), (4, .ref x), (2, .ref q_1), (0, .ref il), (1, .int lim)]) hx hb d_D_measured_62 hl (k := 1) rfl rfl (by decide) rfl (fun ls hl => ?_)
          refine lv_goto (tgt := 10) hx hb d_D_measured_65 (by decide) ?_
          exact ih (i + 1) _ _ _ _ (by omega) hZ hS hF (by rw [mAll_t ((zi_n0 vt).mp c44)]; exact hc_56) (by rw [mAll_t ((zi_n0 vt).mp c44)]; exact hk_61) (lv_sub hl [0, 2, 3, 4] (by rw [← nI_1 i]; rfl))
  exact loop n 0 _ _ _ _ (by omega) hZ hS hF hc_14 hc_13 hl
end
section
def sgW (u : MT) (ex : Int64) : Int64 := if 0 ≤ ex then u.2.2.2.2.1 (hiO u.2.2.2.2.1).toNatClampNeg else u.2.2.2.2.2.1
def sgS (u : MT) (ex : Int64) : Int64 := if -(sgW u ex) < ex then ex else -(sgW u ex)
def sgQ (u : MT) (ex : Int64) (f : Nat → Int32) : Int64 := if 0 ≤ ex then (if f 7 = hiO u.2.2.2.2.1 then f 6 else 0).toInt64 else (f 8).toInt64
def sgP (u : MT) (ex : Int64) (its : Nat → Nat → Int32) : Nat → Int64
  | 0 => 0
  | i + 1 => sgP u ex its i + sgQ u ex (its i)
def sgG (u : MT) (ex : Int64) (its : Nat → Nat → Int32) : Nat → Int64
  | 0 => 0
  | i + 1 => nearL (sgS u ex * sgP u ex its (i + 1)) (sgW u ex)
def sgX (u : MT) (ex : Int64) (its : Nat → Nat → Int32) (i : Nat) : Int32 := setW ((its i 1).toInt64 + sgG u ex its (i + 1) - sgG u ex its i)
theorem hiO_in (sf : Nat → Int64) : vp_in (hiO sf) 4 := by
  unfold hiO vp_in
  split
  · decide
  · split
    · decide
    · split <;> decide
theorem upd_stepX {fw P : Nat → Int32} {i : Nat} {x : Int32} (hi : i < 2 ^ 31) (hfw : ∀ j, j < i → fw j = P j) (hx : x = P i) : ∀ j, j < i + 1 → upd fw (nI i).toNatClampNeg x j = P j := by
  intro j hj
  rw [nI_clamp hi]
  by_cases h : j = i
  · subst h; rw [pk_us]; exact hx
  · rw [pk_un h]; exact hfw j (by omega)
theorem upd_at (f : Nat → Int32) (k : Nat) (x : Int32) : upd f k x k = x := pk_us
theorem upd_off {f : Nat → Int32} {k j : Nat} {x : Int32} (h : j ≠ k) : upd f k x j = f j := pk_un h
theorem upd_at2 {f : Nat → Int32} {k j : Nat} {x : Int32} (h : k = j) : upd f k x j = x := by subst h; exact pk_us
theorem sgP_s {u : MT} {ex : Int64} {its : Nat → Nat → Int32} {i : Nat} : sgP u ex its i + sgQ u ex (its i) = sgP u ex its (i + 1) := rfl
theorem sgG_s {u : MT} {ex : Int64} {its : Nat → Nat → Int32} {i : Nat} : nearL (sgS u ex * sgP u ex its (i + 1)) (sgW u ex) = sgG u ex its (i + 1) := rfl
set_option maxHeartbeats 4000000 in
set_option maxRecDepth 100000 in
theorem c_setGlue (l : Launch) (G : zG) (n0 e0 : Nat) (w : zw) (il al ar cap n q r : Nat) (vt : Bool) (md : Int32) (fa : Nat → Option Nat) (its : Nat → Nat → Int32) (u : MT) (ex : Int64) (hli : w il = some (.inr (2, [.int (zi vt), .ref al]))) (hal : w al = some (.inr (0, fA md (.ref ar) (nI n)))) (har : n = 0 ∨ (w ar = some (.inl (G.2 3, cap, .inr (.inr (.inr (.inr fa))))) ∧ n ≤ cap)) (hcn : n ≤ 60000) (hcap : cap ≤ 100000) (hit : ∀ i, i < n → ∃ x, fa i = some x ∧ w x = some (.inr (1, fI (its i)))) (hq : w q = some (.inr (3, fMt u r))) (hr0 : w r = some (.inl (G.2 1, 4, .inr (.inl u.2.2.2.2.1)))) (hne : 0 < sgW u ex → ¬ 2 * sgW u ex = 0)  : Ct l G n0 e0 y_D_setGlue b_D_setGlue 18 (Option.some (FieldType.array FieldType.int)) ({ frames := 3, cells := 1, slots := n, locals := 70 }) [.ref il, .ref q, .long ex] w (fun v w1 => ∃ qa fw, v = some (.ref qa) ∧ w qa = none ∧ w1 qa = some (.inl (G.2 0, n, .inl fw)) ∧ (∀ j, j < n → fw j = sgX u ex its j) ∧ Fr [] w w1) := by
  refine z_ct (by decide) (Nat.le_of_ble_eq_true rfl) ?_
  intro p e s m below meth c ls cx hnm hZ hS hl
  have hx := cx.1
  have hb := cx.2.1
  have hl : lv_has ls 18 [(0, .ref il), (1, .ref q), (2, .long ex)] := hl
  have hF : Fr [] w w := Fr.rf
  refine lv_aload_n hx hb d_D_setGlue_0 rfl (lv_at hl 0 rfl) ?_
  refine gf_D_117 cx hZ hli rfl d_D_setGlue_1 ?_
  refine iv_D_135 (As := []) (rest := []) cx (c_A_size l G n0 e0 w al md (.ref ar) (nI n) hal) hal ⟨(Nat.le_of_ble_eq_true rfl), (Nat.le_of_ble_eq_true rfl)⟩ ⟨(by dsimp only; omega), (by dsimp only; omega)⟩ rfl hl.1 rfl (Nat.le_of_ble_eq_true rfl) d_D_setGlue_4 hZ hS (fun v w_1 H locs hp_2 hZ hS => ?_)
  obtain ⟨rfl, hq⟩ := hp_2
  subst w_1
  refine W.eq (g2 := F0 m 7 ls [.int (nI n)]) rfl ?_
  refine new_i (N := n) cx hZ hS (nI_pos (by omega)) (nI_clamp (by omega)) (by omega) (by dsimp only; omega) (by dsimp only; omega) d_D_setGlue_7 (fun q_3 w_4 H hq_6 hw_5 hZ hS => ?_)
  have hk_7 : w_4 il = some (.inr (2, [.int (zi vt), .ref al])) := up_ne hw_5 hli (z_neN hli hq_6)
  have hk_8 : w_4 al = some (.inr (0, [.int md, .ref ar, .int (nI n)])) := up_ne hw_5 hal (z_neN hal hq_6)
  have hk_9 : w_4 q = some (.inr (3, [.long u.1, .long u.2.1, .long u.2.2.1, .long u.2.2.2.1, .ref r, .long u.2.2.2.2.2.1, .int u.2.2.2.2.2.2.1, .int u.2.2.2.2.2.2.2])) := up_ne hw_5 hq (z_neN hq hq_6)
  have hk_10 : w_4 r = some (.inl (G.2 1, 4, .inr (.inl u.2.2.2.2.1))) := up_ne hw_5 hr0 (z_neN hr0 hq_6)
  have hn_11 := hF.2 _ hq_6
  have hF := hF.put hw_5 (Or.inr hn_11)
  have hc_12 : w_4 q_3 = some (.inl (G.2 0, n, .inl (fun _ => 0))) := up_self hw_5
  refine lv_astore (lv' := [(4, .ref q_3), (0, .ref il), (1, .ref q), (2, .long ex)]) hx hb d_D_setGlue_9 hl (by decide) rfl (fun ls hl => ?_)
  refine lv_aload_n hx hb d_D_setGlue_11 rfl (lv_at hl 2 rfl) ?_
  refine iv_D_193 (As := []) (rest := []) cx (c_highestOrder l G n0 e0 w_4 q r u.1 u.2.1 u.2.2.1 u.2.2.2.1 u.2.2.2.2.2.1 u.2.2.2.2.1 u.2.2.2.2.2.2.1 u.2.2.2.2.2.2.2 hk_9 hk_10) hk_9 ⟨(Nat.le_of_ble_eq_true rfl), (Nat.le_of_ble_eq_true rfl)⟩ ⟨(by dsimp only; omega), (by dsimp only; omega)⟩ rfl hl.1 rfl (Nat.le_of_ble_eq_true rfl) d_D_setGlue_12 hZ hS (fun v w_13 H locs hp_14 hZ hS => ?_)
  obtain ⟨rfl, hq⟩ := hp_14
  subst w_13
  refine W.eq (g2 := F0 m 15 ls [.int (hiO u.2.2.2.2.1)]) rfl ?_
  refine lv_istore (lv' := [(5, .int (hiO u.2.2.2.2.1)), (4, .ref q_3), (0, .ref il), (1, .ref q), (2, .long ex)]) hx hb d_D_setGlue_15 hl (by decide) rfl (fun ls hl => ?_)
  refine lv_lload_n hx hb d_D_setGlue_17 rfl (lv_at hl 4 rfl) ?_
  refine lv_lconst (v := 0) hx hb d_D_setGlue_18 (by decide) ?_
  refine W.lcmp hx hb d_D_setGlue_19 ?_
  refine lv_if_ge (tgt := 30) hx hb d_D_setGlue_20 (by decide) (fun c20 => ?_) (fun c20 => ?_)
  · have c20 := (lg_cmp_ge _ _).mp c20
    refine lv_aload_n hx hb d_D_setGlue_30 rfl (lv_at hl 3 rfl) ?_
    refine gf_D_199 cx hZ hk_9 rfl d_D_setGlue_31 ?_
    refine lv_iload hx hb d_D_setGlue_34 (lv_at hl 0 rfl) ?_
    refine ld_l cx hZ hk_10 (hiO_in _) d_D_setGlue_36 ?_
    refine lv_topl (fun wh e_wh => ?_)
    refine lv_lstore (lv' := [(6, .long wh), (5, .int (hiO u.2.2.2.2.1)), (4, .ref q_3), (0, .ref il), (1, .ref q), (2, .long ex)]) hx hb d_D_setGlue_37 hl (by decide) rfl (fun ls hl => ?_)
    refine lv_lload_n hx hb d_D_setGlue_39 rfl (lv_at hl 5 rfl) ?_
    refine lv_lload hx hb d_D_setGlue_40 (lv_at hl 0 rfl) ?_
    refine lv_lneg hx hb d_D_setGlue_42 ?_
    refine mm_D_203 cx hl.1 d_D_setGlue_43 (Nat.le_of_ble_eq_true rfl) (Nat.le_of_ble_eq_true rfl) (by dsimp only; omega) (by dsimp only; omega) ?_
    refine lv_topl (fun shd e_shd => ?_)
    refine lv_lstore (lv' := [(8, .long shd), (6, .long wh), (5, .int (hiO u.2.2.2.2.1)), (4, .ref q_3), (0, .ref il), (1, .ref q), (2, .long ex)]) hx hb d_D_setGlue_46 hl (by decide) rfl (fun ls hl => ?_)
    refine lv_lconst (v := 0) hx hb d_D_setGlue_48 (by decide) ?_
    refine lv_lstore (lv' := [(10, .long 0), (8, .long shd), (6, .long wh), (5, .int (hiO u.2.2.2.2.1)), (4, .ref q_3), (0, .ref il), (1, .ref q), (2, .long ex)]) hx hb d_D_setGlue_49 hl (by decide) rfl (fun ls hl => ?_)
    refine lv_lconst (v := 0) hx hb d_D_setGlue_51 (by decide) ?_
    refine lv_lstore (lv' := [(12, .long 0), (10, .long 0), (8, .long shd), (6, .long wh), (5, .int (hiO u.2.2.2.2.1)), (4, .ref q_3), (0, .ref il), (1, .ref q), (2, .long ex)]) hx hb d_D_setGlue_52 hl (by decide) rfl (fun ls hl => ?_)
    refine lv_iconst (v := 0) hx hb d_D_setGlue_54 (by decide) ?_
    refine lv_istore (lv' := [(14, .int 0), (12, .long 0), (10, .long 0), (8, .long shd), (6, .long wh), (5, .int (hiO u.2.2.2.2.1)), (4, .ref q_3), (0, .ref il), (1, .ref q), (2, .long ex)]) hx hb d_D_setGlue_55 hl (by decide) rfl (fun ls hl => ?_)
    have hw1 : wh = sgW u ex := by rw [e_wh, sgW, if_pos c20]
    have hs1 : shd = sgS u ex := by rw [e_shd, hw1, sgS]
    clear e_wh e_shd
    subst hw1 hs1
    refine W.widen (k := 1) (n := n) (by dsimp only; omega) (by dsimp only; omega) ?_
    have loop : ∀ (k i : Nat) (w2 : zw) (fw : Nat → Int32) (H : Heap) (locs : List Loc) (ls : Array Slot), i + k = n → Zw G.1 vwC (zA n0) w2 H → va_S (zA n0) s.heap H locs → Fr [] w w2 → w2 q_3 = some (.inl (G.2 0, n, .inl fw)) → (∀ j, j < i → fw j = sgX u ex its j) → lv_has ls 18 [(14, .int (nI i)), (12, .long (sgG u ex its i)), (10, .long (sgP u ex its i)), (8, .long (sgS u ex)), (6, .long (sgW u ex)), (5, .int (hiO u.2.2.2.2.1)), (4, .ref q_3), (0, .ref il), (1, .ref q), (2, .long ex)] → W p l e ({ frames := 3, cells := 1, slots := n, locals := 70 }) s m [.ref il, .ref q, .long ex].toArray below meth c H locs 1 n (MQ below (zQ G.1 vwC n0 (fun v w1 => ∃ qa fw, v = some (.ref qa) ∧ w qa = none ∧ w1 qa = some (.inl (G.2 0, n, .inl fw)) ∧ (∀ j, j < n → fw j = sgX u ex its j) ∧ Fr [] w w1)) [.ref il, .ref q, .long ex].toArray s ({ frames := 3, cells := 1, slots := n, locals := 70 } : Room).cells ({ frames := 3, cells := 1, slots := n, locals := 70 } : Room).slots (zA n0)) (F0 m 57 ls []) := by
      intro k
      induction k with
      | zero =>
        intro i w2 fw H locs ls hik hZ hS hF hqa hfw hl
        have hk_15 : w2 il = some (.inr (2, [.int (zi vt), .ref al])) := hF.keep hli (by simp)
        have hk_16 : w2 al = some (.inr (0, [.int md, .ref ar, .int (nI n)])) := hF.keep hal (by simp)
        have hin : i = n := by omega
        subst hin
        refine lv_iload hx hb d_D_setGlue_57 (lv_at hl 0 rfl) ?_
        refine lv_aload hx hb d_D_setGlue_59 (lv_at hl 6 rfl) ?_
        refine len_i cx hZ hqa d_D_setGlue_61 ?_
        refine lv_icmp_ge (tgt := 149) hx hb d_D_setGlue_62 (by decide) (fun c62 => ?_) (fun c62 => ?_)
        · refine lv_aload hx hb d_D_setGlue_149 (lv_at hl 6 rfl) ?_
          exact z_aret cx.1 cx.2.1 cx.rt cx.lk (by first | exact Or.inl ⟨_, rfl⟩ | exact Or.inr ⟨_, rfl⟩) (by first | exact Or.inl rfl | exact Or.inr ⟨_, rfl⟩) hS hZ ⟨(by dsimp only; omega), (by dsimp only; omega)⟩ d_D_setGlue_151 (⟨q_3, fw, rfl, hn_11, hqa, hfw, hF⟩)
        · exact absurd (nI_le (Nat.le_refl _) (by omega)) c62
      | succ k ih =>
        intro i w2 fw H locs ls hik hZ hS hF hqa hfw hl
        have hk_17 : w2 il = some (.inr (2, [.int (zi vt), .ref al])) := hF.keep hli (by simp)
        have hk_18 : w2 al = some (.inr (0, [.int md, .ref ar, .int (nI n)])) := hF.keep hal (by simp)
        have hin : i < n := by omega
        obtain ⟨x, hfx, hxi⟩ := hit i hin
        have hxk : w2 x = some (.inr (1, fI (its i))) := hF.keep hxi (by simp)
        obtain ⟨har1, har2⟩ := har.resolve_left (by omega)
        have hark : w2 ar = some (.inl (G.2 3, cap, .inr (.inr (.inr (.inr fa))))) := hF.keep har1 (by simp)
        refine lv_iload hx hb d_D_setGlue_57 (lv_at hl 0 rfl) ?_
        refine lv_aload hx hb d_D_setGlue_59 (lv_at hl 6 rfl) ?_
        refine len_i cx hZ hqa d_D_setGlue_61 ?_
        refine lv_icmp_ge (tgt := 149) hx hb d_D_setGlue_62 (by decide) (fun c62 => ?_) (fun c62 => ?_)
        · exact absurd c62 (nI_ge hin (by omega))
        · refine lv_aload_n hx hb d_D_setGlue_65 rfl (lv_at hl 7 rfl) ?_
          refine gf_D_117 cx hZ hk_17 rfl d_D_setGlue_66 ?_
          refine lv_iload hx hb d_D_setGlue_69 (lv_at hl 0 rfl) ?_
          refine iv_D_139 (As := [.int (nI i)]) (rest := []) cx (c_A_get l G n0 e0 w2 al ar cap md (nI n) fa hk_18 hark (nI i) x (nI_pos (by omega)) (nI_lt hin (by omega)) (vp_in_nI (by omega) (by omega)) (by rw [nI_clamp (by omega)]; exact hfx)) hk_18 ⟨(Nat.le_of_ble_eq_true rfl), (Nat.le_of_ble_eq_true rfl)⟩ ⟨(by dsimp only; omega), (by dsimp only; omega)⟩ rfl hl.1 rfl (Nat.le_of_ble_eq_true rfl) d_D_setGlue_71 hZ hS (fun v w_19 H locs hp_20 hZ hS => ?_)
          obtain ⟨rfl, hq⟩ := hp_20
          subst w_19
          refine W.eq (g2 := F0 m 74 ls [.ref x]) rfl ?_
          refine kc_D_40 cx hZ hxk d_D_setGlue_74 ?_
          refine lv_astore (lv' := [(15, .ref x), (14, .int (nI i)), (12, .long (sgG u ex its i)), (10, .long (sgP u ex its i)), (8, .long (sgS u ex)), (6, .long (sgW u ex)), (5, .int (hiO u.2.2.2.2.1)), (4, .ref q_3), (0, .ref il), (1, .ref q), (2, .long ex)]) hx hb d_D_setGlue_77 hl (by decide) rfl (fun ls hl => ?_)
          refine lv_lload hx hb d_D_setGlue_79 (lv_at hl 3 rfl) ?_
          refine lv_lload_n hx hb d_D_setGlue_81 rfl (lv_at hl 10 rfl) ?_
          refine lv_lconst (v := 0) hx hb d_D_setGlue_82 (by decide) ?_
          refine W.lcmp hx hb d_D_setGlue_83 ?_
          refine lv_if_ge (tgt := 96) hx hb d_D_setGlue_84 (by decide) (fun c84 => ?_) (fun c84 => ?_)
          · have c84 := (lg_cmp_ge _ _).mp c84
            refine lv_aload hx hb d_D_setGlue_96 (lv_at hl 0 rfl) ?_
            refine lv_iload hx hb d_D_setGlue_98 (lv_at hl 6 rfl) ?_
            refine iv_D_212 (As := [.int (hiO u.2.2.2.2.1)]) (rest := [.long (sgP u ex its i)]) cx (c_stretchOf l G n0 e0 w2 x (its i) (hiO u.2.2.2.2.1) hxk) hxk ⟨(Nat.le_of_ble_eq_true rfl), (Nat.le_of_ble_eq_true rfl)⟩ ⟨(by dsimp only; omega), (by dsimp only; omega)⟩ rfl hl.1 rfl (Nat.le_of_ble_eq_true rfl) d_D_setGlue_100 hZ hS (fun v w_21 H locs hp_22 hZ hS => ?_)
            obtain ⟨rfl, hq⟩ := hp_22
            subst w_21
            refine W.eq (g2 := F0 m 103 ls [.int (if its i 7 = hiO u.2.2.2.2.1 then its i 6 else 0), .long (sgP u ex its i)]) rfl ?_
            refine lv_i2l hx hb d_D_setGlue_103 rfl ?_
            refine lv_ladd hx hb d_D_setGlue_104 ?_
            rw [show (((sgP u ex its i) + ((if its i 7 = hiO u.2.2.2.2.1 then its i 6 else 0).toInt64)) : Int64) = sgP u ex its (i + 1) from by rw [← sgP_s, sgQ, if_pos c20]]
            refine lv_lstore (lv' := [(10, .long (sgP u ex its (i + 1))), (15, .ref x), (14, .int (nI i)), (12, .long (sgG u ex its i)), (8, .long (sgS u ex)), (6, .long (sgW u ex)), (5, .int (hiO u.2.2.2.2.1)), (4, .ref q_3), (0, .ref il), (1, .ref q), (2, .long ex)]) hx hb d_D_setGlue_105 hl (by decide) rfl (fun ls hl => ?_)
            refine lv_lload hx hb d_D_setGlue_107 (lv_at hl 4 rfl) ?_
            refine lv_lload hx hb d_D_setGlue_109 (lv_at hl 0 rfl) ?_
            refine lv_lmul hx hb d_D_setGlue_111 ?_
            refine lv_lload hx hb d_D_setGlue_112 (lv_at hl 5 rfl) ?_
            refine is_D_215 (As := [.long ((sgS u ex) * (sgP u ex its (i + 1))), .long (sgW u ex)]) (rest := []) cx (c_near l G n0 e0 ((sgS u ex) * (sgP u ex its (i + 1))) (sgW u ex) w2 hne) ⟨(Nat.le_of_ble_eq_true rfl), (Nat.le_of_ble_eq_true rfl)⟩ ⟨(by dsimp only; omega), (by dsimp only; omega)⟩ rfl hl.1 rfl (Nat.le_of_ble_eq_true rfl) d_D_setGlue_114 hZ hS (fun v w_23 H locs hp_24 hZ hS => ?_)
            obtain ⟨rfl, hq⟩ := hp_24
            subst w_23
            refine W.eq (g2 := F0 m 117 ls [.long (nearL ((sgS u ex) * (sgP u ex its (i + 1))) (sgW u ex))]) rfl ?_
            rw [show ((nearL ((sgS u ex) * (sgP u ex its (i + 1))) (sgW u ex)) : Int64) = sgG u ex its (i + 1) from sgG_s]
            refine lv_lstore (lv' := [(16, .long (sgG u ex its (i + 1))), (10, .long (sgP u ex its (i + 1))), (15, .ref x), (14, .int (nI i)), (12, .long (sgG u ex its i)), (8, .long (sgS u ex)), (6, .long (sgW u ex)), (5, .int (hiO u.2.2.2.2.1)), (4, .ref q_3), (0, .ref il), (1, .ref q), (2, .long ex)]) hx hb d_D_setGlue_117 hl (by decide) rfl (fun ls hl => ?_)
            refine lv_aload hx hb d_D_setGlue_119 (lv_at hl 8 rfl) ?_
            refine lv_iload hx hb d_D_setGlue_121 (lv_at hl 3 rfl) ?_
            refine lv_aload hx hb d_D_setGlue_123 (lv_at hl 2 rfl) ?_
            refine gf_D_218 cx hZ hxk rfl d_D_setGlue_125 ?_
            refine lv_i2l hx hb d_D_setGlue_128 rfl ?_
            refine lv_lload hx hb d_D_setGlue_129 (lv_at hl 0 rfl) ?_
            refine lv_ladd hx hb d_D_setGlue_131 ?_
            refine lv_lload hx hb d_D_setGlue_132 (lv_at hl 4 rfl) ?_
            refine lv_lsub hx hb d_D_setGlue_134 ?_
            refine is_D_219 (As := [.long ((((its i 1).toInt64) + (sgG u ex its (i + 1))) - (sgG u ex its i))]) (rest := [.int (nI i), .ref q_3]) cx (c_asSetWidth l G n0 e0 ((((its i 1).toInt64) + (sgG u ex its (i + 1))) - (sgG u ex its i)) w2) ⟨(Nat.le_of_ble_eq_true rfl), (Nat.le_of_ble_eq_true rfl)⟩ ⟨(by dsimp only; omega), (by dsimp only; omega)⟩ rfl hl.1 rfl (Nat.le_of_ble_eq_true rfl) d_D_setGlue_135 hZ hS (fun v w_25 H locs hp_26 hZ hS => ?_)
            obtain ⟨rfl, hq⟩ := hp_26
            subst w_25
            refine W.eq (g2 := F0 m 138 ls [.int (setW ((((its i 1).toInt64) + (sgG u ex its (i + 1))) - (sgG u ex its i))), .int (nI i), .ref q_3]) rfl ?_
            refine st_i cx hZ hS hqa (vp_in_nI hin (by omega)) d_D_setGlue_138 (fun w_27 H locs hw_28 hZ hS => ?_)
            have hk_29 : w_27 il = some (.inr (2, [.int (zi vt), .ref al])) := up_ne hw_28 hk_17 (z_neN hli hn_11)
            have hk_30 : w_27 al = some (.inr (0, [.int md, .ref ar, .int (nI n)])) := up_ne hw_28 hk_18 (z_neN hal hn_11)
            have hk_31 : w_27 x = some (.inr (1, [.int (its i 0), .int (its i 1), .int (its i 2), .int (its i 3), .int (its i 4), .int (its i 5), .int (its i 6), .int (its i 7), .int (its i 8), .int (its i 9), .int (its i 10), .int (its i 11)])) := up_ne hw_28 hxk (z_ne hxk hqa (by simp))
            have hk_32 : w_27 ar = some (.inl (G.2 3, cap, .inr (.inr (.inr (.inr fa))))) := up_ne hw_28 hark (z_ne hark hqa (by simp))
            have hF := hF.put hw_28 (Or.inr hn_11)
            have hc_33 : w_27 q_3 = some (.inl (G.2 0, n, .inl (upd fw (nI i).toNatClampNeg (setW ((((its i 1).toInt64) + (sgG u ex its (i + 1))) - (sgG u ex its i)))))) := up_self hw_28
            refine lv_lload hx hb d_D_setGlue_139 (lv_at hl 0 rfl) ?_
            refine lv_lstore (lv' := [(12, .long (sgG u ex its (i + 1))), (16, .long (sgG u ex its (i + 1))), (10, .long (sgP u ex its (i + 1))), (15, .ref x), (14, .int (nI i)), (8, .long (sgS u ex)), (6, .long (sgW u ex)), (5, .int (hiO u.2.2.2.2.1)), (4, .ref q_3), (0, .ref il), (1, .ref q), (2, .long ex)]) hx hb d_D_setGlue_141 hl (by decide) rfl (fun ls hl => ?_)
            refine lv_iinc (v := ((nI i) + 1)) (lv' := [(14, .int ((nI i) + 1)), (12, .long (sgG u ex its (i + 1))), (16, .long (sgG u ex its (i + 1))), (10, .long (sgP u ex its (i + 1))), (15, .ref x), (8, .long (sgS u ex)), (6, .long (sgW u ex)), (5, .int (hiO u.2.2.2.2.1)), (4, .ref q_3), (0, .ref il), (1, .ref q), (2, .long ex)]) hx hb d_D_setGlue_143 hl (k := 4) rfl rfl (by decide) rfl (fun ls hl => ?_)
            refine lv_goto (tgt := 57) hx hb d_D_setGlue_146 (by decide) ?_
            exact ih (i + 1) _ _ _ _ _ (by omega) hZ hS hF hc_33 (upd_stepX (by omega) hfw rfl) (lv_sub hl [0, 1, 3, 5, 6, 7, 8, 9, 10, 11] (by rw [← nI_1 i]; rfl))
          · have c84 := fun q => c84 ((lg_cmp_ge _ _).mpr q)
            exact absurd c20 c84
    exact loop n 0 _ _ _ _ _ (by omega) hZ hS hF hc_12 (fun j hj => absurd hj (by omega)) (lv_sub hl [0, 1, 2, 3, 4, 5, 6, 7, 8, 9] rfl)
  · have c20 := fun q => c20 ((lg_cmp_ge _ _).mpr q)
    refine lv_aload_n hx hb d_D_setGlue_23 rfl (lv_at hl 3 rfl) ?_
    refine gf_D_196 cx hZ hk_9 rfl d_D_setGlue_24 ?_
    refine lv_topl (fun wh e_wh => ?_)
    refine lv_goto (tgt := 37) hx hb d_D_setGlue_27 (by decide) ?_
    refine lv_lstore (lv' := [(6, .long wh), (5, .int (hiO u.2.2.2.2.1)), (4, .ref q_3), (0, .ref il), (1, .ref q), (2, .long ex)]) hx hb d_D_setGlue_37 hl (by decide) rfl (fun ls hl => ?_)
    refine lv_lload_n hx hb d_D_setGlue_39 rfl (lv_at hl 5 rfl) ?_
    refine lv_lload hx hb d_D_setGlue_40 (lv_at hl 0 rfl) ?_
    refine lv_lneg hx hb d_D_setGlue_42 ?_
    refine mm_D_203 cx hl.1 d_D_setGlue_43 (Nat.le_of_ble_eq_true rfl) (Nat.le_of_ble_eq_true rfl) (by dsimp only; omega) (by dsimp only; omega) ?_
    refine lv_topl (fun shd e_shd => ?_)
    refine lv_lstore (lv' := [(8, .long shd), (6, .long wh), (5, .int (hiO u.2.2.2.2.1)), (4, .ref q_3), (0, .ref il), (1, .ref q), (2, .long ex)]) hx hb d_D_setGlue_46 hl (by decide) rfl (fun ls hl => ?_)
    refine lv_lconst (v := 0) hx hb d_D_setGlue_48 (by decide) ?_
    refine lv_lstore (lv' := [(10, .long 0), (8, .long shd), (6, .long wh), (5, .int (hiO u.2.2.2.2.1)), (4, .ref q_3), (0, .ref il), (1, .ref q), (2, .long ex)]) hx hb d_D_setGlue_49 hl (by decide) rfl (fun ls hl => ?_)
    refine lv_lconst (v := 0) hx hb d_D_setGlue_51 (by decide) ?_
    refine lv_lstore (lv' := [(12, .long 0), (10, .long 0), (8, .long shd), (6, .long wh), (5, .int (hiO u.2.2.2.2.1)), (4, .ref q_3), (0, .ref il), (1, .ref q), (2, .long ex)]) hx hb d_D_setGlue_52 hl (by decide) rfl (fun ls hl => ?_)
    refine lv_iconst (v := 0) hx hb d_D_setGlue_54 (by decide) ?_
    refine lv_istore (lv' := [(14, .int 0), (12, .long 0), (10, .long 0), (8, .long shd), (6, .long wh), (5, .int (hiO u.2.2.2.2.1)), (4, .ref q_3), (0, .ref il), (1, .ref q), (2, .long ex)]) hx hb d_D_setGlue_55 hl (by decide) rfl (fun ls hl => ?_)
    have hw1 : wh = sgW u ex := by rw [e_wh, sgW, if_neg c20]
    have hs1 : shd = sgS u ex := by rw [e_shd, hw1, sgS]
    clear e_wh e_shd
    subst hw1 hs1
    refine W.widen (k := 1) (n := n) (by dsimp only; omega) (by dsimp only; omega) ?_
    have loop : ∀ (k i : Nat) (w2 : zw) (fw : Nat → Int32) (H : Heap) (locs : List Loc) (ls : Array Slot), i + k = n → Zw G.1 vwC (zA n0) w2 H → va_S (zA n0) s.heap H locs → Fr [] w w2 → w2 q_3 = some (.inl (G.2 0, n, .inl fw)) → (∀ j, j < i → fw j = sgX u ex its j) → lv_has ls 18 [(14, .int (nI i)), (12, .long (sgG u ex its i)), (10, .long (sgP u ex its i)), (8, .long (sgS u ex)), (6, .long (sgW u ex)), (5, .int (hiO u.2.2.2.2.1)), (4, .ref q_3), (0, .ref il), (1, .ref q), (2, .long ex)] → W p l e ({ frames := 3, cells := 1, slots := n, locals := 70 }) s m [.ref il, .ref q, .long ex].toArray below meth c H locs 1 n (MQ below (zQ G.1 vwC n0 (fun v w1 => ∃ qa fw, v = some (.ref qa) ∧ w qa = none ∧ w1 qa = some (.inl (G.2 0, n, .inl fw)) ∧ (∀ j, j < n → fw j = sgX u ex its j) ∧ Fr [] w w1)) [.ref il, .ref q, .long ex].toArray s ({ frames := 3, cells := 1, slots := n, locals := 70 } : Room).cells ({ frames := 3, cells := 1, slots := n, locals := 70 } : Room).slots (zA n0)) (F0 m 57 ls []) := by
      intro k
      induction k with
      | zero =>
        intro i w2 fw H locs ls hik hZ hS hF hqa hfw hl
        have hk_34 : w2 il = some (.inr (2, [.int (zi vt), .ref al])) := hF.keep hli (by simp)
        have hk_35 : w2 al = some (.inr (0, [.int md, .ref ar, .int (nI n)])) := hF.keep hal (by simp)
        have hin : i = n := by omega
        subst hin
        refine lv_iload hx hb d_D_setGlue_57 (lv_at hl 0 rfl) ?_
        refine lv_aload hx hb d_D_setGlue_59 (lv_at hl 6 rfl) ?_
        refine len_i cx hZ hqa d_D_setGlue_61 ?_
        refine lv_icmp_ge (tgt := 149) hx hb d_D_setGlue_62 (by decide) (fun c62 => ?_) (fun c62 => ?_)
        · refine lv_aload hx hb d_D_setGlue_149 (lv_at hl 6 rfl) ?_
          exact z_aret cx.1 cx.2.1 cx.rt cx.lk (by first | exact Or.inl ⟨_, rfl⟩ | exact Or.inr ⟨_, rfl⟩) (by first | exact Or.inl rfl | exact Or.inr ⟨_, rfl⟩) hS hZ ⟨(by dsimp only; omega), (by dsimp only; omega)⟩ d_D_setGlue_151 (⟨q_3, fw, rfl, hn_11, hqa, hfw, hF⟩)
        · exact absurd (nI_le (Nat.le_refl _) (by omega)) c62
      | succ k ih =>
        intro i w2 fw H locs ls hik hZ hS hF hqa hfw hl
        have hk_36 : w2 il = some (.inr (2, [.int (zi vt), .ref al])) := hF.keep hli (by simp)
        have hk_37 : w2 al = some (.inr (0, [.int md, .ref ar, .int (nI n)])) := hF.keep hal (by simp)
        have hin : i < n := by omega
        obtain ⟨x, hfx, hxi⟩ := hit i hin
        have hxk : w2 x = some (.inr (1, fI (its i))) := hF.keep hxi (by simp)
        obtain ⟨har1, har2⟩ := har.resolve_left (by omega)
        have hark : w2 ar = some (.inl (G.2 3, cap, .inr (.inr (.inr (.inr fa))))) := hF.keep har1 (by simp)
        refine lv_iload hx hb d_D_setGlue_57 (lv_at hl 0 rfl) ?_
        refine lv_aload hx hb d_D_setGlue_59 (lv_at hl 6 rfl) ?_
        refine len_i cx hZ hqa d_D_setGlue_61 ?_
        refine lv_icmp_ge (tgt := 149) hx hb d_D_setGlue_62 (by decide) (fun c62 => ?_) (fun c62 => ?_)
        · exact absurd c62 (nI_ge hin (by omega))
        · refine lv_aload_n hx hb d_D_setGlue_65 rfl (lv_at hl 7 rfl) ?_
          refine gf_D_117 cx hZ hk_36 rfl d_D_setGlue_66 ?_
          refine lv_iload hx hb d_D_setGlue_69 (lv_at hl 0 rfl) ?_
          refine iv_D_139 (As := [.int (nI i)]) (rest := []) cx (c_A_get l G n0 e0 w2 al ar cap md (nI n) fa hk_37 hark (nI i) x (nI_pos (by omega)) (nI_lt hin (by omega)) (vp_in_nI (by omega) (by omega)) (by rw [nI_clamp (by omega)]; exact hfx)) hk_37 ⟨(Nat.le_of_ble_eq_true rfl), (Nat.le_of_ble_eq_true rfl)⟩ ⟨(by dsimp only; omega), (by dsimp only; omega)⟩ rfl hl.1 rfl (Nat.le_of_ble_eq_true rfl) d_D_setGlue_71 hZ hS (fun v w_38 H locs hp_39 hZ hS => ?_)
          obtain ⟨rfl, hq⟩ := hp_39
          subst w_38
          refine W.eq (g2 := F0 m 74 ls [.ref x]) rfl ?_
          refine kc_D_40 cx hZ hxk d_D_setGlue_74 ?_
          refine lv_astore (lv' := [(15, .ref x), (14, .int (nI i)), (12, .long (sgG u ex its i)), (10, .long (sgP u ex its i)), (8, .long (sgS u ex)), (6, .long (sgW u ex)), (5, .int (hiO u.2.2.2.2.1)), (4, .ref q_3), (0, .ref il), (1, .ref q), (2, .long ex)]) hx hb d_D_setGlue_77 hl (by decide) rfl (fun ls hl => ?_)
          refine lv_lload hx hb d_D_setGlue_79 (lv_at hl 3 rfl) ?_
          refine lv_lload_n hx hb d_D_setGlue_81 rfl (lv_at hl 10 rfl) ?_
          refine lv_lconst (v := 0) hx hb d_D_setGlue_82 (by decide) ?_
          refine W.lcmp hx hb d_D_setGlue_83 ?_
          refine lv_if_ge (tgt := 96) hx hb d_D_setGlue_84 (by decide) (fun c84 => ?_) (fun c84 => ?_)
          · have c84 := (lg_cmp_ge _ _).mp c84
            exact absurd c84 c20
          · have c84 := fun q => c84 ((lg_cmp_ge _ _).mpr q)
            refine lv_aload hx hb d_D_setGlue_87 (lv_at hl 0 rfl) ?_
            refine gf_D_209 cx hZ hxk rfl d_D_setGlue_89 ?_
            refine lv_i2l hx hb d_D_setGlue_92 rfl ?_
            refine lv_goto (tgt := 104) hx hb d_D_setGlue_93 (by decide) ?_
            refine lv_ladd hx hb d_D_setGlue_104 ?_
            rw [show (((sgP u ex its i) + ((its i 8).toInt64)) : Int64) = sgP u ex its (i + 1) from by rw [← sgP_s, sgQ, if_neg c20]]
            refine lv_lstore (lv' := [(10, .long (sgP u ex its (i + 1))), (15, .ref x), (14, .int (nI i)), (12, .long (sgG u ex its i)), (8, .long (sgS u ex)), (6, .long (sgW u ex)), (5, .int (hiO u.2.2.2.2.1)), (4, .ref q_3), (0, .ref il), (1, .ref q), (2, .long ex)]) hx hb d_D_setGlue_105 hl (by decide) rfl (fun ls hl => ?_)
            refine lv_lload hx hb d_D_setGlue_107 (lv_at hl 4 rfl) ?_
            refine lv_lload hx hb d_D_setGlue_109 (lv_at hl 0 rfl) ?_
            refine lv_lmul hx hb d_D_setGlue_111 ?_
            refine lv_lload hx hb d_D_setGlue_112 (lv_at hl 5 rfl) ?_
            refine is_D_215 (As := [.long ((sgS u ex) * (sgP u ex its (i + 1))), .long (sgW u ex)]) (rest := []) cx (c_near l G n0 e0 ((sgS u ex) * (sgP u ex its (i + 1))) (sgW u ex) w2 hne) ⟨(Nat.le_of_ble_eq_true rfl), (Nat.le_of_ble_eq_true rfl)⟩ ⟨(by dsimp only; omega), (by dsimp only; omega)⟩ rfl hl.1 rfl (Nat.le_of_ble_eq_true rfl) d_D_setGlue_114 hZ hS (fun v w_40 H locs hp_41 hZ hS => ?_)
            obtain ⟨rfl, hq⟩ := hp_41
            subst w_40
            refine W.eq (g2 := F0 m 117 ls [.long (nearL ((sgS u ex) * (sgP u ex its (i + 1))) (sgW u ex))]) rfl ?_
            rw [show ((nearL ((sgS u ex) * (sgP u ex its (i + 1))) (sgW u ex)) : Int64) = sgG u ex its (i + 1) from sgG_s]
            refine lv_lstore (lv' := [(16, .long (sgG u ex its (i + 1))), (10, .long (sgP u ex its (i + 1))), (15, .ref x), (14, .int (nI i)), (12, .long (sgG u ex its i)), (8, .long (sgS u ex)), (6, .long (sgW u ex)), (5, .int (hiO u.2.2.2.2.1)), (4, .ref q_3), (0, .ref il), (1, .ref q), (2, .long ex)]) hx hb d_D_setGlue_117 hl (by decide) rfl (fun ls hl => ?_)
            refine lv_aload hx hb d_D_setGlue_119 (lv_at hl 8 rfl) ?_
            refine lv_iload hx hb d_D_setGlue_121 (lv_at hl 3 rfl) ?_
            refine lv_aload hx hb d_D_setGlue_123 (lv_at hl 2 rfl) ?_
            refine gf_D_218 cx hZ hxk rfl d_D_setGlue_125 ?_
            refine lv_i2l hx hb d_D_setGlue_128 rfl ?_
            refine lv_lload hx hb d_D_setGlue_129 (lv_at hl 0 rfl) ?_
            refine lv_ladd hx hb d_D_setGlue_131 ?_
            refine lv_lload hx hb d_D_setGlue_132 (lv_at hl 4 rfl) ?_
            refine lv_lsub hx hb d_D_setGlue_134 ?_
            refine is_D_219 (As := [.long ((((its i 1).toInt64) + (sgG u ex its (i + 1))) - (sgG u ex its i))]) (rest := [.int (nI i), .ref q_3]) cx (c_asSetWidth l G n0 e0 ((((its i 1).toInt64) + (sgG u ex its (i + 1))) - (sgG u ex its i)) w2) ⟨(Nat.le_of_ble_eq_true rfl), (Nat.le_of_ble_eq_true rfl)⟩ ⟨(by dsimp only; omega), (by dsimp only; omega)⟩ rfl hl.1 rfl (Nat.le_of_ble_eq_true rfl) d_D_setGlue_135 hZ hS (fun v w_42 H locs hp_43 hZ hS => ?_)
            obtain ⟨rfl, hq⟩ := hp_43
            subst w_42
            refine W.eq (g2 := F0 m 138 ls [.int (setW ((((its i 1).toInt64) + (sgG u ex its (i + 1))) - (sgG u ex its i))), .int (nI i), .ref q_3]) rfl ?_
            refine st_i cx hZ hS hqa (vp_in_nI hin (by omega)) d_D_setGlue_138 (fun w_44 H locs hw_45 hZ hS => ?_)
            have hk_46 : w_44 il = some (.inr (2, [.int (zi vt), .ref al])) := up_ne hw_45 hk_36 (z_neN hli hn_11)
            have hk_47 : w_44 al = some (.inr (0, [.int md, .ref ar, .int (nI n)])) := up_ne hw_45 hk_37 (z_neN hal hn_11)
            have hk_48 : w_44 x = some (.inr (1, [.int (its i 0), .int (its i 1), .int (its i 2), .int (its i 3), .int (its i 4), .int (its i 5), .int (its i 6), .int (its i 7), .int (its i 8), .int (its i 9), .int (its i 10), .int (its i 11)])) := up_ne hw_45 hxk (z_ne hxk hqa (by simp))
            have hk_49 : w_44 ar = some (.inl (G.2 3, cap, .inr (.inr (.inr (.inr fa))))) := up_ne hw_45 hark (z_ne hark hqa (by simp))
            have hF := hF.put hw_45 (Or.inr hn_11)
            have hc_50 : w_44 q_3 = some (.inl (G.2 0, n, .inl (upd fw (nI i).toNatClampNeg (setW ((((its i 1).toInt64) + (sgG u ex its (i + 1))) - (sgG u ex its i)))))) := up_self hw_45
            refine lv_lload hx hb d_D_setGlue_139 (lv_at hl 0 rfl) ?_
            refine lv_lstore (lv' := [(12, .long (sgG u ex its (i + 1))), (16, .long (sgG u ex its (i + 1))), (10, .long (sgP u ex its (i + 1))), (15, .ref x), (14, .int (nI i)), (8, .long (sgS u ex)), (6, .long (sgW u ex)), (5, .int (hiO u.2.2.2.2.1)), (4, .ref q_3), (0, .ref il), (1, .ref q), (2, .long ex)]) hx hb d_D_setGlue_141 hl (by decide) rfl (fun ls hl => ?_)
            refine lv_iinc (v := ((nI i) + 1)) (lv' := [(14, .int ((nI i) + 1)), (12, .long (sgG u ex its (i + 1))), (16, .long (sgG u ex its (i + 1))), (10, .long (sgP u ex its (i + 1))), (15, .ref x), (8, .long (sgS u ex)), (6, .long (sgW u ex)), (5, .int (hiO u.2.2.2.2.1)), (4, .ref q_3), (0, .ref il), (1, .ref q), (2, .long ex)]) hx hb d_D_setGlue_143 hl (k := 4) rfl rfl (by decide) rfl (fun ls hl => ?_)
            refine lv_goto (tgt := 57) hx hb d_D_setGlue_146 (by decide) ?_
            exact ih (i + 1) _ _ _ _ _ (by omega) hZ hS hF hc_50 (upd_stepX (by omega) hfw rfl) (lv_sub hl [0, 1, 3, 5, 6, 7, 8, 9, 10, 11] (by rw [← nI_1 i]; rfl))
    exact loop n 0 _ _ _ _ _ (by omega) hZ hS hF hc_12 (fun j hj => absurd hj (by omega)) (lv_sub hl [0, 1, 2, 3, 4, 5, 6, 7, 8, 9] rfl)
set_option maxHeartbeats 4000000 in
set_option maxRecDepth 100000 in
theorem c_B_init (l : Launch) (G : zG) (n0 e0 : Nat) (w : zw) (il al ar cap n q r : Nat) (vt : Bool) (md : Int32) (fa : Nat → Option Nat) (its : Nat → Nat → Int32) (u : MT) (wt : Int32) (b : Nat) (hli : w il = some (.inr (2, [.int (zi vt), .ref al]))) (hal : w al = some (.inr (0, fA md (.ref ar) (nI n)))) (har : n = 0 ∨ (w ar = some (.inl (G.2 3, cap, .inr (.inr (.inr (.inr fa))))) ∧ n ≤ cap)) (hcn : n ≤ 60000) (hcap : cap ≤ 100000) (hit : ∀ i, i < n → ∃ x, fa i = some x ∧ w x = some (.inr (1, fI (its i)))) (hq : w q = some (.inr (3, fMt u r))) (hr0 : w r = some (.inl (G.2 1, 4, .inr (.inl u.2.2.2.2.1)))) (hne : 0 < sgW u (wt.toInt64 - u.1) → ¬ 2 * sgW u (wt.toInt64 - u.1) = 0) (hb0 : w b = some (.inr (4, [.null, .null, .int 0, .int 0, .int 0, .int 0, .int 0])))  : Ct l G n0 e0 y_B_init b_B_init 4 (Option.none : Option FieldType) ({ frames := 4, cells := 1, slots := n, locals := 107 }) [.ref b, .ref il, .ref q, .int wt] w (fun v w1 => ∃ sw fw, v = none ∧ w sw = none ∧ w1 sw = some (.inl (G.2 0, n, .inl fw)) ∧ (∀ j, j < n → fw j = sgX u (wt.toInt64 - u.1) its j) ∧ w1 b = some (.inr (4, [.ref il, .ref sw, .int u.2.2.2.2.2.2.1, .int (u.2.2.2.2.2.2.2 + 1), .int (if vt = true then u.2.1.toInt32 else wt), .int (if vt = true then wt else u.2.2.1.toInt32), .int u.2.2.2.1.toInt32])) ∧ Fr [b] w w1) := by
  refine z_ct (by decide) (Nat.le_of_ble_eq_true rfl) ?_
  intro p e s m below meth c ls cx hnm hZ hS hl
  have hx := cx.1
  have hb := cx.2.1
  have hl : lv_has ls 4 [(0, .ref b), (1, .ref il), (2, .ref q), (3, .int wt)] := hl
  have hF : Fr [b] w w := Fr.rf
  refine lv_aload_n hx hb d_B_init_0 rfl (lv_at hl 0 rfl) ?_
  refine oi_B_1 cx hl.1 d_B_init_1 (Nat.le_of_ble_eq_true rfl) (Nat.le_of_ble_eq_true rfl) ?_
  refine W.eq (g2 := F0 m 4 ls []) rfl ?_
  refine lv_aload_n hx hb d_B_init_4 rfl (lv_at hl 0 rfl) ?_
  refine lv_aload_n hx hb d_B_init_5 rfl (lv_at hl 1 rfl) ?_
  refine pf_B_7 cx hnm hZ hS hb0 (Nat.le_of_ble_eq_true rfl) d_B_init_6 (fun w_1 H locs hw_2 hZ hS => ?_)
  have hk_3 : w_1 il = some (.inr (2, [.int (zi vt), .ref al])) := up_ne hw_2 hli (z_ne hli hb0 (by simp))
  have hk_4 : w_1 al = some (.inr (0, [.int md, .ref ar, .int (nI n)])) := up_ne hw_2 hal (z_ne hal hb0 (by simp))
  have hk_5 : w_1 q = some (.inr (3, [.long u.1, .long u.2.1, .long u.2.2.1, .long u.2.2.2.1, .ref r, .long u.2.2.2.2.2.1, .int u.2.2.2.2.2.2.1, .int u.2.2.2.2.2.2.2])) := up_ne hw_2 hq (z_ne hq hb0 (by simp))
  have hk_6 : w_1 r = some (.inl (G.2 1, 4, .inr (.inl u.2.2.2.2.1))) := up_ne hw_2 hr0 (z_ne hr0 hb0 (by simp))
  have hF := hF.put hw_2 (Or.inl (by simp))
  have hc_7 : w_1 b = some (.inr (4, [.ref il, .null, .int 0, .int 0, .int 0, .int 0, .int 0])) := up_self hw_2
  refine lv_aload_n hx hb d_B_init_9 rfl (lv_at hl 0 rfl) ?_
  refine lv_aload_n hx hb d_B_init_10 rfl (lv_at hl 1 rfl) ?_
  refine lv_aload_n hx hb d_B_init_11 rfl (lv_at hl 2 rfl) ?_
  refine lv_iload_n hx hb d_B_init_12 rfl (lv_at hl 3 rfl) ?_
  refine lv_i2l hx hb d_B_init_13 rfl ?_
  refine lv_aload_n hx hb d_B_init_14 rfl (lv_at hl 2 rfl) ?_
  refine gf_B_13 cx hZ hk_5 rfl d_B_init_15 ?_
  refine lv_lsub hx hb d_B_init_18 ?_
  refine is_B_19 (As := [.ref il, .ref q, .long (wt.toInt64 - u.1)]) (rest := [.ref b]) cx (c_setGlue l G n0 e0 w_1 il al ar cap n q r vt md fa its u (wt.toInt64 - u.1) hk_3 hk_4 (har.imp_right (fun h => ⟨up_ne hw_2 h.1 (z_ne h.1 hb0 (by simp)), h.2⟩)) hcn hcap (fun i hi => by obtain ⟨x, h1, h2⟩ := hit i hi; exact ⟨x, h1, up_ne hw_2 h2 (z_ne h2 hb0 (by simp))⟩) hk_5 hk_6 hne) ⟨(Nat.le_of_ble_eq_true rfl), (Nat.le_of_ble_eq_true rfl)⟩ ⟨(by dsimp only; omega), (by dsimp only; omega)⟩ rfl hl.1 rfl (Nat.le_of_ble_eq_true rfl) d_B_init_19 hZ hS (fun v w_10 H locs hp_11 hZ hS => ?_)
  obtain ⟨qa_8, fw_9, rfl, hc_12, hc_13, hc_14, hf_15⟩ := hp_11
  have hk_16 : w_10 il = some (.inr (2, [.int (zi vt), .ref al])) := hf_15.keep hk_3 (by simp)
  have hk_17 : w_10 al = some (.inr (0, [.int md, .ref ar, .int (nI n)])) := hf_15.keep hk_4 (by simp)
  have hk_18 : w_10 q = some (.inr (3, [.long u.1, .long u.2.1, .long u.2.2.1, .long u.2.2.2.1, .ref r, .long u.2.2.2.2.2.1, .int u.2.2.2.2.2.2.1, .int u.2.2.2.2.2.2.2])) := hf_15.keep hk_5 (by simp)
  have hk_19 : w_10 b = some (.inr (4, [.ref il, .null, .int 0, .int 0, .int 0, .int 0, .int 0])) := hf_15.keep hc_7 (by simp)
  have hk_20 : w_10 r = some (.inl (G.2 1, 4, .inr (.inl u.2.2.2.2.1))) := hf_15.keep hk_6 (by simp)
  have hn_21 := hF.2 _ hc_12
  have hF := hF.call hf_15 (fun _ h => absurd h List.not_mem_nil)
  refine W.eq (g2 := F0 m 22 ls [.ref qa_8, .ref b]) rfl ?_
  refine pf_B_25 cx hnm hZ hS hk_19 (Nat.le_of_ble_eq_true rfl) d_B_init_22 (fun w_22 H locs hw_23 hZ hS => ?_)
  have hk_24 : w_22 il = some (.inr (2, [.int (zi vt), .ref al])) := up_ne hw_23 hk_16 (z_ne hk_16 hk_19 (by simp))
  have hk_25 : w_22 al = some (.inr (0, [.int md, .ref ar, .int (nI n)])) := up_ne hw_23 hk_17 (z_ne hk_17 hk_19 (by simp))
  have hk_26 : w_22 q = some (.inr (3, [.long u.1, .long u.2.1, .long u.2.2.1, .long u.2.2.2.1, .ref r, .long u.2.2.2.2.2.1, .int u.2.2.2.2.2.2.1, .int u.2.2.2.2.2.2.2])) := up_ne hw_23 hk_18 (z_ne hk_18 hk_19 (by simp))
  have hk_27 : w_22 r = some (.inl (G.2 1, 4, .inr (.inl u.2.2.2.2.1))) := up_ne hw_23 hk_20 (z_ne hk_20 hk_19 (by simp))
  have hk_28 : w_22 qa_8 = some (.inl (G.2 0, n, .inl fw_9)) := up_ne hw_23 hc_13 ((Ne.symm (z_neN hb0 hn_21)))
  have hF := hF.put hw_23 (Or.inl (by simp))
  have hc_29 : w_22 b = some (.inr (4, [.ref il, .ref qa_8, .int 0, .int 0, .int 0, .int 0, .int 0])) := up_self hw_23
  refine lv_aload_n hx hb d_B_init_25 rfl (lv_at hl 0 rfl) ?_
  refine lv_aload_n hx hb d_B_init_26 rfl (lv_at hl 2 rfl) ?_
  refine gf_B_29 cx hZ hk_26 rfl d_B_init_27 ?_
  refine pf_B_33 cx hnm hZ hS hc_29 (Nat.le_of_ble_eq_true rfl) d_B_init_30 (fun w_30 H locs hw_31 hZ hS => ?_)
  have hk_32 : w_30 il = some (.inr (2, [.int (zi vt), .ref al])) := up_ne hw_31 hk_24 (z_ne hk_24 hc_29 (by simp))
  have hk_33 : w_30 al = some (.inr (0, [.int md, .ref ar, .int (nI n)])) := up_ne hw_31 hk_25 (z_ne hk_25 hc_29 (by simp))
  have hk_34 : w_30 q = some (.inr (3, [.long u.1, .long u.2.1, .long u.2.2.1, .long u.2.2.2.1, .ref r, .long u.2.2.2.2.2.1, .int u.2.2.2.2.2.2.1, .int u.2.2.2.2.2.2.2])) := up_ne hw_31 hk_26 (z_ne hk_26 hc_29 (by simp))
  have hk_35 : w_30 r = some (.inl (G.2 1, 4, .inr (.inl u.2.2.2.2.1))) := up_ne hw_31 hk_27 (z_ne hk_27 hc_29 (by simp))
  have hk_36 : w_30 qa_8 = some (.inl (G.2 0, n, .inl fw_9)) := up_ne hw_31 hk_28 ((Ne.symm (z_neN hb0 hn_21)))
  have hF := hF.put hw_31 (Or.inl (by simp))
  have hc_37 : w_30 b = some (.inr (4, [.ref il, .ref qa_8, .int u.2.2.2.2.2.2.1, .int 0, .int 0, .int 0, .int 0])) := up_self hw_31
  refine lv_aload_n hx hb d_B_init_33 rfl (lv_at hl 0 rfl) ?_
  refine lv_aload_n hx hb d_B_init_34 rfl (lv_at hl 2 rfl) ?_
  refine gf_B_34 cx hZ hk_34 rfl d_B_init_35 ?_
  refine lv_iconst (v := 1) hx hb d_B_init_38 (by decide) ?_
  refine lv_iadd hx hb d_B_init_39 ?_
  refine pf_B_37 cx hnm hZ hS hc_37 (Nat.le_of_ble_eq_true rfl) d_B_init_40 (fun w_38 H locs hw_39 hZ hS => ?_)
  have hk_40 : w_38 il = some (.inr (2, [.int (zi vt), .ref al])) := up_ne hw_39 hk_32 (z_ne hk_32 hc_37 (by simp))
  have hk_41 : w_38 al = some (.inr (0, [.int md, .ref ar, .int (nI n)])) := up_ne hw_39 hk_33 (z_ne hk_33 hc_37 (by simp))
  have hk_42 : w_38 q = some (.inr (3, [.long u.1, .long u.2.1, .long u.2.2.1, .long u.2.2.2.1, .ref r, .long u.2.2.2.2.2.1, .int u.2.2.2.2.2.2.1, .int u.2.2.2.2.2.2.2])) := up_ne hw_39 hk_34 (z_ne hk_34 hc_37 (by simp))
  have hk_43 : w_38 r = some (.inl (G.2 1, 4, .inr (.inl u.2.2.2.2.1))) := up_ne hw_39 hk_35 (z_ne hk_35 hc_37 (by simp))
  have hk_44 : w_38 qa_8 = some (.inl (G.2 0, n, .inl fw_9)) := up_ne hw_39 hk_36 ((Ne.symm (z_neN hb0 hn_21)))
  have hF := hF.put hw_39 (Or.inl (by simp))
  have hc_45 : w_38 b = some (.inr (4, [.ref il, .ref qa_8, .int u.2.2.2.2.2.2.1, .int (u.2.2.2.2.2.2.2 + 1), .int 0, .int 0, .int 0])) := up_self hw_39
  refine lv_aload_n hx hb d_B_init_43 rfl (lv_at hl 0 rfl) ?_
  refine lv_aload_n hx hb d_B_init_44 rfl (lv_at hl 1 rfl) ?_
  refine gf_B_40 cx hZ hk_40 rfl d_B_init_45 ?_
  refine lv_if_eq (tgt := 59) hx hb d_B_init_48 (by decide) (fun c48 => ?_) (fun c48 => ?_)
  · refine lv_iload_n hx hb d_B_init_59 rfl (lv_at hl 3 rfl) ?_
    refine pf_B_49 cx hZ hS hc_45 (Nat.le_of_ble_eq_true rfl) d_B_init_60 (fun w_46 H locs hw_47 hZ hS => ?_)
    have hk_48 : w_46 il = some (.inr (2, [.int (zi vt), .ref al])) := up_ne hw_47 hk_40 (z_ne hk_40 hc_45 (by simp))
    have hk_49 : w_46 al = some (.inr (0, [.int md, .ref ar, .int (nI n)])) := up_ne hw_47 hk_41 (z_ne hk_41 hc_45 (by simp))
    have hk_50 : w_46 q = some (.inr (3, [.long u.1, .long u.2.1, .long u.2.2.1, .long u.2.2.2.1, .ref r, .long u.2.2.2.2.2.1, .int u.2.2.2.2.2.2.1, .int u.2.2.2.2.2.2.2])) := up_ne hw_47 hk_42 (z_ne hk_42 hc_45 (by simp))
    have hk_51 : w_46 r = some (.inl (G.2 1, 4, .inr (.inl u.2.2.2.2.1))) := up_ne hw_47 hk_43 (z_ne hk_43 hc_45 (by simp))
    have hk_52 : w_46 qa_8 = some (.inl (G.2 0, n, .inl fw_9)) := up_ne hw_47 hk_44 ((Ne.symm (z_neN hb0 hn_21)))
    have hF := hF.put hw_47 (Or.inl (by simp))
    have hc_53 : w_46 b = some (.inr (4, [.ref il, .ref qa_8, .int u.2.2.2.2.2.2.1, .int (u.2.2.2.2.2.2.2 + 1), .int wt, .int 0, .int 0])) := up_self hw_47
    refine lv_aload_n hx hb d_B_init_63 rfl (lv_at hl 0 rfl) ?_
    refine lv_aload_n hx hb d_B_init_64 rfl (lv_at hl 1 rfl) ?_
    refine gf_B_40 cx hZ hk_48 rfl d_B_init_65 ?_
    refine lv_if_eq (tgt := 75) hx hb d_B_init_68 (by decide) (fun c68 => ?_) (fun c68 => ?_)
    · refine lv_aload_n hx hb d_B_init_75 rfl (lv_at hl 2 rfl) ?_
      refine gf_B_52 cx hZ hk_50 rfl d_B_init_76 ?_
      refine lv_l2i hx hb d_B_init_79 rfl ?_
      refine pf_B_55 cx hZ hS hc_53 (Nat.le_of_ble_eq_true rfl) d_B_init_80 (fun w_54 H locs hw_55 hZ hS => ?_)
      have hk_56 : w_54 il = some (.inr (2, [.int (zi vt), .ref al])) := up_ne hw_55 hk_48 (z_ne hk_48 hc_53 (by simp))
      have hk_57 : w_54 al = some (.inr (0, [.int md, .ref ar, .int (nI n)])) := up_ne hw_55 hk_49 (z_ne hk_49 hc_53 (by simp))
      have hk_58 : w_54 q = some (.inr (3, [.long u.1, .long u.2.1, .long u.2.2.1, .long u.2.2.2.1, .ref r, .long u.2.2.2.2.2.1, .int u.2.2.2.2.2.2.1, .int u.2.2.2.2.2.2.2])) := up_ne hw_55 hk_50 (z_ne hk_50 hc_53 (by simp))
      have hk_59 : w_54 r = some (.inl (G.2 1, 4, .inr (.inl u.2.2.2.2.1))) := up_ne hw_55 hk_51 (z_ne hk_51 hc_53 (by simp))
      have hk_60 : w_54 qa_8 = some (.inl (G.2 0, n, .inl fw_9)) := up_ne hw_55 hk_52 ((Ne.symm (z_neN hb0 hn_21)))
      have hF := hF.put hw_55 (Or.inl (by simp))
      have hc_61 : w_54 b = some (.inr (4, [.ref il, .ref qa_8, .int u.2.2.2.2.2.2.1, .int (u.2.2.2.2.2.2.2 + 1), .int wt, .int u.2.2.1.toInt32, .int 0])) := up_self hw_55
      refine lv_aload_n hx hb d_B_init_83 rfl (lv_at hl 0 rfl) ?_
      refine lv_aload_n hx hb d_B_init_84 rfl (lv_at hl 2 rfl) ?_
      refine gf_B_57 cx hZ hk_58 rfl d_B_init_85 ?_
      refine lv_l2i hx hb d_B_init_88 rfl ?_
      refine pf_B_60 cx hZ hS hc_61 (Nat.le_of_ble_eq_true rfl) d_B_init_89 (fun w_62 H locs hw_63 hZ hS => ?_)
      have hk_64 : w_62 il = some (.inr (2, [.int (zi vt), .ref al])) := up_ne hw_63 hk_56 (z_ne hk_56 hc_61 (by simp))
      have hk_65 : w_62 al = some (.inr (0, [.int md, .ref ar, .int (nI n)])) := up_ne hw_63 hk_57 (z_ne hk_57 hc_61 (by simp))
      have hk_66 : w_62 q = some (.inr (3, [.long u.1, .long u.2.1, .long u.2.2.1, .long u.2.2.2.1, .ref r, .long u.2.2.2.2.2.1, .int u.2.2.2.2.2.2.1, .int u.2.2.2.2.2.2.2])) := up_ne hw_63 hk_58 (z_ne hk_58 hc_61 (by simp))
      have hk_67 : w_62 r = some (.inl (G.2 1, 4, .inr (.inl u.2.2.2.2.1))) := up_ne hw_63 hk_59 (z_ne hk_59 hc_61 (by simp))
      have hk_68 : w_62 qa_8 = some (.inl (G.2 0, n, .inl fw_9)) := up_ne hw_63 hk_60 ((Ne.symm (z_neN hb0 hn_21)))
      have hF := hF.put hw_63 (Or.inl (by simp))
      have hc_69 : w_62 b = some (.inr (4, [.ref il, .ref qa_8, .int u.2.2.2.2.2.2.1, .int (u.2.2.2.2.2.2.2 + 1), .int wt, .int u.2.2.1.toInt32, .int u.2.2.2.1.toInt32])) := up_self hw_63
      exact z_vret cx.1 cx.2.1 cx.rt cx.lk hS hZ ⟨(by dsimp only; omega), (by dsimp only; omega)⟩ d_B_init_92 (⟨qa_8, fw_9, rfl, hn_21, hk_68, hc_14, (by rw [if_neg (show ¬ vt = true by rw [(zi_0 vt).mp c48]; decide), if_neg (show ¬ vt = true by rw [(zi_0 vt).mp c48]; decide)]; exact hc_69), hF⟩)
    · exact absurd c48 c68
  · refine lv_aload_n hx hb d_B_init_51 rfl (lv_at hl 2 rfl) ?_
    refine gf_B_46 cx hZ hk_42 rfl d_B_init_52 ?_
    refine lv_l2i hx hb d_B_init_55 rfl ?_
    refine lv_goto (tgt := 60) hx hb d_B_init_56 (by decide) ?_
    refine pf_B_49 cx hZ hS hc_45 (Nat.le_of_ble_eq_true rfl) d_B_init_60 (fun w_70 H locs hw_71 hZ hS => ?_)
    have hk_72 : w_70 il = some (.inr (2, [.int (zi vt), .ref al])) := up_ne hw_71 hk_40 (z_ne hk_40 hc_45 (by simp))
    have hk_73 : w_70 al = some (.inr (0, [.int md, .ref ar, .int (nI n)])) := up_ne hw_71 hk_41 (z_ne hk_41 hc_45 (by simp))
    have hk_74 : w_70 q = some (.inr (3, [.long u.1, .long u.2.1, .long u.2.2.1, .long u.2.2.2.1, .ref r, .long u.2.2.2.2.2.1, .int u.2.2.2.2.2.2.1, .int u.2.2.2.2.2.2.2])) := up_ne hw_71 hk_42 (z_ne hk_42 hc_45 (by simp))
    have hk_75 : w_70 r = some (.inl (G.2 1, 4, .inr (.inl u.2.2.2.2.1))) := up_ne hw_71 hk_43 (z_ne hk_43 hc_45 (by simp))
    have hk_76 : w_70 qa_8 = some (.inl (G.2 0, n, .inl fw_9)) := up_ne hw_71 hk_44 ((Ne.symm (z_neN hb0 hn_21)))
    have hF := hF.put hw_71 (Or.inl (by simp))
    have hc_77 : w_70 b = some (.inr (4, [.ref il, .ref qa_8, .int u.2.2.2.2.2.2.1, .int (u.2.2.2.2.2.2.2 + 1), .int u.2.1.toInt32, .int 0, .int 0])) := up_self hw_71
    refine lv_aload_n hx hb d_B_init_63 rfl (lv_at hl 0 rfl) ?_
    refine lv_aload_n hx hb d_B_init_64 rfl (lv_at hl 1 rfl) ?_
    refine gf_B_40 cx hZ hk_72 rfl d_B_init_65 ?_
    refine lv_if_eq (tgt := 75) hx hb d_B_init_68 (by decide) (fun c68 => ?_) (fun c68 => ?_)
    · exact absurd c68 c48
    · refine lv_iload_n hx hb d_B_init_71 rfl (lv_at hl 3 rfl) ?_
      refine lv_goto (tgt := 80) hx hb d_B_init_72 (by decide) ?_
      refine pf_B_55 cx hZ hS hc_77 (Nat.le_of_ble_eq_true rfl) d_B_init_80 (fun w_78 H locs hw_79 hZ hS => ?_)
      have hk_80 : w_78 il = some (.inr (2, [.int (zi vt), .ref al])) := up_ne hw_79 hk_72 (z_ne hk_72 hc_77 (by simp))
      have hk_81 : w_78 al = some (.inr (0, [.int md, .ref ar, .int (nI n)])) := up_ne hw_79 hk_73 (z_ne hk_73 hc_77 (by simp))
      have hk_82 : w_78 q = some (.inr (3, [.long u.1, .long u.2.1, .long u.2.2.1, .long u.2.2.2.1, .ref r, .long u.2.2.2.2.2.1, .int u.2.2.2.2.2.2.1, .int u.2.2.2.2.2.2.2])) := up_ne hw_79 hk_74 (z_ne hk_74 hc_77 (by simp))
      have hk_83 : w_78 r = some (.inl (G.2 1, 4, .inr (.inl u.2.2.2.2.1))) := up_ne hw_79 hk_75 (z_ne hk_75 hc_77 (by simp))
      have hk_84 : w_78 qa_8 = some (.inl (G.2 0, n, .inl fw_9)) := up_ne hw_79 hk_76 ((Ne.symm (z_neN hb0 hn_21)))
      have hF := hF.put hw_79 (Or.inl (by simp))
      have hc_85 : w_78 b = some (.inr (4, [.ref il, .ref qa_8, .int u.2.2.2.2.2.2.1, .int (u.2.2.2.2.2.2.2 + 1), .int u.2.1.toInt32, .int wt, .int 0])) := up_self hw_79
      refine lv_aload_n hx hb d_B_init_83 rfl (lv_at hl 0 rfl) ?_
      refine lv_aload_n hx hb d_B_init_84 rfl (lv_at hl 2 rfl) ?_
      refine gf_B_57 cx hZ hk_82 rfl d_B_init_85 ?_
      refine lv_l2i hx hb d_B_init_88 rfl ?_
      refine pf_B_60 cx hZ hS hc_85 (Nat.le_of_ble_eq_true rfl) d_B_init_89 (fun w_86 H locs hw_87 hZ hS => ?_)
      have hk_88 : w_86 il = some (.inr (2, [.int (zi vt), .ref al])) := up_ne hw_87 hk_80 (z_ne hk_80 hc_85 (by simp))
      have hk_89 : w_86 al = some (.inr (0, [.int md, .ref ar, .int (nI n)])) := up_ne hw_87 hk_81 (z_ne hk_81 hc_85 (by simp))
      have hk_90 : w_86 q = some (.inr (3, [.long u.1, .long u.2.1, .long u.2.2.1, .long u.2.2.2.1, .ref r, .long u.2.2.2.2.2.1, .int u.2.2.2.2.2.2.1, .int u.2.2.2.2.2.2.2])) := up_ne hw_87 hk_82 (z_ne hk_82 hc_85 (by simp))
      have hk_91 : w_86 r = some (.inl (G.2 1, 4, .inr (.inl u.2.2.2.2.1))) := up_ne hw_87 hk_83 (z_ne hk_83 hc_85 (by simp))
      have hk_92 : w_86 qa_8 = some (.inl (G.2 0, n, .inl fw_9)) := up_ne hw_87 hk_84 ((Ne.symm (z_neN hb0 hn_21)))
      have hF := hF.put hw_87 (Or.inl (by simp))
      have hc_93 : w_86 b = some (.inr (4, [.ref il, .ref qa_8, .int u.2.2.2.2.2.2.1, .int (u.2.2.2.2.2.2.2 + 1), .int u.2.1.toInt32, .int wt, .int u.2.2.2.1.toInt32])) := up_self hw_87
      exact z_vret cx.1 cx.2.1 cx.rt cx.lk hS hZ ⟨(by dsimp only; omega), (by dsimp only; omega)⟩ d_B_init_92 (⟨qa_8, fw_9, rfl, hn_21, hk_92, hc_14, (by rw [if_pos ((zi_n0 vt).mp c48), if_pos ((zi_n0 vt).mp c48)]; exact hc_93), hF⟩)
end
