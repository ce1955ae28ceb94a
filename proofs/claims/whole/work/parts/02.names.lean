/-! printed: classes, fields; methods -/
def R_A : String := "java/util/ArrayList"
def T_A : u_T := fun k => match k with
  | 0 => ("java/util/AbstractList", "modCount", "I", false)
  | 1 => ("java/util/ArrayList", "elementData", "[Ljava/lang/Object;", false)
  | _ => ("java/util/ArrayList", "size", "I", false)
def ty_A : Nat → FieldType := fun k => match k with
  | 0 => .int
  | 1 => .array (.object "java/lang/Object")
  | _ => .int
theorem nm_A : ∀ a, a < 3 → ∀ b, b < 3 → a ≠ b → (T_A a).2.1 ≠ (T_A b).2.1 := by decide +kernel
theorem ty_A_ok : ∀ k, k < 3 → parseFieldDescriptor (T_A k).2.2.1 = some (ty_A k) := by decide +kernel
theorem in_A : ∀ w ∈ u_ws R_A T_A 3, w ∈ TB := by
  intro w h
  obtain ⟨k, hk, rfl⟩ := List.mem_map.mp h
  have hk := List.mem_range.mp hk
  match k, hk with
  | 0, _ => exact TB_in (List.mem_of_getElem? (i := 80) (by decide +kernel)) (by decide +kernel)
  | 1, _ => exact TB_in (List.mem_of_getElem? (i := 76) (by decide +kernel)) (by decide +kernel)
  | 2, _ => exact TB_in (List.mem_of_getElem? (i := 78) (by decide +kernel)) (by decide +kernel)
  | k + 3, hk => exact absurd hk (by omega)
def R_I : String := "BoxDesk$Item"
def T_I : u_T := fun k => match k with
  | 0 => ("BoxDesk$Item", "kind", "I", true)
  | 1 => ("BoxDesk$Item", "width", "I", true)
  | 2 => ("BoxDesk$Item", "height", "I", true)
  | 3 => ("BoxDesk$Item", "depth", "I", true)
  | 4 => ("BoxDesk$Item", "running", "I", false)
  | 5 => ("BoxDesk$Item", "number", "I", false)
  | 6 => ("BoxDesk$Item", "stretch", "I", false)
  | 7 => ("BoxDesk$Item", "order", "I", false)
  | 8 => ("BoxDesk$Item", "shrink", "I", false)
  | 9 => ("BoxDesk$Item", "shift", "I", false)
  | 10 => ("BoxDesk$Item", "within", "I", false)
  | _ => ("BoxDesk$Item", "nesting", "I", false)
def ty_I : Nat → FieldType := fun k => match k with
  | 0 => .int
  | 1 => .int
  | 2 => .int
  | 3 => .int
  | 4 => .int
  | 5 => .int
  | 6 => .int
  | 7 => .int
  | 8 => .int
  | 9 => .int
  | 10 => .int
  | _ => .int
theorem nm_I : ∀ a, a < 12 → ∀ b, b < 12 → a ≠ b → (T_I a).2.1 ≠ (T_I b).2.1 := by decide +kernel
theorem ty_I_ok : ∀ k, k < 12 → parseFieldDescriptor (T_I k).2.2.1 = some (ty_I k) := by decide +kernel
theorem in_I : ∀ w ∈ u_ws R_I T_I 12, w ∈ TB := by
  intro w h
  obtain ⟨k, hk, rfl⟩ := List.mem_map.mp h
  have hk := List.mem_range.mp hk
  match k, hk with
  | 0, _ => exact TB_in (List.mem_of_getElem? (i := 141) (by decide +kernel)) (by decide +kernel)
  | 1, _ => exact TB_in (List.mem_of_getElem? (i := 143) (by decide +kernel)) (by decide +kernel)
  | 2, _ => exact TB_in (List.mem_of_getElem? (i := 145) (by decide +kernel)) (by decide +kernel)
  | 3, _ => exact TB_in (List.mem_of_getElem? (i := 147) (by decide +kernel)) (by decide +kernel)
  | 4, _ => exact TB_in (List.mem_of_getElem? (i := 149) (by decide +kernel)) (by decide +kernel)
  | 5, _ => exact TB_in (List.mem_of_getElem? (i := 151) (by decide +kernel)) (by decide +kernel)
  | 6, _ => exact TB_in (List.mem_of_getElem? (i := 153) (by decide +kernel)) (by decide +kernel)
  | 7, _ => exact TB_in (List.mem_of_getElem? (i := 155) (by decide +kernel)) (by decide +kernel)
  | 8, _ => exact TB_in (List.mem_of_getElem? (i := 157) (by decide +kernel)) (by decide +kernel)
  | 9, _ => exact TB_in (List.mem_of_getElem? (i := 159) (by decide +kernel)) (by decide +kernel)
  | 10, _ => exact TB_in (List.mem_of_getElem? (i := 161) (by decide +kernel)) (by decide +kernel)
  | 11, _ => exact TB_in (List.mem_of_getElem? (i := 163) (by decide +kernel)) (by decide +kernel)
  | k + 12, hk => exact absurd hk (by omega)
def R_L : String := "BoxDesk$ItemList"
def T_L : u_T := fun k => match k with
  | 0 => ("BoxDesk$ItemList", "vertical", "Z", true)
  | _ => ("BoxDesk$ItemList", "items", "Ljava/util/ArrayList;", true)
def ty_L : Nat → FieldType := fun k => match k with
  | 0 => .boolean
  | _ => .object "java/util/ArrayList"
theorem nm_L : ∀ a, a < 2 → ∀ b, b < 2 → a ≠ b → (T_L a).2.1 ≠ (T_L b).2.1 := by decide +kernel
theorem ty_L_ok : ∀ k, k < 2 → parseFieldDescriptor (T_L k).2.2.1 = some (ty_L k) := by decide +kernel
theorem in_L : ∀ w ∈ u_ws R_L T_L 2, w ∈ TB := by
  intro w h
  obtain ⟨k, hk, rfl⟩ := List.mem_map.mp h
  have hk := List.mem_range.mp hk
  match k, hk with
  | 0, _ => exact TB_in (List.mem_of_getElem? (i := 90) (by decide +kernel)) (by decide +kernel)
  | 1, _ => exact TB_in (List.mem_of_getElem? (i := 92) (by decide +kernel)) (by decide +kernel)
  | k + 2, hk => exact absurd hk (by omega)
def R_M : String := "BoxDesk$Measure"
def T_M : u_T := fun k => match k with
  | 0 => ("BoxDesk$Measure", "natural", "J", false)
  | 1 => ("BoxDesk$Measure", "greatest", "J", false)
  | 2 => ("BoxDesk$Measure", "height", "J", false)
  | 3 => ("BoxDesk$Measure", "depth", "J", false)
  | 4 => ("BoxDesk$Measure", "stretches", "[J", true)
  | 5 => ("BoxDesk$Measure", "shrinks", "J", false)
  | 6 => ("BoxDesk$Measure", "within", "I", false)
  | _ => ("BoxDesk$Measure", "nestedInside", "I", false)
def ty_M : Nat → FieldType := fun k => match k with
  | 0 => .long
  | 1 => .long
  | 2 => .long
  | 3 => .long
  | 4 => .array .long
  | 5 => .long
  | 6 => .int
  | _ => .int
theorem nm_M : ∀ a, a < 8 → ∀ b, b < 8 → a ≠ b → (T_M a).2.1 ≠ (T_M b).2.1 := by decide +kernel
theorem ty_M_ok : ∀ k, k < 8 → parseFieldDescriptor (T_M k).2.2.1 = some (ty_M k) := by decide +kernel
theorem in_M : ∀ w ∈ u_ws R_M T_M 8, w ∈ TB := by
  intro w h
  obtain ⟨k, hk, rfl⟩ := List.mem_map.mp h
  have hk := List.mem_range.mp hk
  match k, hk with
  | 0, _ => exact TB_in (List.mem_of_getElem? (i := 423) (by decide +kernel)) (by decide +kernel)
  | 1, _ => exact TB_in (List.mem_of_getElem? (i := 425) (by decide +kernel)) (by decide +kernel)
  | 2, _ => exact TB_in (List.mem_of_getElem? (i := 427) (by decide +kernel)) (by decide +kernel)
  | 3, _ => exact TB_in (List.mem_of_getElem? (i := 429) (by decide +kernel)) (by decide +kernel)
  | 4, _ => exact TB_in (List.mem_of_getElem? (i := 431) (by decide +kernel)) (by decide +kernel)
  | 5, _ => exact TB_in (List.mem_of_getElem? (i := 433) (by decide +kernel)) (by decide +kernel)
  | 6, _ => exact TB_in (List.mem_of_getElem? (i := 435) (by decide +kernel)) (by decide +kernel)
  | 7, _ => exact TB_in (List.mem_of_getElem? (i := 437) (by decide +kernel)) (by decide +kernel)
  | k + 8, hk => exact absurd hk (by omega)
def R_B : String := "BoxDesk$Box"
def T_B : u_T := fun k => match k with
  | 0 => ("BoxDesk$Box", "list", "LBoxDesk$ItemList;", true)
  | 1 => ("BoxDesk$Box", "setWidths", "[I", true)
  | 2 => ("BoxDesk$Box", "within", "I", true)
  | 3 => ("BoxDesk$Box", "nesting", "I", true)
  | 4 => ("BoxDesk$Box", "width", "I", false)
  | 5 => ("BoxDesk$Box", "height", "I", false)
  | _ => ("BoxDesk$Box", "depth", "I", false)
def ty_B : Nat → FieldType := fun k => match k with
  | 0 => .object "BoxDesk$ItemList"
  | 1 => .array .int
  | 2 => .int
  | 3 => .int
  | 4 => .int
  | 5 => .int
  | _ => .int
theorem nm_B : ∀ a, a < 7 → ∀ b, b < 7 → a ≠ b → (T_B a).2.1 ≠ (T_B b).2.1 := by decide +kernel
theorem ty_B_ok : ∀ k, k < 7 → parseFieldDescriptor (T_B k).2.2.1 = some (ty_B k) := by decide +kernel
theorem in_B : ∀ w ∈ u_ws R_B T_B 7, w ∈ TB := by
  intro w h
  obtain ⟨k, hk, rfl⟩ := List.mem_map.mp h
  have hk := List.mem_range.mp hk
  match k, hk with
  | 0, _ => exact TB_in (List.mem_of_getElem? (i := 544) (by decide +kernel)) (by decide +kernel)
  | 1, _ => exact TB_in (List.mem_of_getElem? (i := 546) (by decide +kernel)) (by decide +kernel)
  | 2, _ => exact TB_in (List.mem_of_getElem? (i := 548) (by decide +kernel)) (by decide +kernel)
  | 3, _ => exact TB_in (List.mem_of_getElem? (i := 550) (by decide +kernel)) (by decide +kernel)
  | 4, _ => exact TB_in (List.mem_of_getElem? (i := 552) (by decide +kernel)) (by decide +kernel)
  | 5, _ => exact TB_in (List.mem_of_getElem? (i := 554) (by decide +kernel)) (by decide +kernel)
  | 6, _ => exact TB_in (List.mem_of_getElem? (i := 556) (by decide +kernel)) (by decide +kernel)
  | k + 7, hk => exact absurd hk (by omega)
def R_D : String := "BoxDesk"
def T_D : u_T := fun k => match k with
  | 0 => ("BoxDesk", "lists", "[LBoxDesk$ItemList;", true)
  | 1 => ("BoxDesk", "openLists", "I", false)
  | 2 => ("BoxDesk", "registers", "[LBoxDesk$Box;", true)
  | _ => ("BoxDesk", "itemsInAll", "I", false)
def ty_D : Nat → FieldType := fun k => match k with
  | 0 => .array (.object "BoxDesk$ItemList")
  | 1 => .int
  | 2 => .array (.object "BoxDesk$Box")
  | _ => .int
theorem nm_D : ∀ a, a < 4 → ∀ b, b < 4 → a ≠ b → (T_D a).2.1 ≠ (T_D b).2.1 := by decide +kernel
theorem ty_D_ok : ∀ k, k < 4 → parseFieldDescriptor (T_D k).2.2.1 = some (ty_D k) := by decide +kernel
theorem in_D : ∀ w ∈ u_ws R_D T_D 4, w ∈ TB := by
  intro w h
  obtain ⟨k, hk, rfl⟩ := List.mem_map.mp h
  have hk := List.mem_range.mp hk
  match k, hk with
  | 0, _ => exact TB_in (List.mem_of_getElem? (i := 39) (by decide +kernel)) (by decide +kernel)
  | 1, _ => exact TB_in (List.mem_of_getElem? (i := 41) (by decide +kernel)) (by decide +kernel)
  | 2, _ => exact TB_in (List.mem_of_getElem? (i := 43) (by decide +kernel)) (by decide +kernel)
  | 3, _ => exact TB_in (List.mem_of_getElem? (i := 45) (by decide +kernel)) (by decide +kernel)
  | k + 4, hk => exact absurd hk (by omega)
def R_R : String := "BoxDeskModel"
def T_R : u_T := fun k => match k with
  | 0 => ("BoxDeskModel", "thrown", "I", false)
  | 1 => ("BoxDeskModel", "kind", "[I", true)
  | 2 => ("BoxDeskModel", "wide", "[I", true)
  | 3 => ("BoxDeskModel", "high", "[I", true)
  | 4 => ("BoxDeskModel", "deep", "[I", true)
  | 5 => ("BoxDeskModel", "shift", "[I", true)
  | 6 => ("BoxDeskModel", "order", "[I", true)
  | 7 => ("BoxDeskModel", "shrink", "[I", true)
  | 8 => ("BoxDeskModel", "more", "[J", true)
  | 9 => ("BoxDeskModel", "span", "[I", true)
  | 10 => ("BoxDeskModel", "lists", "I", false)
  | 11 => ("BoxDeskModel", "begin", "[I", true)
  | 12 => ("BoxDeskModel", "vertical", "[Z", true)
  | 13 => ("BoxDeskModel", "end", "I", false)
  | 14 => ("BoxDeskModel", "size", "[I", true)
  | 15 => ("BoxDeskModel", "natural", "J", false)
  | 16 => ("BoxDeskModel", "height", "J", false)
  | 17 => ("BoxDeskModel", "depth", "J", false)
  | 18 => ("BoxDeskModel", "width", "J", false)
  | 19 => ("BoxDeskModel", "stretches", "[J", true)
  | _ => ("BoxDeskModel", "shrinks", "J", false)
def ty_R : Nat → FieldType := fun k => match k with
  | 0 => .int
  | 1 => .array .int
  | 2 => .array .int
  | 3 => .array .int
  | 4 => .array .int
  | 5 => .array .int
  | 6 => .array .int
  | 7 => .array .int
  | 8 => .array .long
  | 9 => .array .int
  | 10 => .int
  | 11 => .array .int
  | 12 => .array .boolean
  | 13 => .int
  | 14 => .array .int
  | 15 => .long
  | 16 => .long
  | 17 => .long
  | 18 => .long
  | 19 => .array .long
  | _ => .long
theorem nm_R : ∀ a, a < 21 → ∀ b, b < 21 → a ≠ b → (T_R a).2.1 ≠ (T_R b).2.1 := by decide +kernel
theorem ty_R_ok : ∀ k, k < 21 → parseFieldDescriptor (T_R k).2.2.1 = some (ty_R k) := by decide +kernel
theorem in_R : ∀ w ∈ u_ws R_R T_R 21, w ∈ TB := by
  intro w h
  obtain ⟨k, hk, rfl⟩ := List.mem_map.mp h
  have hk := List.mem_range.mp hk
  match k, hk with
  | 0, _ => exact TB_in (List.mem_of_getElem? (i := 634) (by decide +kernel)) (by decide +kernel)
  | 1, _ => exact TB_in (List.mem_of_getElem? (i := 636) (by decide +kernel)) (by decide +kernel)
  | 2, _ => exact TB_in (List.mem_of_getElem? (i := 638) (by decide +kernel)) (by decide +kernel)
  | 3, _ => exact TB_in (List.mem_of_getElem? (i := 640) (by decide +kernel)) (by decide +kernel)
  | 4, _ => exact TB_in (List.mem_of_getElem? (i := 642) (by decide +kernel)) (by decide +kernel)
  | 5, _ => exact TB_in (List.mem_of_getElem? (i := 644) (by decide +kernel)) (by decide +kernel)
  | 6, _ => exact TB_in (List.mem_of_getElem? (i := 646) (by decide +kernel)) (by decide +kernel)
  | 7, _ => exact TB_in (List.mem_of_getElem? (i := 648) (by decide +kernel)) (by decide +kernel)
  | 8, _ => exact TB_in (List.mem_of_getElem? (i := 650) (by decide +kernel)) (by decide +kernel)
  | 9, _ => exact TB_in (List.mem_of_getElem? (i := 652) (by decide +kernel)) (by decide +kernel)
  | 10, _ => exact TB_in (List.mem_of_getElem? (i := 654) (by decide +kernel)) (by decide +kernel)
  | 11, _ => exact TB_in (List.mem_of_getElem? (i := 656) (by decide +kernel)) (by decide +kernel)
  | 12, _ => exact TB_in (List.mem_of_getElem? (i := 658) (by decide +kernel)) (by decide +kernel)
  | 13, _ => exact TB_in (List.mem_of_getElem? (i := 660) (by decide +kernel)) (by decide +kernel)
  | 14, _ => exact TB_in (List.mem_of_getElem? (i := 662) (by decide +kernel)) (by decide +kernel)
  | 15, _ => exact TB_in (List.mem_of_getElem? (i := 664) (by decide +kernel)) (by decide +kernel)
  | 16, _ => exact TB_in (List.mem_of_getElem? (i := 666) (by decide +kernel)) (by decide +kernel)
  | 17, _ => exact TB_in (List.mem_of_getElem? (i := 668) (by decide +kernel)) (by decide +kernel)
  | 18, _ => exact TB_in (List.mem_of_getElem? (i := 670) (by decide +kernel)) (by decide +kernel)
  | 19, _ => exact TB_in (List.mem_of_getElem? (i := 672) (by decide +kernel)) (by decide +kernel)
  | 20, _ => exact TB_in (List.mem_of_getElem? (i := 674) (by decide +kernel)) (by decide +kernel)
  | k + 21, hk => exact absurd hk (by omega)
def vwC : List vw_C := [(R_A, T_A, 3), (R_I, T_I, 12), (R_L, T_L, 2), (R_M, T_M, 8), (R_B, T_B, 7), (R_D, T_D, 4), (R_R, T_R, 21)]
