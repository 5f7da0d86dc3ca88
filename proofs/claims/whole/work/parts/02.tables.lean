/-! the words that go on from a call to what it calls: the good ones, those of nest mates, those of arrays of references -/
def mj_nest : Cond → Bool
  | .fieldLinkNest .. => true
  | .methodLinkNest .. => true
  | _ => false
def mj_over : Cond → Bool
  | .arrayOver _ => true
  | _ => false
def mj_kw (w : Cond) : Bool := goodWord w || (mj_nest w || mj_over w)
def mj_tb : List Cond := lw_tbl.filter mj_kw
def mj_gt : List Cond := mj_tb.filter goodWord
/-! the classes of the program: names, fields (as the tables lay them), types, first values -/
def mj_T0 : u_T := fun k => match k with
  | 0 => ("GalleryWatch$Choice", "view", "LGalleryWatch$View;", true)
  | 1 => ("GalleryWatch$Choice", "low", "[J", true)
  | 2 => ("GalleryWatch$Choice", "high", "[J", true)
  | 3 => ("GalleryWatch$Choice", "restLow", "[J", true)
  | 4 => ("GalleryWatch$Choice", "restHigh", "[J", true)
  | 5 => ("GalleryWatch$Choice", "openLow", "J", false)
  | 6 => ("GalleryWatch$Choice", "openHigh", "J", false)
  | 7 => ("GalleryWatch$Choice", "upToDate", "Z", false)
  | 8 => ("GalleryWatch$Choice", "size", "I", false)
  | 9 => ("GalleryWatch$Choice", "first", "I", false)
  | _ => ("GalleryWatch$Choice", "found", "I", false)
def mj_t0 : Nat → FieldType := fun k => match k with
  | 0 => .object "GalleryWatch$View"
  | 1 => .array .long
  | 2 => .array .long
  | 3 => .array .long
  | 4 => .array .long
  | 5 => .long
  | 6 => .long
  | 7 => .boolean
  | 8 => .int
  | 9 => .int
  | _ => .int
abbrev mj_d0 : List Value := [.null, .null, .null, .null, .null, .long 0, .long 0, .int 0, .int 0, .int 0, .int 0]
theorem mj_nm0 : ∀ a, a < 11 → ∀ b, b < 11 → a ≠ b → (mj_T0 a).2.1 ≠ (mj_T0 b).2.1 := by decide +kernel
theorem mj_ty0 : ∀ k, k < 11 → parseFieldDescriptor (mj_T0 k).2.2.1 = some (mj_t0 k) := by decide +kernel
theorem mj_ow0 : ∀ k, k < 11 → (mj_T0 k).1 = "GalleryWatch$Choice" := by decide +kernel
theorem mj_in0 : ∀ w ∈ u_ws "GalleryWatch$Choice" mj_T0 11, w ∈ mj_tb := by decide +kernel
def mj_T1 : u_T := fun k => match k with
  | 0 => ("GalleryWatch$Past", "rooms", "[LGalleryWatch$Room;", true)
  | 1 => ("GalleryWatch$Past", "kept", "I", false)
  | _ => ("GalleryWatch$Past", "next", "I", false)
def mj_t1 : Nat → FieldType := fun k => match k with
  | 0 => .array (.object "GalleryWatch$Room")
  | 1 => .int
  | _ => .int
abbrev mj_d1 : List Value := [.null, .int 0, .int 0]
theorem mj_nm1 : ∀ a, a < 3 → ∀ b, b < 3 → a ≠ b → (mj_T1 a).2.1 ≠ (mj_T1 b).2.1 := by decide +kernel
theorem mj_ty1 : ∀ k, k < 3 → parseFieldDescriptor (mj_T1 k).2.2.1 = some (mj_t1 k) := by decide +kernel
theorem mj_ow1 : ∀ k, k < 3 → (mj_T1 k).1 = "GalleryWatch$Past" := by decide +kernel
theorem mj_in1 : ∀ w ∈ u_ws "GalleryWatch$Past" mj_T1 3, w ∈ mj_tb := by decide +kernel
def mj_T2 : u_T := fun k => match k with
  | 0 => ("GalleryWatch$Post", "cell", "I", true)
  | 1 => ("GalleryWatch$Post", "kind", "I", true)
  | 2 => ("GalleryWatch$Post", "from", "I", true)
  | 3 => ("GalleryWatch$Post", "to", "I", true)
  | 4 => ("GalleryWatch$Post", "reach", "I", true)
  | _ => ("GalleryWatch$Post", "lit", "I", true)
def mj_t2 : Nat → FieldType := fun k => match k with
  | 0 => .int
  | 1 => .int
  | 2 => .int
  | 3 => .int
  | 4 => .int
  | _ => .int
abbrev mj_d2 : List Value := [.int 0, .int 0, .int 0, .int 0, .int 0, .int 0]
theorem mj_nm2 : ∀ a, a < 6 → ∀ b, b < 6 → a ≠ b → (mj_T2 a).2.1 ≠ (mj_T2 b).2.1 := by decide +kernel
theorem mj_ty2 : ∀ k, k < 6 → parseFieldDescriptor (mj_T2 k).2.2.1 = some (mj_t2 k) := by decide +kernel
theorem mj_ow2 : ∀ k, k < 6 → (mj_T2 k).1 = "GalleryWatch$Post" := by decide +kernel
theorem mj_in2 : ∀ w ∈ u_ws "GalleryWatch$Post" mj_T2 6, w ∈ mj_tb := by decide +kernel
def mj_T3 : u_T := fun k => match k with
  | 0 => ("GalleryWatch$Proof", "view", "LGalleryWatch$View;", true)
  | 1 => ("GalleryWatch$Proof", "cells", "[I", true)
  | 2 => ("GalleryWatch$Proof", "aboves", "[I", true)
  | 3 => ("GalleryWatch$Proof", "comers", "[I", true)
  | 4 => ("GalleryWatch$Proof", "ways", "[I", true)
  | 5 => ("GalleryWatch$Proof", "belows", "[I", true)
  | 6 => ("GalleryWatch$Proof", "rows", "I", false)
  | _ => ("GalleryWatch$Proof", "size", "I", false)
def mj_t3 : Nat → FieldType := fun k => match k with
  | 0 => .object "GalleryWatch$View"
  | 1 => .array .int
  | 2 => .array .int
  | 3 => .array .int
  | 4 => .array .int
  | 5 => .array .int
  | 6 => .int
  | _ => .int
abbrev mj_d3 : List Value := [.null, .null, .null, .null, .null, .null, .int 0, .int 0]
theorem mj_nm3 : ∀ a, a < 8 → ∀ b, b < 8 → a ≠ b → (mj_T3 a).2.1 ≠ (mj_T3 b).2.1 := by decide +kernel
theorem mj_ty3 : ∀ k, k < 8 → parseFieldDescriptor (mj_T3 k).2.2.1 = some (mj_t3 k) := by decide +kernel
theorem mj_ow3 : ∀ k, k < 8 → (mj_T3 k).1 = "GalleryWatch$Proof" := by decide +kernel
theorem mj_in3 : ∀ w ∈ u_ws "GalleryWatch$Proof" mj_T3 8, w ∈ mj_tb := by decide +kernel
def mj_T4 : u_T := fun k => match k with
  | 0 => ("GalleryWatch$Room", "width", "I", false)
  | 1 => ("GalleryWatch$Room", "height", "I", false)
  | 2 => ("GalleryWatch$Room", "postCount", "I", false)
  | 3 => ("GalleryWatch$Room", "walls", "[I", true)
  | _ => ("GalleryWatch$Room", "posts", "[LGalleryWatch$Post;", true)
def mj_t4 : Nat → FieldType := fun k => match k with
  | 0 => .int
  | 1 => .int
  | 2 => .int
  | 3 => .array .int
  | _ => .array (.object "GalleryWatch$Post")
abbrev mj_d4 : List Value := [.int 0, .int 0, .int 0, .null, .null]
theorem mj_nm4 : ∀ a, a < 5 → ∀ b, b < 5 → a ≠ b → (mj_T4 a).2.1 ≠ (mj_T4 b).2.1 := by decide +kernel
theorem mj_ty4 : ∀ k, k < 5 → parseFieldDescriptor (mj_T4 k).2.2.1 = some (mj_t4 k) := by decide +kernel
theorem mj_ow4 : ∀ k, k < 5 → (mj_T4 k).1 = "GalleryWatch$Room" := by decide +kernel
theorem mj_in4 : ∀ w ∈ u_ws "GalleryWatch$Room" mj_T4 5, w ∈ mj_tb := by decide +kernel
def mj_T5 : u_T := fun k => match k with
  | 0 => ("GalleryWatch$Shade", "view", "LGalleryWatch$View;", true)
  | 1 => ("GalleryWatch$Shade", "steps", "[I", true)
  | _ => ("GalleryWatch$Shade", "queue", "[I", true)
def mj_t5 : Nat → FieldType := fun k => match k with
  | 0 => .object "GalleryWatch$View"
  | 1 => .array .int
  | _ => .array .int
abbrev mj_d5 : List Value := [.null, .null, .null]
theorem mj_nm5 : ∀ a, a < 3 → ∀ b, b < 3 → a ≠ b → (mj_T5 a).2.1 ≠ (mj_T5 b).2.1 := by decide +kernel
theorem mj_ty5 : ∀ k, k < 3 → parseFieldDescriptor (mj_T5 k).2.2.1 = some (mj_t5 k) := by decide +kernel
theorem mj_ow5 : ∀ k, k < 3 → (mj_T5 k).1 = "GalleryWatch$Shade" := by decide +kernel
theorem mj_in5 : ∀ w ∈ u_ws "GalleryWatch$Shade" mj_T5 3, w ∈ mj_tb := by decide +kernel
def mj_T6 : u_T := fun k => match k with
  | 0 => ("GalleryWatch$View", "room", "LGalleryWatch$Room;", true)
  | 1 => ("GalleryWatch$View", "watchers", "[I", true)
  | _ => ("GalleryWatch$View", "upToDate", "Z", false)
def mj_t6 : Nat → FieldType := fun k => match k with
  | 0 => .object "GalleryWatch$Room"
  | 1 => .array .int
  | _ => .boolean
abbrev mj_d6 : List Value := [.null, .null, .int 0]
theorem mj_nm6 : ∀ a, a < 3 → ∀ b, b < 3 → a ≠ b → (mj_T6 a).2.1 ≠ (mj_T6 b).2.1 := by decide +kernel
theorem mj_ty6 : ∀ k, k < 3 → parseFieldDescriptor (mj_T6 k).2.2.1 = some (mj_t6 k) := by decide +kernel
theorem mj_ow6 : ∀ k, k < 3 → (mj_T6 k).1 = "GalleryWatch$View" := by decide +kernel
theorem mj_in6 : ∀ w ∈ u_ws "GalleryWatch$View" mj_T6 3, w ∈ mj_tb := by decide +kernel
def mj_T7 : u_T := fun k => match k with
  | 0 => ("GalleryWatch", "now", "LGalleryWatch$Room;", true)
  | 1 => ("GalleryWatch", "draft", "LGalleryWatch$Room;", true)
  | 2 => ("GalleryWatch", "past", "LGalleryWatch$Past;", true)
  | 3 => ("GalleryWatch", "view", "LGalleryWatch$View;", true)
  | 4 => ("GalleryWatch", "choice", "LGalleryWatch$Choice;", true)
  | 5 => ("GalleryWatch", "shade", "LGalleryWatch$Shade;", true)
  | _ => ("GalleryWatch", "proof", "LGalleryWatch$Proof;", true)
def mj_t7 : Nat → FieldType := fun k => match k with
  | 0 => .object "GalleryWatch$Room"
  | 1 => .object "GalleryWatch$Room"
  | 2 => .object "GalleryWatch$Past"
  | 3 => .object "GalleryWatch$View"
  | 4 => .object "GalleryWatch$Choice"
  | 5 => .object "GalleryWatch$Shade"
  | _ => .object "GalleryWatch$Proof"
abbrev mj_d7 : List Value := [.null, .null, .null, .null, .null, .null, .null]
theorem mj_nm7 : ∀ a, a < 7 → ∀ b, b < 7 → a ≠ b → (mj_T7 a).2.1 ≠ (mj_T7 b).2.1 := by decide +kernel
theorem mj_ty7 : ∀ k, k < 7 → parseFieldDescriptor (mj_T7 k).2.2.1 = some (mj_t7 k) := by decide +kernel
theorem mj_ow7 : ∀ k, k < 7 → (mj_T7 k).1 = "GalleryWatch" := by decide +kernel
theorem mj_in7 : ∀ w ∈ u_ws "GalleryWatch" mj_T7 7, w ∈ mj_tb := by decide +kernel
def mj_T8 : u_T := fun k => match k with
  | 0 => ("GalleryWatchModel", "width", "I", false)
  | 1 => ("GalleryWatchModel", "height", "I", false)
  | 2 => ("GalleryWatchModel", "s", "[I", true)
  | 3 => ("GalleryWatchModel", "before", "[I", true)
  | 4 => ("GalleryWatchModel", "kept", "I", false)
  | 5 => ("GalleryWatchModel", "watched", "[I", true)
  | 6 => ("GalleryWatchModel", "rows", "I", false)
  | 7 => ("GalleryWatchModel", "treeFor", "I", false)
  | 8 => ("GalleryWatchModel", "rowCell", "[I", true)
  | 9 => ("GalleryWatchModel", "rowAbove", "[I", true)
  | 10 => ("GalleryWatchModel", "rowPost", "[I", true)
  | 11 => ("GalleryWatchModel", "rowWay", "[I", true)
  | 12 => ("GalleryWatchModel", "isFull", "Z", false)
  | 13 => ("GalleryWatchModel", "held", "[I", true)
  | 14 => ("GalleryWatchModel", "fresh", "[I", true)
  | 15 => ("GalleryWatchModel", "fewestNow", "I", false)
  | 16 => ("GalleryWatchModel", "firstNow", "I", false)
  | 17 => ("GalleryWatchModel", "manyNow", "I", false)
  | 18 => ("GalleryWatchModel", "far", "[I", true)
  | 19 => ("GalleryWatchModel", "isCounted", "[Z", true)
  | 20 => ("GalleryWatchModel", "made", "I", false)
  | 21 => ("GalleryWatchModel", "madeCell", "[I", true)
  | 22 => ("GalleryWatchModel", "madeAbove", "[I", true)
  | 23 => ("GalleryWatchModel", "madePost", "[I", true)
  | _ => ("GalleryWatchModel", "madeWay", "[I", true)
def mj_t8 : Nat → FieldType := fun k => match k with
  | 0 => .int
  | 1 => .int
  | 2 => .array .int
  | 3 => .array .int
  | 4 => .int
  | 5 => .array .int
  | 6 => .int
  | 7 => .int
  | 8 => .array .int
  | 9 => .array .int
  | 10 => .array .int
  | 11 => .array .int
  | 12 => .boolean
  | 13 => .array .int
  | 14 => .array .int
  | 15 => .int
  | 16 => .int
  | 17 => .int
  | 18 => .array .int
  | 19 => .array .boolean
  | 20 => .int
  | 21 => .array .int
  | 22 => .array .int
  | 23 => .array .int
  | _ => .array .int
abbrev mj_d8 : List Value := [.int 0, .int 0, .null, .null, .int 0, .null, .int 0, .int 0, .null, .null, .null, .null, .int 0, .null, .null, .int 0, .int 0, .int 0, .null, .null, .int 0, .null, .null, .null, .null]
theorem mj_nm8 : ∀ a, a < 25 → ∀ b, b < 25 → a ≠ b → (mj_T8 a).2.1 ≠ (mj_T8 b).2.1 := by decide +kernel
theorem mj_ty8 : ∀ k, k < 25 → parseFieldDescriptor (mj_T8 k).2.2.1 = some (mj_t8 k) := by decide +kernel
theorem mj_ow8 : ∀ k, k < 25 → (mj_T8 k).1 = "GalleryWatchModel" := by decide +kernel
theorem mj_in8 : ∀ w ∈ u_ws "GalleryWatchModel" mj_T8 25, w ∈ mj_tb := by decide +kernel
def mj_cl : List vw_C := [("GalleryWatch$Choice", mj_T0, 11), ("GalleryWatch$Past", mj_T1, 3), ("GalleryWatch$Post", mj_T2, 6), ("GalleryWatch$Proof", mj_T3, 8), ("GalleryWatch$Room", mj_T4, 5), ("GalleryWatch$Shade", mj_T5, 3), ("GalleryWatch$View", mj_T6, 3), ("GalleryWatch", mj_T7, 7), ("GalleryWatchModel", mj_T8, 25)]
def mj_tn : List (Nat → FieldType) := [mj_t0, mj_t1, mj_t2, mj_t3, mj_t4, mj_t5, mj_t6, mj_t7, mj_t8]
def mj_df : List (List Value) := [mj_d0, mj_d1, mj_d2, mj_d3, mj_d4, mj_d5, mj_d6, mj_d7, mj_d8]
/-! the methods: name, code, locals, what comes back -/
abbrev mj_Y : Type := MethodName × ByteArray × Nat × Option FieldType
def y_GW_init : mj_Y := (⟨"GalleryWatch", "<init>", "()V"⟩, prog_1_method_1_code, 3, none)
def y_Room_init : mj_Y := (⟨"GalleryWatch$Room", "<init>", "()V"⟩, prog_6_method_1_code, 1, none)
def y_View_init : mj_Y := (⟨"GalleryWatch$View", "<init>", "(LGalleryWatch$Room;)V"⟩, prog_8_method_1_code, 2, none)
def y_Past_init : mj_Y := (⟨"GalleryWatch$Past", "<init>", "()V"⟩, prog_3_method_1_code, 2, none)
def y_Choice_init : mj_Y := (⟨"GalleryWatch$Choice", "<init>", "(LGalleryWatch$View;)V"⟩, prog_2_method_1_code, 2, none)
def y_Shade_init : mj_Y := (⟨"GalleryWatch$Shade", "<init>", "(LGalleryWatch$View;)V"⟩, prog_7_method_1_code, 2, none)
def y_Proof_init : mj_Y := (⟨"GalleryWatch$Proof", "<init>", "(LGalleryWatch$View;)V"⟩, prog_5_method_1_code, 2, none)
def y_GW_room : mj_Y := (⟨"GalleryWatch", "room", "(II)I"⟩, prog_1_method_2_code, 3, (some .int))
def y_GW_isWithin : mj_Y := (⟨"GalleryWatch", "isWithin", "(III)Z"⟩, prog_1_method_35_code, 3, (some .boolean))
def y_Room_begin : mj_Y := (⟨"GalleryWatch$Room", "begin", "(II)V"⟩, prog_6_method_2_code, 4, none)
def y_Arrays_fill : mj_Y := (⟨"java/util/Arrays", "fill", "([II)V"⟩, prog_14_method_103_code, 4, none)
def y_Past_forget : mj_Y := (⟨"GalleryWatch$Past", "forget", "()V"⟩, prog_3_method_3_code, 1, none)
def y_GW_outdate : mj_Y := (⟨"GalleryWatch", "outdate", "()V"⟩, prog_1_method_34_code, 1, none)
def y_View_outdate : mj_Y := (⟨"GalleryWatch$View", "outdate", "()V"⟩, prog_8_method_2_code, 1, none)
def y_Choice_outdate : mj_Y := (⟨"GalleryWatch$Choice", "outdate", "()V"⟩, prog_2_method_2_code, 1, none)
def y_Proof_end : mj_Y := (⟨"GalleryWatch$Proof", "end", "()V"⟩, prog_5_method_2_code, 1, none)
def y_Room_cells : mj_Y := (⟨"GalleryWatch$Room", "cells", "()I"⟩, prog_6_method_4_code, 1, (some .int))
def y_GW_wall : mj_Y := (⟨"GalleryWatch", "wall", "(III)I"⟩, prog_1_method_3_code, 5, (some .int))
def y_Room_hasCell : mj_Y := (⟨"GalleryWatch$Room", "hasCell", "(I)Z"⟩, prog_6_method_5_code, 2, (some .boolean))
def y_Room_copyFrom : mj_Y := (⟨"GalleryWatch$Room", "copyFrom", "(LGalleryWatch$Room;)V"⟩, prog_6_method_3_code, 2, none)
def y_Room_build : mj_Y := (⟨"GalleryWatch$Room", "build", "(III)I"⟩, prog_6_method_11_code, 12, (some .int))
def y_Room_rowOf : mj_Y := (⟨"GalleryWatch$Room", "rowOf", "(I)I"⟩, prog_6_method_8_code, 2, (some .int))
def y_Math_min : mj_Y := (⟨"java/lang/Math", "min", "(II)I"⟩, prog_12_method_69_code, 2, (some .int))
def y_Math_max : mj_Y := (⟨"java/lang/Math", "max", "(II)I"⟩, prog_12_method_65_code, 2, (some .int))
def y_Room_columnOf : mj_Y := (⟨"GalleryWatch$Room", "columnOf", "(I)I"⟩, prog_6_method_9_code, 2, (some .int))
def y_Room_holdsItsPosts : mj_Y := (⟨"GalleryWatch$Room", "holdsItsPosts", "()Z"⟩, prog_6_method_22_code, 3, (some .boolean))
def y_Room_postAt : mj_Y := (⟨"GalleryWatch$Room", "postAt", "(I)LGalleryWatch$Post;"⟩, prog_6_method_16_code, 2, (some (.object "GalleryWatch$Post")))
def y_Room_canStand : mj_Y := (⟨"GalleryWatch$Room", "canStand", "(II)Z"⟩, prog_6_method_20_code, 3, (some .boolean))
def y_Room_isOpen : mj_Y := (⟨"GalleryWatch$Room", "isOpen", "(I)Z"⟩, prog_6_method_6_code, 2, (some .boolean))
def y_GW_isKindOf : mj_Y := (⟨"GalleryWatch", "isKindOf", "(II)Z"⟩, prog_1_method_38_code, 2, (some .boolean))
def y_GW_isKind : mj_Y := (⟨"GalleryWatch", "isKind", "(I)Z"⟩, prog_1_method_37_code, 1, (some .boolean))
def y_Room_isAtWall : mj_Y := (⟨"GalleryWatch$Room", "isAtWall", "(I)Z"⟩, prog_6_method_21_code, 3, (some .boolean))
def y_Room_beside : mj_Y := (⟨"GalleryWatch$Room", "beside", "(II)I"⟩, prog_6_method_10_code, 5, (some .int))
def y_GW_beginChange : mj_Y := (⟨"GalleryWatch", "beginChange", "()V"⟩, prog_1_method_33_code, 1, none)
def y_Past_keep : mj_Y := (⟨"GalleryWatch$Past", "keep", "(LGalleryWatch$Room;)V"⟩, prog_3_method_4_code, 3, none)
def y_Past_nextSlot : mj_Y := (⟨"GalleryWatch$Past", "nextSlot", "()LGalleryWatch$Room;"⟩, prog_3_method_6_code, 1, (some (.object "GalleryWatch$Room")))
def y_GW_isWall : mj_Y := (⟨"GalleryWatch", "isWall", "(I)I"⟩, prog_1_method_4_code, 2, (some .int))
def y_GW_bit : mj_Y := (⟨"GalleryWatch", "bit", "(Z)I"⟩, prog_1_method_36_code, 1, (some .int))
def y_GW_sight : mj_Y := (⟨"GalleryWatch", "sight", "(II)I"⟩, prog_1_method_5_code, 3, (some .int))
def y_Room_inSight : mj_Y := (⟨"GalleryWatch$Room", "inSight", "(II)Z"⟩, prog_6_method_12_code, 13, (some .boolean))
def y_Math_abs : mj_Y := (⟨"java/lang/Math", "abs", "(I)I"⟩, prog_12_method_59_code, 1, (some .int))
def y_GW_post : mj_Y := (⟨"GalleryWatch", "post", "(II)I"⟩, prog_1_method_6_code, 4, (some .int))
def y_Room_posts : mj_Y := (⟨"GalleryWatch$Room", "posts", "()I"⟩, prog_6_method_13_code, 1, (some .int))
def y_GW_newPost : mj_Y := (⟨"GalleryWatch", "newPost", "(II)LGalleryWatch$Post;"⟩, prog_1_method_39_code, 5, (some (.object "GalleryWatch$Post")))
def y_GW_told : mj_Y := (⟨"GalleryWatch", "told", "(II)I"⟩, prog_1_method_40_code, 2, (some .int))
def y_Post_init : mj_Y := (⟨"GalleryWatch$Post", "<init>", "(IIIIII)V"⟩, prog_4_method_1_code, 7, none)
def y_Room_addPost : mj_Y := (⟨"GalleryWatch$Room", "addPost", "(LGalleryWatch$Post;)V"⟩, prog_6_method_18_code, 2, none)
def y_GW_aim : mj_Y := (⟨"GalleryWatch", "aim", "(III)I"⟩, prog_1_method_7_code, 5, (some .int))
def y_GW_areDirections : mj_Y := (⟨"GalleryWatch", "areDirections", "(II)Z"⟩, prog_1_method_44_code, 7, (some .boolean))
def y_GW_isDirection : mj_Y := (⟨"GalleryWatch", "isDirection", "(I)Z"⟩, prog_1_method_43_code, 3, (some .boolean))
def y_GW_acrossOf : mj_Y := (⟨"GalleryWatch", "acrossOf", "(I)I"⟩, prog_1_method_41_code, 1, (some .int))
def y_GW_downOf : mj_Y := (⟨"GalleryWatch", "downOf", "(I)I"⟩, prog_1_method_42_code, 1, (some .int))
def y_Room_setPost : mj_Y := (⟨"GalleryWatch$Room", "setPost", "(ILGalleryWatch$Post;)V"⟩, prog_6_method_17_code, 3, none)
def y_GW_reach : mj_Y := (⟨"GalleryWatch", "reach", "(II)I"⟩, prog_1_method_8_code, 4, (some .int))
def y_GW_move : mj_Y := (⟨"GalleryWatch", "move", "(II)I"⟩, prog_1_method_9_code, 4, (some .int))
def y_GW_lamp : mj_Y := (⟨"GalleryWatch", "lamp", "(II)I"⟩, prog_1_method_10_code, 4, (some .int))
def y_GW_drop : mj_Y := (⟨"GalleryWatch", "drop", "()I"⟩, prog_1_method_11_code, 1, (some .int))
def y_Room_removeLatestPost : mj_Y := (⟨"GalleryWatch$Room", "removeLatestPost", "()V"⟩, prog_6_method_19_code, 1, none)
def y_GW_about : mj_Y := (⟨"GalleryWatch", "about", "(II)I"⟩, prog_1_method_12_code, 4, (some .int))
def y_GW_isOf : mj_Y := (⟨"GalleryWatch", "isOf", "(II)I"⟩, prog_1_method_13_code, 4, (some .int))
def y_GW_undo : mj_Y := (⟨"GalleryWatch", "undo", "()I"⟩, prog_1_method_14_code, 1, (some .int))
def y_Past_kept : mj_Y := (⟨"GalleryWatch$Past", "kept", "()I"⟩, prog_3_method_2_code, 1, (some .int))
def y_Past_takeBack : mj_Y := (⟨"GalleryWatch$Past", "takeBack", "(LGalleryWatch$Room;)V"⟩, prog_3_method_5_code, 3, none)
def y_GW_sees : mj_Y := (⟨"GalleryWatch", "sees", "(II)I"⟩, prog_1_method_15_code, 3, (some .int))
def y_View_refresh : mj_Y := (⟨"GalleryWatch$View", "refresh", "()V"⟩, prog_8_method_3_code, 2, none)
def y_View_lookedUp : mj_Y := (⟨"GalleryWatch$View", "lookedUp", "(I)I"⟩, prog_8_method_4_code, 5, (some .int))
def y_View_isSeenFrom : mj_Y := (⟨"GalleryWatch$View", "isSeenFrom", "(LGalleryWatch$Post;I)Z"⟩, prog_8_method_5_code, 5, (some .boolean))
def y_Post_lets : mj_Y := (⟨"GalleryWatch$Post", "lets", "(II)Z"⟩, prog_4_method_2_code, 3, (some .boolean))
def y_Post_isBetween : mj_Y := (⟨"GalleryWatch$Post", "isBetween", "(II)Z"⟩, prog_4_method_3_code, 9, (some .boolean))
def y_View_watchersOf : mj_Y := (⟨"GalleryWatch$View", "watchersOf", "(I)I"⟩, prog_8_method_6_code, 2, (some .int))
def y_GW_region : mj_Y := (⟨"GalleryWatch", "region", "(I)I"⟩, prog_1_method_16_code, 2, (some .int))
def y_View_cellsSeenBy : mj_Y := (⟨"GalleryWatch$View", "cellsSeenBy", "(I)I"⟩, prog_8_method_9_code, 4, (some .int))
def y_GW_watchers : mj_Y := (⟨"GalleryWatch", "watchers", "(I)I"⟩, prog_1_method_17_code, 2, (some .int))
def y_GW_blind : mj_Y := (⟨"GalleryWatch", "blind", "(I)I"⟩, prog_1_method_18_code, 2, (some .int))
def y_Room_hasPosts : mj_Y := (⟨"GalleryWatch$Room", "hasPosts", "(I)Z"⟩, prog_6_method_15_code, 2, (some .boolean))
def y_Room_allPosts : mj_Y := (⟨"GalleryWatch$Room", "allPosts", "()I"⟩, prog_6_method_14_code, 1, (some .int))
def y_View_leastUnwatched : mj_Y := (⟨"GalleryWatch$View", "leastUnwatched", "(I)I"⟩, prog_8_method_10_code, 3, (some .int))
def y_GW_seen : mj_Y := (⟨"GalleryWatch", "seen", "(I)I"⟩, prog_1_method_19_code, 2, (some .int))
def y_GW_spare : mj_Y := (⟨"GalleryWatch", "spare", "(I)I"⟩, prog_1_method_20_code, 2, (some .int))
def y_View_sparedOf : mj_Y := (⟨"GalleryWatch$View", "sparedOf", "(I)I"⟩, prog_8_method_11_code, 5, (some .int))
def y_GW_fewest : mj_Y := (⟨"GalleryWatch", "fewest", "()I"⟩, prog_1_method_21_code, 1, (some .int))
def y_Choice_solve : mj_Y := (⟨"GalleryWatch$Choice", "solve", "()V"⟩, prog_2_method_3_code, 2, none)
def y_Choice_gatherOpen : mj_Y := (⟨"GalleryWatch$Choice", "gatherOpen", "()V"⟩, prog_2_method_4_code, 2, none)
def y_Choice_lowBit : mj_Y := (⟨"GalleryWatch$Choice", "lowBit", "(I)J"⟩, prog_2_method_6_code, 1, (some .long))
def y_Choice_highBit : mj_Y := (⟨"GalleryWatch$Choice", "highBit", "(I)J"⟩, prog_2_method_7_code, 1, (some .long))
def y_Choice_gatherSeen : mj_Y := (⟨"GalleryWatch$Choice", "gatherSeen", "()V"⟩, prog_2_method_5_code, 7, none)
def y_Choice_extend : mj_Y := (⟨"GalleryWatch$Choice", "extend", "(IIIJJ)V"⟩, prog_2_method_9_code, 9, none)
def y_Choice_isAll : mj_Y := (⟨"GalleryWatch$Choice", "isAll", "(JJ)Z"⟩, prog_2_method_8_code, 5, (some .boolean))
def y_GW_choose : mj_Y := (⟨"GalleryWatch", "choose", "()I"⟩, prog_1_method_22_code, 1, (some .int))
def y_GW_many : mj_Y := (⟨"GalleryWatch", "many", "()I"⟩, prog_1_method_23_code, 1, (some .int))
def y_GW_only : mj_Y := (⟨"GalleryWatch", "only", "()I"⟩, prog_1_method_24_code, 2, (some .int))
def y_GW_sneak : mj_Y := (⟨"GalleryWatch", "sneak", "(II)I"⟩, prog_1_method_25_code, 3, (some .int))
def y_Shade_stepsBetween : mj_Y := (⟨"GalleryWatch$Shade", "stepsBetween", "(II)I"⟩, prog_7_method_2_code, 4, (some .int))
def y_Shade_spread : mj_Y := (⟨"GalleryWatch$Shade", "spread", "(I)V"⟩, prog_7_method_6_code, 6, none)
def y_Shade_enter : mj_Y := (⟨"GalleryWatch$Shade", "enter", "(III)I"⟩, prog_7_method_7_code, 4, (some .int))
def y_View_isUnseen : mj_Y := (⟨"GalleryWatch$View", "isUnseen", "(I)Z"⟩, prog_8_method_7_code, 2, (some .boolean))
def y_Shade_stepsOf : mj_Y := (⟨"GalleryWatch$Shade", "stepsOf", "(I)I"⟩, prog_7_method_5_code, 2, (some .int))
def y_GW_way : mj_Y := (⟨"GalleryWatch", "way", "(III)I"⟩, prog_1_method_26_code, 4, (some .int))
def y_Shade_cellOnWay : mj_Y := (⟨"GalleryWatch$Shade", "cellOnWay", "(III)I"⟩, prog_7_method_3_code, 7, (some .int))
def y_Shade_leastNearer : mj_Y := (⟨"GalleryWatch$Shade", "leastNearer", "(I)I"⟩, prog_7_method_8_code, 4, (some .int))
def y_GW_hides : mj_Y := (⟨"GalleryWatch", "hides", "()I"⟩, prog_1_method_27_code, 1, (some .int))
def y_Shade_parts : mj_Y := (⟨"GalleryWatch$Shade", "parts", "()I"⟩, prog_7_method_4_code, 3, (some .int))
def y_GW_tree : mj_Y := (⟨"GalleryWatch", "tree", "(I)I"⟩, prog_1_method_28_code, 2, (some .int))
def y_Proof_make : mj_Y := (⟨"GalleryWatch$Proof", "make", "(I)I"⟩, prog_5_method_10_code, 2, (some .int))
def y_Proof_rowsNeeded : mj_Y := (⟨"GalleryWatch$Proof", "rowsNeeded", "(II)I"⟩, prog_5_method_11_code, 6, (some .int))
def y_Proof_grow : mj_Y := (⟨"GalleryWatch$Proof", "grow", "(IIII)V"⟩, prog_5_method_12_code, 9, none)
def y_GW_row : mj_Y := (⟨"GalleryWatch", "row", "(II)I"⟩, prog_1_method_29_code, 3, (some .int))
def y_Proof_rows : mj_Y := (⟨"GalleryWatch$Proof", "rows", "()I"⟩, prog_5_method_3_code, 1, (some .int))
def y_Proof_hasRow : mj_Y := (⟨"GalleryWatch$Proof", "hasRow", "(I)Z"⟩, prog_5_method_4_code, 2, (some .boolean))
def y_Proof_cellOf : mj_Y := (⟨"GalleryWatch$Proof", "cellOf", "(I)I"⟩, prog_5_method_5_code, 2, (some .int))
def y_Proof_aboveOf : mj_Y := (⟨"GalleryWatch$Proof", "aboveOf", "(I)I"⟩, prog_5_method_6_code, 2, (some .int))
def y_Proof_comerOf : mj_Y := (⟨"GalleryWatch$Proof", "comerOf", "(I)I"⟩, prog_5_method_7_code, 2, (some .int))
def y_Proof_rowsBelow : mj_Y := (⟨"GalleryWatch$Proof", "rowsBelow", "(I)I"⟩, prog_5_method_8_code, 2, (some .int))
def y_Integer_bitCount : mj_Y := (⟨"java/lang/Integer", "bitCount", "(I)I"⟩, prog_11_method_49_code, 1, (some .int))
def y_GW_forge : mj_Y := (⟨"GalleryWatch", "forge", "(II)I"⟩, prog_1_method_30_code, 3, (some .int))
def y_Proof_replaceCell : mj_Y := (⟨"GalleryWatch$Proof", "replaceCell", "(II)I"⟩, prog_5_method_9_code, 4, (some .int))
def y_GW_check : mj_Y := (⟨"GalleryWatch", "check", "()I"⟩, prog_1_method_31_code, 2, (some .int))
def y_Proof_firstWrongRow : mj_Y := (⟨"GalleryWatch$Proof", "firstWrongRow", "()I"⟩, prog_5_method_13_code, 2, (some .int))
def y_Proof_isRight : mj_Y := (⟨"GalleryWatch$Proof", "isRight", "(I)Z"⟩, prog_5_method_14_code, 4, (some .boolean))
def y_GW_count : mj_Y := (⟨"GalleryWatch", "count", "(I)I"⟩, prog_1_method_32_code, 2, (some .int))
def y_Room_openCells : mj_Y := (⟨"GalleryWatch$Room", "openCells", "()I"⟩, prog_6_method_7_code, 3, (some .int))
def y_View_unseenCells : mj_Y := (⟨"GalleryWatch$View", "unseenCells", "()I"⟩, prog_8_method_8_code, 3, (some .int))
def y_Model_init : mj_Y := (⟨"GalleryWatchModel", "<init>", "()V"⟩, prog_10_method_1_code, 1, none)
def y_Model_undo : mj_Y := (⟨"GalleryWatchModel", "undo", "()I"⟩, prog_10_method_9_code, 2, (some .int))
def y_Model_room : mj_Y := (⟨"GalleryWatchModel", "room", "(II)I"⟩, prog_10_method_10_code, 4, (some .int))
def y_Model_isIn : mj_Y := (⟨"GalleryWatchModel", "isIn", "(III)Z"⟩, prog_10_method_2_code, 3, (some .boolean))
def y_Model_cells : mj_Y := (⟨"GalleryWatchModel", "cells", "()I"⟩, prog_10_method_3_code, 1, (some .int))
def y_Model_wall : mj_Y := (⟨"GalleryWatchModel", "wall", "(III)I"⟩, prog_10_method_17_code, 6, (some .int))
def y_Model_isCell : mj_Y := (⟨"GalleryWatchModel", "isCell", "(I)Z"⟩, prog_10_method_4_code, 2, (some .boolean))
def y_Model_keep0 : mj_Y := (⟨"GalleryWatchModel", "keep0", "()V"⟩, prog_10_method_18_code, 2, none)
def y_Model_isBetween : mj_Y := (⟨"GalleryWatchModel", "isBetween", "(III)Z"⟩, prog_10_method_16_code, 7, (some .boolean))
def y_Model_allStand : mj_Y := (⟨"GalleryWatchModel", "allStand", "()Z"⟩, prog_10_method_15_code, 3, (some .boolean))
def y_Model_posts : mj_Y := (⟨"GalleryWatchModel", "posts", "()I"⟩, prog_10_method_6_code, 1, (some .int))
def y_Model_mayStand : mj_Y := (⟨"GalleryWatchModel", "mayStand", "(II)Z"⟩, prog_10_method_14_code, 3, (some .boolean))
def y_Model_isOpen : mj_Y := (⟨"GalleryWatchModel", "isOpen", "(I)Z"⟩, prog_10_method_5_code, 2, (some .boolean))
def y_Model_isDoor : mj_Y := (⟨"GalleryWatchModel", "isDoor", "(I)Z"⟩, prog_10_method_12_code, 1, (some .boolean))
def y_Model_hasWall : mj_Y := (⟨"GalleryWatchModel", "hasWall", "(I)Z"⟩, prog_10_method_11_code, 5, (some .boolean))
def y_Model_swapBack : mj_Y := (⟨"GalleryWatchModel", "swapBack", "()V"⟩, prog_10_method_19_code, 2, none)
def y_Model_keep : mj_Y := (⟨"GalleryWatchModel", "keep", "()V"⟩, prog_10_method_8_code, 2, none)
def y_Model_isWall : mj_Y := (⟨"GalleryWatchModel", "isWall", "(I)I"⟩, prog_10_method_20_code, 2, (some .int))
def y_Model_sight : mj_Y := (⟨"GalleryWatchModel", "sight", "(II)I"⟩, prog_10_method_24_code, 3, (some .int))
def y_Model_inSight : mj_Y := (⟨"GalleryWatchModel", "inSight", "(II)Z"⟩, prog_10_method_23_code, 5, (some .boolean))
def y_Model_cuts : mj_Y := (⟨"GalleryWatchModel", "cuts", "(III)Z"⟩, prog_10_method_22_code, 18, (some .boolean))
def y_Model_side : mj_Y := (⟨"GalleryWatchModel", "side", "(IIIIII)I"⟩, prog_10_method_21_code, 7, (some .int))
def y_Model_post : mj_Y := (⟨"GalleryWatchModel", "post", "(II)I"⟩, prog_10_method_25_code, 4, (some .int))
def y_Model_aim : mj_Y := (⟨"GalleryWatchModel", "aim", "(III)I"⟩, prog_10_method_27_code, 9, (some .int))
def y_Model_isPost : mj_Y := (⟨"GalleryWatchModel", "isPost", "(I)Z"⟩, prog_10_method_7_code, 2, (some .boolean))
def y_Model_isDirection : mj_Y := (⟨"GalleryWatchModel", "isDirection", "(I)Z"⟩, prog_10_method_26_code, 1, (some .boolean))
def y_Model_isWedge : mj_Y := (⟨"GalleryWatchModel", "isWedge", "(I)Z"⟩, prog_10_method_13_code, 1, (some .boolean))
def y_Model_reach : mj_Y := (⟨"GalleryWatchModel", "reach", "(II)I"⟩, prog_10_method_28_code, 4, (some .int))
def y_Model_move : mj_Y := (⟨"GalleryWatchModel", "move", "(II)I"⟩, prog_10_method_29_code, 4, (some .int))
def y_Model_lamp : mj_Y := (⟨"GalleryWatchModel", "lamp", "(II)I"⟩, prog_10_method_30_code, 4, (some .int))
def y_Model_drop : mj_Y := (⟨"GalleryWatchModel", "drop", "()I"⟩, prog_10_method_31_code, 1, (some .int))
def y_Model_about : mj_Y := (⟨"GalleryWatchModel", "about", "(II)I"⟩, prog_10_method_33_code, 4, (some .int))
def y_Model_coded : mj_Y := (⟨"GalleryWatchModel", "coded", "(II)I"⟩, prog_10_method_32_code, 2, (some .int))
def y_Model_isOf : mj_Y := (⟨"GalleryWatchModel", "isOf", "(II)I"⟩, prog_10_method_34_code, 5, (some .int))
def y_Model_sees : mj_Y := (⟨"GalleryWatchModel", "sees", "(II)I"⟩, prog_10_method_38_code, 3, (some .int))
def y_Model_look : mj_Y := (⟨"GalleryWatchModel", "look", "()V"⟩, prog_10_method_37_code, 3, none)
def y_Model_letsSee : mj_Y := (⟨"GalleryWatchModel", "letsSee", "(II)Z"⟩, prog_10_method_36_code, 6, (some .boolean))
def y_Model_looks : mj_Y := (⟨"GalleryWatchModel", "looks", "(III)Z"⟩, prog_10_method_35_code, 10, (some .boolean))
def y_Model_region : mj_Y := (⟨"GalleryWatchModel", "region", "(I)I"⟩, prog_10_method_39_code, 2, (some .int))
def y_Model_seen : mj_Y := (⟨"GalleryWatchModel", "seen", "(I)I"⟩, prog_10_method_44_code, 4, (some .int))
def y_Model_isSet : mj_Y := (⟨"GalleryWatchModel", "isSet", "(I)Z"⟩, prog_10_method_41_code, 2, (some .boolean))
def y_Model_watchers : mj_Y := (⟨"GalleryWatchModel", "watchers", "(I)I"⟩, prog_10_method_40_code, 2, (some .int))
def y_Model_blind : mj_Y := (⟨"GalleryWatchModel", "blind", "(I)I"⟩, prog_10_method_43_code, 3, (some .int))
def y_Model_unseenBy : mj_Y := (⟨"GalleryWatchModel", "unseenBy", "(I)I"⟩, prog_10_method_42_code, 3, (some .int))
def y_Model_spare : mj_Y := (⟨"GalleryWatchModel", "spare", "(I)I"⟩, prog_10_method_45_code, 5, (some .int))
def y_Model_fewest : mj_Y := (⟨"GalleryWatchModel", "fewest", "()I"⟩, prog_10_method_49_code, 1, (some .int))
def y_Model_seek : mj_Y := (⟨"GalleryWatchModel", "seek", "()V"⟩, prog_10_method_48_code, 4, none)
def y_Model_manyOf : mj_Y := (⟨"GalleryWatchModel", "manyOf", "(I)I"⟩, prog_10_method_46_code, 3, (some .int))
def y_Model_isFirst : mj_Y := (⟨"GalleryWatchModel", "isFirst", "(II)Z"⟩, prog_10_method_47_code, 3, (some .boolean))
def y_Model_choose : mj_Y := (⟨"GalleryWatchModel", "choose", "()I"⟩, prog_10_method_50_code, 1, (some .int))
def y_Model_many : mj_Y := (⟨"GalleryWatchModel", "many", "()I"⟩, prog_10_method_51_code, 1, (some .int))
def y_Model_only : mj_Y := (⟨"GalleryWatchModel", "only", "()I"⟩, prog_10_method_52_code, 4, (some .int))
def y_Model_sneak : mj_Y := (⟨"GalleryWatchModel", "sneak", "(II)I"⟩, prog_10_method_56_code, 3, (some .int))
def y_Model_walk : mj_Y := (⟨"GalleryWatchModel", "walk", "(I)V"⟩, prog_10_method_55_code, 6, none)
def y_Model_isUnseen : mj_Y := (⟨"GalleryWatchModel", "isUnseen", "(I)Z"⟩, prog_10_method_53_code, 2, (some .boolean))
def y_Model_areNeighbours : mj_Y := (⟨"GalleryWatchModel", "areNeighbours", "(II)Z"⟩, prog_10_method_54_code, 5, (some .boolean))
def y_Model_way : mj_Y := (⟨"GalleryWatchModel", "way", "(III)I"⟩, prog_10_method_57_code, 7, (some .int))
def y_Model_hides : mj_Y := (⟨"GalleryWatchModel", "hides", "()I"⟩, prog_10_method_58_code, 4, (some .int))
def y_Model_tree : mj_Y := (⟨"GalleryWatchModel", "tree", "(I)I"⟩, prog_10_method_60_code, 3, (some .int))
def y_Model_make : mj_Y := (⟨"GalleryWatchModel", "make", "(IIII)V"⟩, prog_10_method_59_code, 7, none)
def y_Model_row : mj_Y := (⟨"GalleryWatchModel", "row", "(II)I"⟩, prog_10_method_62_code, 3, (some .int))
def y_Model_below : mj_Y := (⟨"GalleryWatchModel", "below", "(I)I"⟩, prog_10_method_61_code, 4, (some .int))
def y_Model_forge : mj_Y := (⟨"GalleryWatchModel", "forge", "(II)I"⟩, prog_10_method_63_code, 4, (some .int))
def y_Model_check : mj_Y := (⟨"GalleryWatchModel", "check", "()I"⟩, prog_10_method_66_code, 2, (some .int))
def y_Model_isRight : mj_Y := (⟨"GalleryWatchModel", "isRight", "(I)Z"⟩, prog_10_method_65_code, 3, (some .boolean))
def y_Model_postsBelow : mj_Y := (⟨"GalleryWatchModel", "postsBelow", "(I)I"⟩, prog_10_method_64_code, 4, (some .int))
def y_Model_count : mj_Y := (⟨"GalleryWatchModel", "count", "(I)I"⟩, prog_10_method_67_code, 4, (some .int))
def y_Law_law : mj_Y := (x, code, 4, ret)
