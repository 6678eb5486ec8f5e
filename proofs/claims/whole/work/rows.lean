section
-- ===== PART A: goes FIRST, ahead of the names: the tables' words, and 'selects' of the private methods out of them =====
/-- a private method of a class that the tables say can be made, by its rows of tables_1 -/
def lw_okq (q : MethodName × Nat) : Prop := (q.1.cls ≠ "java/lang/invoke/MethodHandle" ∧ q.1.cls ≠ "java/lang/invoke/VarHandle") ∧ Cond.instantiable q.1.cls q.2 ∈ tables_1 ∧ Cond.privateMethod q.1 ∈ tables_1 ∧ Cond.instanceMethod q.1 ∈ tables_1
theorem lw_p0 : lw_okq (⟨"ExactScene$Triangle", "weightAt", "(III)J"⟩, 10) := ⟨⟨by decide +kernel, by decide +kernel⟩, List.mem_of_getElem? (i := 86) (by decide +kernel), List.mem_of_getElem? (i := 186) (by decide +kernel), List.mem_of_getElem? (i := 187) (by decide +kernel)⟩
theorem lw_p1 : lw_okq (⟨"ExactScene$Triangle", "ownsItsEdge", "(I)Z"⟩, 10) := ⟨⟨by decide +kernel, by decide +kernel⟩, List.mem_of_getElem? (i := 86) (by decide +kernel), List.mem_of_getElem? (i := 190) (by decide +kernel), List.mem_of_getElem? (i := 191) (by decide +kernel)⟩
theorem lw_p2 : lw_okq (⟨"ExactScene$Picture", "offerPixel", "(IIJJ)V"⟩, 4) := ⟨⟨by decide +kernel, by decide +kernel⟩, List.mem_of_getElem? (i := 59) (by decide +kernel), List.mem_of_getElem? (i := 201) (by decide +kernel), List.mem_of_getElem? (i := 202) (by decide +kernel)⟩
theorem lw_p3 : lw_okq (⟨"ExactScene", "paintOwnedPixels", "()I"⟩, 9) := ⟨⟨by decide +kernel, by decide +kernel⟩, List.mem_of_getElem? (i := 17) (by decide +kernel), List.mem_of_getElem? (i := 213) (by decide +kernel), List.mem_of_getElem? (i := 214) (by decide +kernel)⟩
theorem lw_p4 : lw_okq (⟨"ExactScene", "textureColour", "(LExactScene$Triangle;II)I"⟩, 9) := ⟨⟨by decide +kernel, by decide +kernel⟩, List.mem_of_getElem? (i := 17) (by decide +kernel), List.mem_of_getElem? (i := 219) (by decide +kernel), List.mem_of_getElem? (i := 220) (by decide +kernel)⟩
theorem lw_p5 : lw_okq (⟨"ExactScene$Triangle", "weigh", "([III)J"⟩, 10) := ⟨⟨by decide +kernel, by decide +kernel⟩, List.mem_of_getElem? (i := 86) (by decide +kernel), List.mem_of_getElem? (i := 227) (by decide +kernel), List.mem_of_getElem? (i := 228) (by decide +kernel)⟩
theorem lw_p6 : lw_okq (⟨"java/lang/Throwable", "fillInStackTrace", "(I)Ljava/lang/Throwable;"⟩, 6) := ⟨⟨by decide +kernel, by decide +kernel⟩, List.mem_of_getElem? (i := 309) (by decide +kernel), List.mem_of_getElem? (i := 307) (by decide +kernel), List.mem_of_getElem? (i := 308) (by decide +kernel)⟩
theorem lw_p7 : lw_okq (⟨"ExactScene$Matrices", "setDiagonalFactor", "(III)V"⟩, 5) := ⟨⟨by decide +kernel, by decide +kernel⟩, List.mem_of_getElem? (i := 25) (by decide +kernel), List.mem_of_getElem? (i := 361) (by decide +kernel), List.mem_of_getElem? (i := 362) (by decide +kernel)⟩
theorem lw_p8 : lw_okq (⟨"ExactScene$Matrices", "multiply", "([II[I)Z"⟩, 5) := ⟨⟨by decide +kernel, by decide +kernel⟩, List.mem_of_getElem? (i := 25) (by decide +kernel), List.mem_of_getElem? (i := 365) (by decide +kernel), List.mem_of_getElem? (i := 366) (by decide +kernel)⟩
theorem lw_p9 : lw_okq (⟨"ExactScene", "addCorner", "(IIIII)V"⟩, 9) := ⟨⟨by decide +kernel, by decide +kernel⟩, List.mem_of_getElem? (i := 17) (by decide +kernel), List.mem_of_getElem? (i := 515) (by decide +kernel), List.mem_of_getElem? (i := 516) (by decide +kernel)⟩
theorem lw_p10 : lw_okq (⟨"ExactScene$Triangle", "setEdge", "(III)V"⟩, 10) := ⟨⟨by decide +kernel, by decide +kernel⟩, List.mem_of_getElem? (i := 86) (by decide +kernel), List.mem_of_getElem? (i := 536) (by decide +kernel), List.mem_of_getElem? (i := 537) (by decide +kernel)⟩
theorem lw_p11 : lw_okq (⟨"ExactScene$Triangle", "placeQ", "(I)J"⟩, 10) := ⟨⟨by decide +kernel, by decide +kernel⟩, List.mem_of_getElem? (i := 86) (by decide +kernel), List.mem_of_getElem? (i := 540) (by decide +kernel), List.mem_of_getElem? (i := 541) (by decide +kernel)⟩
theorem lw_p12 : lw_okq (⟨"ExactScene$Triangle", "placeW", "(I)J"⟩, 10) := ⟨⟨by decide +kernel, by decide +kernel⟩, List.mem_of_getElem? (i := 86) (by decide +kernel), List.mem_of_getElem? (i := 544) (by decide +kernel), List.mem_of_getElem? (i := 545) (by decide +kernel)⟩
theorem lw_p13 : lw_okq (⟨"ExactScene$Triangle", "placeP", "(I)J"⟩, 10) := ⟨⟨by decide +kernel, by decide +kernel⟩, List.mem_of_getElem? (i := 86) (by decide +kernel), List.mem_of_getElem? (i := 548) (by decide +kernel), List.mem_of_getElem? (i := 549) (by decide +kernel)⟩
theorem lw_p14 : lw_okq (⟨"ExactScene$Triangle", "turnToNegatives", "()V"⟩, 10) := ⟨⟨by decide +kernel, by decide +kernel⟩, List.mem_of_getElem? (i := 86) (by decide +kernel), List.mem_of_getElem? (i := 552) (by decide +kernel), List.mem_of_getElem? (i := 553) (by decide +kernel)⟩
theorem lw_p15 : lw_okq (⟨"ExactSceneModel", "line", "(IIII)I"⟩, 23) := ⟨⟨by decide +kernel, by decide +kernel⟩, List.mem_of_getElem? (i := 627) (by decide +kernel), List.mem_of_getElem? (i := 751) (by decide +kernel), List.mem_of_getElem? (i := 752) (by decide +kernel)⟩
def lw_privs_1 : List (MethodName × Nat) := [(⟨"ExactScene$Triangle", "weightAt", "(III)J"⟩, 10), (⟨"ExactScene$Triangle", "ownsItsEdge", "(I)Z"⟩, 10), (⟨"ExactScene$Picture", "offerPixel", "(IIJJ)V"⟩, 4), (⟨"ExactScene", "paintOwnedPixels", "()I"⟩, 9), (⟨"ExactScene", "textureColour", "(LExactScene$Triangle;II)I"⟩, 9), (⟨"ExactScene$Triangle", "weigh", "([III)J"⟩, 10), (⟨"java/lang/Throwable", "fillInStackTrace", "(I)Ljava/lang/Throwable;"⟩, 6), (⟨"ExactScene$Matrices", "setDiagonalFactor", "(III)V"⟩, 5), (⟨"ExactScene$Matrices", "multiply", "([II[I)Z"⟩, 5), (⟨"ExactScene", "addCorner", "(IIIII)V"⟩, 9), (⟨"ExactScene$Triangle", "setEdge", "(III)V"⟩, 10), (⟨"ExactScene$Triangle", "placeQ", "(I)J"⟩, 10), (⟨"ExactScene$Triangle", "placeW", "(I)J"⟩, 10), (⟨"ExactScene$Triangle", "placeP", "(I)J"⟩, 10), (⟨"ExactScene$Triangle", "turnToNegatives", "()V"⟩, 10), (⟨"ExactSceneModel", "line", "(IIII)I"⟩, 23)]
theorem lw_r1 : ∀ q ∈ lw_privs_1, lw_okq q := List.forall_mem_cons.mpr ⟨lw_p0, List.forall_mem_cons.mpr ⟨lw_p1, List.forall_mem_cons.mpr ⟨lw_p2, List.forall_mem_cons.mpr ⟨lw_p3, List.forall_mem_cons.mpr ⟨lw_p4, List.forall_mem_cons.mpr ⟨lw_p5, List.forall_mem_cons.mpr ⟨lw_p6, List.forall_mem_cons.mpr ⟨lw_p7, List.forall_mem_cons.mpr ⟨lw_p8, List.forall_mem_cons.mpr ⟨lw_p9, List.forall_mem_cons.mpr ⟨lw_p10, List.forall_mem_cons.mpr ⟨lw_p11, List.forall_mem_cons.mpr ⟨lw_p12, List.forall_mem_cons.mpr ⟨lw_p13, List.forall_mem_cons.mpr ⟨lw_p14, List.forall_mem_cons.mpr ⟨lw_p15, fun _ h => absurd h List.not_mem_nil⟩⟩⟩⟩⟩⟩⟩⟩⟩⟩⟩⟩⟩⟩⟩⟩
theorem lw_p16 : lw_okq (⟨"ExactSceneModel", "prepare", "(I)V"⟩, 23) := ⟨⟨by decide +kernel, by decide +kernel⟩, List.mem_of_getElem? (i := 627) (by decide +kernel), List.mem_of_getElem? (i := 771) (by decide +kernel), List.mem_of_getElem? (i := 772) (by decide +kernel)⟩
theorem lw_p17 : lw_okq (⟨"ExactSceneModel", "placeOf", "(III)J"⟩, 23) := ⟨⟨by decide +kernel, by decide +kernel⟩, List.mem_of_getElem? (i := 627) (by decide +kernel), List.mem_of_getElem? (i := 775) (by decide +kernel), List.mem_of_getElem? (i := 776) (by decide +kernel)⟩
theorem lw_p18 : lw_okq (⟨"ExactSceneModel", "covers", "(IIIJ)Z"⟩, 23) := ⟨⟨by decide +kernel, by decide +kernel⟩, List.mem_of_getElem? (i := 627) (by decide +kernel), List.mem_of_getElem? (i := 780) (by decide +kernel), List.mem_of_getElem? (i := 781) (by decide +kernel)⟩
theorem lw_p19 : lw_okq (⟨"ExactSceneModel", "texelOf", "(I)I"⟩, 23) := ⟨⟨by decide +kernel, by decide +kernel⟩, List.mem_of_getElem? (i := 627) (by decide +kernel), List.mem_of_getElem? (i := 790) (by decide +kernel), List.mem_of_getElem? (i := 791) (by decide +kernel)⟩
def lw_privs_2 : List (MethodName × Nat) := [(⟨"ExactSceneModel", "prepare", "(I)V"⟩, 23), (⟨"ExactSceneModel", "placeOf", "(III)J"⟩, 23), (⟨"ExactSceneModel", "covers", "(IIIJ)Z"⟩, 23), (⟨"ExactSceneModel", "texelOf", "(I)I"⟩, 23)]
theorem lw_r2 : ∀ q ∈ lw_privs_2, lw_okq q := List.forall_mem_cons.mpr ⟨lw_p16, List.forall_mem_cons.mpr ⟨lw_p17, List.forall_mem_cons.mpr ⟨lw_p18, List.forall_mem_cons.mpr ⟨lw_p19, fun _ h => absurd h List.not_mem_nil⟩⟩⟩⟩
def lw_privs : List (MethodName × Nat) := lw_privs_1 ++ (lw_privs_2)
def lw_tbl : List Cond := k2_sels lw_privs ++ tables_1
theorem lw_privs_ok : ∀ q ∈ lw_privs, lw_okq q := by
  show ∀ q ∈ lw_privs_1 ++ (lw_privs_2), lw_okq q
  exact List.forall_mem_append.mpr ⟨lw_r1, lw_r2⟩
end
section
/-! names: classes, fields in the order of our slots, methods -/
def R_S : String := "ExactScene"
def F_S : u_T := fun k => match k with
  | 0 => ("ExactScene", "matrices", "LExactScene$Matrices;", true)
  | 1 => ("ExactScene", "textures", "LExactScene$Textures;", true)
  | 2 => ("ExactScene", "picture", "LExactScene$Picture;", true)
  | 3 => ("ExactScene", "triangles", "[LExactScene$Triangle;", true)
  | 4 => ("ExactScene", "triangleCount", "I", false)
  | 5 => ("ExactScene", "cornersTold", "I", false)
  | 6 => ("ExactScene", "textureInUse", "I", false)
  | 7 => ("ExactScene", "modeInUse", "I", false)
  | _ => ("ExactScene", "sidesInUse", "I", false)
def ty_S : Nat → FieldType := fun k => match k with
  | 0 => .object "ExactScene$Matrices"
  | 1 => .object "ExactScene$Textures"
  | 2 => .object "ExactScene$Picture"
  | 3 => .array (.object "ExactScene$Triangle")
  | 4 => .int
  | 5 => .int
  | 6 => .int
  | 7 => .int
  | _ => .int
def R_M : String := "ExactScene$Matrices"
def F_M : u_T := fun k => match k with
  | 0 => ("ExactScene$Matrices", "current", "[I", true)
  | 1 => ("ExactScene$Matrices", "pile", "[I", true)
  | 2 => ("ExactScene$Matrices", "factor", "[I", true)
  | 3 => ("ExactScene$Matrices", "product", "[I", true)
  | _ => ("ExactScene$Matrices", "saved", "I", false)
def ty_M : Nat → FieldType := fun k => match k with
  | 0 => .array .int
  | 1 => .array .int
  | 2 => .array .int
  | 3 => .array .int
  | _ => .int
def R_X : String := "ExactScene$Textures"
def F_X : u_T := fun k => match k with
  | _ => ("ExactScene$Textures", "texels", "[I", true)
def ty_X : Nat → FieldType := fun k => match k with
  | _ => .array .int
def R_T : String := "ExactScene$Triangle"
def F_T : u_T := fun k => match k with
  | 0 => ("ExactScene$Triangle", "numbers", "[J", true)
  | 1 => ("ExactScene$Triangle", "u", "[I", true)
  | 2 => ("ExactScene$Triangle", "v", "[I", true)
  | 3 => ("ExactScene$Triangle", "across", "[J", true)
  | 4 => ("ExactScene$Triangle", "down", "[J", true)
  | 5 => ("ExactScene$Triangle", "fixed", "[J", true)
  | 6 => ("ExactScene$Triangle", "size", "J", false)
  | 7 => ("ExactScene$Triangle", "texture", "I", false)
  | 8 => ("ExactScene$Triangle", "mode", "I", false)
  | _ => ("ExactScene$Triangle", "sides", "I", false)
def ty_T : Nat → FieldType := fun k => match k with
  | 0 => .array .long
  | 1 => .array .int
  | 2 => .array .int
  | 3 => .array .long
  | 4 => .array .long
  | 5 => .array .long
  | 6 => .long
  | 7 => .int
  | 8 => .int
  | _ => .int
def R_P : String := "ExactScene$Picture"
def F_P : u_T := fun k => match k with
  | 0 => ("ExactScene$Picture", "colours", "[I", true)
  | 1 => ("ExactScene$Picture", "owners", "[I", true)
  | 2 => ("ExactScene$Picture", "depthOvers", "[J", true)
  | _ => ("ExactScene$Picture", "depthUnders", "[J", true)
def ty_P : Nat → FieldType := fun k => match k with
  | 0 => .array .int
  | 1 => .array .int
  | 2 => .array .long
  | _ => .array .long
def R_R : String := "ExactSceneModel"
def F_R : u_T := fun k => match k with
  | 0 => ("ExactSceneModel", "code", "I", false)
  | 1 => ("ExactSceneModel", "now", "[I", true)
  | 2 => ("ExactSceneModel", "made", "[I", true)
  | 3 => ("ExactSceneModel", "pile", "[I", true)
  | 4 => ("ExactSceneModel", "piled", "I", false)
  | 5 => ("ExactSceneModel", "texture", "I", false)
  | 6 => ("ExactSceneModel", "mode", "I", false)
  | 7 => ("ExactSceneModel", "sides", "I", false)
  | 8 => ("ExactSceneModel", "texels", "[I", true)
  | 9 => ("ExactSceneModel", "told", "I", false)
  | 10 => ("ExactSceneModel", "places", "[I", true)
  | 11 => ("ExactSceneModel", "textureOf", "[I", true)
  | 12 => ("ExactSceneModel", "modeOf", "[I", true)
  | 13 => ("ExactSceneModel", "sidesOf", "[I", true)
  | 14 => ("ExactSceneModel", "det", "J", false)
  | 15 => ("ExactSceneModel", "edgeA", "[J", true)
  | 16 => ("ExactSceneModel", "edgeB", "[J", true)
  | 17 => ("ExactSceneModel", "edgeC", "[J", true)
  | 18 => ("ExactSceneModel", "values", "[J", true)
  | 19 => ("ExactSceneModel", "owners", "[I", true)
  | 20 => ("ExactSceneModel", "colours", "[I", true)
  | 21 => ("ExactSceneModel", "tops", "[J", true)
  | _ => ("ExactSceneModel", "bottoms", "[J", true)
def ty_R : Nat → FieldType := fun k => match k with
  | 0 => .int
  | 1 => .array .int
  | 2 => .array .int
  | 3 => .array .int
  | 4 => .int
  | 5 => .int
  | 6 => .int
  | 7 => .int
  | 8 => .array .int
  | 9 => .int
  | 10 => .array .int
  | 11 => .array .int
  | 12 => .array .int
  | 13 => .array .int
  | 14 => .long
  | 15 => .array .long
  | 16 => .array .long
  | 17 => .array .long
  | 18 => .array .long
  | 19 => .array .int
  | 20 => .array .int
  | 21 => .array .long
  | _ => .array .long
abbrev classes : List vw_C := [(R_S, F_S, 9), (R_M, F_M, 5), (R_X, F_X, 1), (R_T, F_T, 10), (R_P, F_P, 4), (R_R, F_R, 23)]
theorem nm_S : ∀ a, a < 9 → ∀ b, b < 9 → a ≠ b → (F_S a).2.1 ≠ (F_S b).2.1 := by decide +kernel
theorem ty_S_ok : ∀ k, k < 9 → parseFieldDescriptor (F_S k).2.2.1 = some (ty_S k) := by decide +kernel
theorem nm_M : ∀ a, a < 5 → ∀ b, b < 5 → a ≠ b → (F_M a).2.1 ≠ (F_M b).2.1 := by decide +kernel
theorem ty_M_ok : ∀ k, k < 5 → parseFieldDescriptor (F_M k).2.2.1 = some (ty_M k) := by decide +kernel
theorem nm_X : ∀ a, a < 1 → ∀ b, b < 1 → a ≠ b → (F_X a).2.1 ≠ (F_X b).2.1 := by decide +kernel
theorem ty_X_ok : ∀ k, k < 1 → parseFieldDescriptor (F_X k).2.2.1 = some (ty_X k) := by decide +kernel
theorem nm_T : ∀ a, a < 10 → ∀ b, b < 10 → a ≠ b → (F_T a).2.1 ≠ (F_T b).2.1 := by decide +kernel
theorem ty_T_ok : ∀ k, k < 10 → parseFieldDescriptor (F_T k).2.2.1 = some (ty_T k) := by decide +kernel
theorem nm_P : ∀ a, a < 4 → ∀ b, b < 4 → a ≠ b → (F_P a).2.1 ≠ (F_P b).2.1 := by decide +kernel
theorem ty_P_ok : ∀ k, k < 4 → parseFieldDescriptor (F_P k).2.2.1 = some (ty_P k) := by decide +kernel
theorem nm_R : ∀ a, a < 23 → ∀ b, b < 23 → a ≠ b → (F_R a).2.1 ≠ (F_R b).2.1 := by decide +kernel
theorem ty_R_ok : ∀ k, k < 23 → parseFieldDescriptor (F_R k).2.2.1 = some (ty_R k) := by decide +kernel
abbrev b_J_floorDiv : ByteArray := prog_13_method_49_code
abbrev y_J_floorDiv : MethodName := ⟨"java/lang/Math", "floorDiv", "(JJ)J"⟩
abbrev b_J_floorMod : ByteArray := prog_13_method_52_code
abbrev y_J_floorMod : MethodName := ⟨"java/lang/Math", "floorMod", "(JJ)J"⟩
abbrev b_J_max : ByteArray := prog_13_method_66_code
abbrev y_J_max : MethodName := ⟨"java/lang/Math", "max", "(JJ)J"⟩
abbrev b_J_min : ByteArray := prog_13_method_70_code
abbrev y_J_min : MethodName := ⟨"java/lang/Math", "min", "(JJ)J"⟩
abbrev b_S_init : ByteArray := prog_1_method_1_code
abbrev y_S_init : MethodName := ⟨"ExactScene", "<init>", "()V"⟩
abbrev b_S_row : ByteArray := prog_1_method_2_code
abbrev y_S_row : MethodName := ⟨"ExactScene", "row", "(IIIII)V"⟩
abbrev b_S_move : ByteArray := prog_1_method_3_code
abbrev y_S_move : MethodName := ⟨"ExactScene", "move", "(III)V"⟩
abbrev b_S_stretch : ByteArray := prog_1_method_4_code
abbrev y_S_stretch : MethodName := ⟨"ExactScene", "stretch", "(III)V"⟩
abbrev b_S_turn : ByteArray := prog_1_method_5_code
abbrev y_S_turn : MethodName := ⟨"ExactScene", "turn", "(I)V"⟩
abbrev b_S_join : ByteArray := prog_1_method_6_code
abbrev y_S_join : MethodName := ⟨"ExactScene", "join", "()V"⟩
abbrev b_S_push : ByteArray := prog_1_method_7_code
abbrev y_S_push : MethodName := ⟨"ExactScene", "push", "()V"⟩
abbrev b_S_pop : ByteArray := prog_1_method_8_code
abbrev y_S_pop : MethodName := ⟨"ExactScene", "pop", "()V"⟩
abbrev b_S_entry : ByteArray := prog_1_method_9_code
abbrev y_S_entry : MethodName := ⟨"ExactScene", "entry", "(II)I"⟩
abbrev b_S_vertex : ByteArray := prog_1_method_10_code
abbrev y_S_vertex : MethodName := ⟨"ExactScene", "vertex", "(IIIII)I"⟩
abbrev b_S_use : ByteArray := prog_1_method_11_code
abbrev y_S_use : MethodName := ⟨"ExactScene", "use", "(III)Z"⟩
abbrev b_S_texel : ByteArray := prog_1_method_12_code
abbrev y_S_texel : MethodName := ⟨"ExactScene", "texel", "(IIII)I"⟩
abbrev b_S_clear : ByteArray := prog_1_method_13_code
abbrev y_S_clear : MethodName := ⟨"ExactScene", "clear", "()I"⟩
abbrev b_S_draw : ByteArray := prog_1_method_14_code
abbrev y_S_draw : MethodName := ⟨"ExactScene", "draw", "(I)I"⟩
abbrev b_S_colour : ByteArray := prog_1_method_15_code
abbrev y_S_colour : MethodName := ⟨"ExactScene", "colour", "(II)I"⟩
abbrev b_S_owner : ByteArray := prog_1_method_16_code
abbrev y_S_owner : MethodName := ⟨"ExactScene", "owner", "(II)I"⟩
abbrev b_S_compare : ByteArray := prog_1_method_17_code
abbrev y_S_compare : MethodName := ⟨"ExactScene", "compare", "(IIII)I"⟩
abbrev b_S_depth : ByteArray := prog_1_method_18_code
abbrev y_S_depth : MethodName := ⟨"ExactScene", "depth", "(II)J"⟩
abbrev b_S_triangle : ByteArray := prog_1_method_19_code
abbrev y_S_triangle : MethodName := ⟨"ExactScene", "triangle", "(II)J"⟩
abbrev b_S_addCorner : ByteArray := prog_1_method_20_code
abbrev y_S_addCorner : MethodName := ⟨"ExactScene", "addCorner", "(IIIII)V"⟩
abbrev b_S_paintOwnedPixels : ByteArray := prog_1_method_21_code
abbrev y_S_paintOwnedPixels : MethodName := ⟨"ExactScene", "paintOwnedPixels", "()I"⟩
abbrev b_S_textureColour : ByteArray := prog_1_method_22_code
abbrev y_S_textureColour : MethodName := ⟨"ExactScene", "textureColour", "(LExactScene$Triangle;II)I"⟩
abbrev b_S_isPlace : ByteArray := prog_1_method_23_code
abbrev y_S_isPlace : MethodName := ⟨"ExactScene", "isPlace", "(I)Z"⟩
abbrev b_S_isTexturePlace : ByteArray := prog_1_method_24_code
abbrev y_S_isTexturePlace : MethodName := ⟨"ExactScene", "isTexturePlace", "(I)Z"⟩
abbrev b_S_isWithin : ByteArray := prog_1_method_25_code
abbrev y_S_isWithin : MethodName := ⟨"ExactScene", "isWithin", "(III)Z"⟩
abbrev b_S_cutDown : ByteArray := prog_1_method_26_code
abbrev y_S_cutDown : MethodName := ⟨"ExactScene", "cutDown", "(JJ)J"⟩
abbrev b_M_init : ByteArray := prog_2_method_1_code
abbrev y_M_init : MethodName := ⟨"ExactScene$Matrices", "<init>", "()V"⟩
abbrev b_M_isLine : ByteArray := prog_2_method_2_code
abbrev y_M_isLine : MethodName := ⟨"ExactScene$Matrices", "isLine", "(I)Z"⟩
abbrev b_M_isEntry : ByteArray := prog_2_method_3_code
abbrev y_M_isEntry : MethodName := ⟨"ExactScene$Matrices", "isEntry", "(J)Z"⟩
abbrev b_M_isPileEmpty : ByteArray := prog_2_method_4_code
abbrev y_M_isPileEmpty : MethodName := ⟨"ExactScene$Matrices", "isPileEmpty", "()Z"⟩
abbrev b_M_isPileFull : ByteArray := prog_2_method_5_code
abbrev y_M_isPileFull : MethodName := ⟨"ExactScene$Matrices", "isPileFull", "()Z"⟩
abbrev b_M_entryAt : ByteArray := prog_2_method_6_code
abbrev y_M_entryAt : MethodName := ⟨"ExactScene$Matrices", "entryAt", "(II)I"⟩
abbrev b_M_setRow : ByteArray := prog_2_method_7_code
abbrev y_M_setRow : MethodName := ⟨"ExactScene$Matrices", "setRow", "(IIIII)V"⟩
abbrev b_M_rowTimes : ByteArray := prog_2_method_8_code
abbrev y_M_rowTimes : MethodName := ⟨"ExactScene$Matrices", "rowTimes", "(IIII)I"⟩
abbrev b_M_multiplyByMove : ByteArray := prog_2_method_9_code
abbrev y_M_multiplyByMove : MethodName := ⟨"ExactScene$Matrices", "multiplyByMove", "(III)Z"⟩
abbrev b_M_multiplyByStretch : ByteArray := prog_2_method_10_code
abbrev y_M_multiplyByStretch : MethodName := ⟨"ExactScene$Matrices", "multiplyByStretch", "(III)Z"⟩
abbrev b_M_multiplyLatestByCurrent : ByteArray := prog_2_method_11_code
abbrev y_M_multiplyLatestByCurrent : MethodName := ⟨"ExactScene$Matrices", "multiplyLatestByCurrent", "()Z"⟩
abbrev b_M_quarterTurn : ByteArray := prog_2_method_12_code
abbrev y_M_quarterTurn : MethodName := ⟨"ExactScene$Matrices", "quarterTurn", "(II)V"⟩
abbrev b_M_save : ByteArray := prog_2_method_13_code
abbrev y_M_save : MethodName := ⟨"ExactScene$Matrices", "save", "()V"⟩
abbrev b_M_restore : ByteArray := prog_2_method_14_code
abbrev y_M_restore : MethodName := ⟨"ExactScene$Matrices", "restore", "()V"⟩
abbrev b_M_setDiagonalFactor : ByteArray := prog_2_method_15_code
abbrev y_M_setDiagonalFactor : MethodName := ⟨"ExactScene$Matrices", "setDiagonalFactor", "(III)V"⟩
abbrev b_M_multiply : ByteArray := prog_2_method_16_code
abbrev y_M_multiply : MethodName := ⟨"ExactScene$Matrices", "multiply", "([II[I)Z"⟩
abbrev b_X_init : ByteArray := prog_4_method_1_code
abbrev y_X_init : MethodName := ⟨"ExactScene$Textures", "<init>", "()V"⟩
abbrev b_X_isTexture : ByteArray := prog_4_method_2_code
abbrev y_X_isTexture : MethodName := ⟨"ExactScene$Textures", "isTexture", "(I)Z"⟩
abbrev b_X_isLine : ByteArray := prog_4_method_3_code
abbrev y_X_isLine : MethodName := ⟨"ExactScene$Textures", "isLine", "(I)Z"⟩
abbrev b_X_indexOf : ByteArray := prog_4_method_4_code
abbrev y_X_indexOf : MethodName := ⟨"ExactScene$Textures", "indexOf", "(III)I"⟩
abbrev b_X_wrap : ByteArray := prog_4_method_5_code
abbrev y_X_wrap : MethodName := ⟨"ExactScene$Textures", "wrap", "(IJ)I"⟩
abbrev b_X_exchange : ByteArray := prog_4_method_6_code
abbrev y_X_exchange : MethodName := ⟨"ExactScene$Textures", "exchange", "(II)I"⟩
abbrev b_T_init : ByteArray := prog_5_method_1_code
abbrev y_T_init : MethodName := ⟨"ExactScene$Triangle", "<init>", "()V"⟩
abbrev b_T_setPlace : ByteArray := prog_5_method_2_code
abbrev y_T_setPlace : MethodName := ⟨"ExactScene$Triangle", "setPlace", "(IIII)V"⟩
abbrev b_T_setRest : ByteArray := prog_5_method_3_code
abbrev y_T_setRest : MethodName := ⟨"ExactScene$Triangle", "setRest", "(IIII)V"⟩
abbrev b_T_complete : ByteArray := prog_5_method_4_code
abbrev y_T_complete : MethodName := ⟨"ExactScene$Triangle", "complete", "(III)V"⟩
abbrev b_T_isShown : ByteArray := prog_5_method_5_code
abbrev y_T_isShown : MethodName := ⟨"ExactScene$Triangle", "isShown", "()Z"⟩
abbrev b_T_covers : ByteArray := prog_5_method_6_code
abbrev y_T_covers : MethodName := ⟨"ExactScene$Triangle", "covers", "(II)Z"⟩
abbrev b_T_depthOver : ByteArray := prog_5_method_7_code
abbrev y_T_depthOver : MethodName := ⟨"ExactScene$Triangle", "depthOver", "(II)J"⟩
abbrev b_T_textureU : ByteArray := prog_5_method_8_code
abbrev y_T_textureU : MethodName := ⟨"ExactScene$Triangle", "textureU", "(II)J"⟩
abbrev b_T_textureV : ByteArray := prog_5_method_9_code
abbrev y_T_textureV : MethodName := ⟨"ExactScene$Triangle", "textureV", "(II)J"⟩
abbrev b_T_numberAt : ByteArray := prog_5_method_10_code
abbrev y_T_numberAt : MethodName := ⟨"ExactScene$Triangle", "numberAt", "(I)J"⟩
abbrev b_T_weigh : ByteArray := prog_5_method_11_code
abbrev y_T_weigh : MethodName := ⟨"ExactScene$Triangle", "weigh", "([III)J"⟩
abbrev b_T_weightAt : ByteArray := prog_5_method_12_code
abbrev y_T_weightAt : MethodName := ⟨"ExactScene$Triangle", "weightAt", "(III)J"⟩
abbrev b_T_ownsItsEdge : ByteArray := prog_5_method_13_code
abbrev y_T_ownsItsEdge : MethodName := ⟨"ExactScene$Triangle", "ownsItsEdge", "(I)Z"⟩
abbrev b_T_setEdge : ByteArray := prog_5_method_14_code
abbrev y_T_setEdge : MethodName := ⟨"ExactScene$Triangle", "setEdge", "(III)V"⟩
abbrev b_T_turnToNegatives : ByteArray := prog_5_method_15_code
abbrev y_T_turnToNegatives : MethodName := ⟨"ExactScene$Triangle", "turnToNegatives", "()V"⟩
abbrev b_T_placeP : ByteArray := prog_5_method_16_code
abbrev y_T_placeP : MethodName := ⟨"ExactScene$Triangle", "placeP", "(I)J"⟩
abbrev b_T_placeQ : ByteArray := prog_5_method_17_code
abbrev y_T_placeQ : MethodName := ⟨"ExactScene$Triangle", "placeQ", "(I)J"⟩
abbrev b_T_placeW : ByteArray := prog_5_method_18_code
abbrev y_T_placeW : MethodName := ⟨"ExactScene$Triangle", "placeW", "(I)J"⟩
abbrev b_P_init : ByteArray := prog_3_method_1_code
abbrev y_P_init : MethodName := ⟨"ExactScene$Picture", "<init>", "()V"⟩
abbrev b_P_isPixel : ByteArray := prog_3_method_2_code
abbrev y_P_isPixel : MethodName := ⟨"ExactScene$Picture", "isPixel", "(II)Z"⟩
abbrev b_P_indexOf : ByteArray := prog_3_method_3_code
abbrev y_P_indexOf : MethodName := ⟨"ExactScene$Picture", "indexOf", "(II)I"⟩
abbrev b_P_isOwned : ByteArray := prog_3_method_4_code
abbrev y_P_isOwned : MethodName := ⟨"ExactScene$Picture", "isOwned", "(I)Z"⟩
abbrev b_P_wipe : ByteArray := prog_3_method_5_code
abbrev y_P_wipe : MethodName := ⟨"ExactScene$Picture", "wipe", "(I)V"⟩
abbrev b_P_offerTriangle : ByteArray := prog_3_method_6_code
abbrev y_P_offerTriangle : MethodName := ⟨"ExactScene$Picture", "offerTriangle", "(ILExactScene$Triangle;)V"⟩
abbrev b_P_compareDepths : ByteArray := prog_3_method_7_code
abbrev y_P_compareDepths : MethodName := ⟨"ExactScene$Picture", "compareDepths", "(II)I"⟩
abbrev b_P_wholeDepth : ByteArray := prog_3_method_8_code
abbrev y_P_wholeDepth : MethodName := ⟨"ExactScene$Picture", "wholeDepth", "(I)J"⟩
abbrev b_P_offerPixel : ByteArray := prog_3_method_9_code
abbrev y_P_offerPixel : MethodName := ⟨"ExactScene$Picture", "offerPixel", "(IIJJ)V"⟩
abbrev b_P_compareQuotients : ByteArray := prog_3_method_10_code
abbrev y_P_compareQuotients : MethodName := ⟨"ExactScene$Picture", "compareQuotients", "(JJJJ)I"⟩
abbrev b_R_init : ByteArray := prog_7_method_1_code
abbrev y_R_init : MethodName := ⟨"ExactSceneModel", "<init>", "()V"⟩
abbrev b_R_thrown : ByteArray := prog_7_method_2_code
abbrev y_R_thrown : MethodName := ⟨"ExactSceneModel", "thrown", "()I"⟩
abbrev b_R_fits : ByteArray := prog_7_method_3_code
abbrev y_R_fits : MethodName := ⟨"ExactSceneModel", "fits", "(J)Z"⟩
abbrev b_R_row : ByteArray := prog_7_method_4_code
abbrev y_R_row : MethodName := ⟨"ExactSceneModel", "row", "(IIIII)V"⟩
abbrev b_R_move : ByteArray := prog_7_method_5_code
abbrev y_R_move : MethodName := ⟨"ExactSceneModel", "move", "(III)V"⟩
abbrev b_R_stretch : ByteArray := prog_7_method_6_code
abbrev y_R_stretch : MethodName := ⟨"ExactSceneModel", "stretch", "(III)V"⟩
abbrev b_R_turn : ByteArray := prog_7_method_7_code
abbrev y_R_turn : MethodName := ⟨"ExactSceneModel", "turn", "(I)V"⟩
abbrev b_R_join : ByteArray := prog_7_method_8_code
abbrev y_R_join : MethodName := ⟨"ExactSceneModel", "join", "()V"⟩
abbrev b_R_push : ByteArray := prog_7_method_9_code
abbrev y_R_push : MethodName := ⟨"ExactSceneModel", "push", "()V"⟩
abbrev b_R_pop : ByteArray := prog_7_method_10_code
abbrev y_R_pop : MethodName := ⟨"ExactSceneModel", "pop", "()V"⟩
abbrev b_R_entry : ByteArray := prog_7_method_11_code
abbrev y_R_entry : MethodName := ⟨"ExactSceneModel", "entry", "(II)I"⟩
abbrev b_R_within : ByteArray := prog_7_method_12_code
abbrev y_R_within : MethodName := ⟨"ExactSceneModel", "within", "(II)Z"⟩
abbrev b_R_line : ByteArray := prog_7_method_13_code
abbrev y_R_line : MethodName := ⟨"ExactSceneModel", "line", "(IIII)I"⟩
abbrev b_R_vertex : ByteArray := prog_7_method_14_code
abbrev y_R_vertex : MethodName := ⟨"ExactSceneModel", "vertex", "(IIIII)I"⟩
abbrev b_R_use : ByteArray := prog_7_method_15_code
abbrev y_R_use : MethodName := ⟨"ExactSceneModel", "use", "(III)Z"⟩
abbrev b_R_texel : ByteArray := prog_7_method_16_code
abbrev y_R_texel : MethodName := ⟨"ExactSceneModel", "texel", "(IIII)I"⟩
abbrev b_R_clear : ByteArray := prog_7_method_17_code
abbrev y_R_clear : MethodName := ⟨"ExactSceneModel", "clear", "()I"⟩
abbrev b_R_placeOf : ByteArray := prog_7_method_18_code
abbrev y_R_placeOf : MethodName := ⟨"ExactSceneModel", "placeOf", "(III)J"⟩
abbrev b_R_prepare : ByteArray := prog_7_method_19_code
abbrev y_R_prepare : MethodName := ⟨"ExactSceneModel", "prepare", "(I)V"⟩
abbrev b_R_covers : ByteArray := prog_7_method_20_code
abbrev y_R_covers : MethodName := ⟨"ExactSceneModel", "covers", "(IIIJ)Z"⟩
abbrev b_R_floor : ByteArray := prog_7_method_21_code
abbrev y_R_floor : MethodName := ⟨"ExactSceneModel", "floor", "(JJ)J"⟩
abbrev b_R_order : ByteArray := prog_7_method_22_code
abbrev y_R_order : MethodName := ⟨"ExactSceneModel", "order", "(JJJJ)I"⟩
abbrev b_R_texelOf : ByteArray := prog_7_method_23_code
abbrev y_R_texelOf : MethodName := ⟨"ExactSceneModel", "texelOf", "(I)I"⟩
abbrev b_R_draw : ByteArray := prog_7_method_24_code
abbrev y_R_draw : MethodName := ⟨"ExactSceneModel", "draw", "(I)I"⟩
abbrev b_R_isPixel : ByteArray := prog_7_method_25_code
abbrev y_R_isPixel : MethodName := ⟨"ExactSceneModel", "isPixel", "(II)Z"⟩
abbrev b_R_colour : ByteArray := prog_7_method_26_code
abbrev y_R_colour : MethodName := ⟨"ExactSceneModel", "colour", "(II)I"⟩
abbrev b_R_owner : ByteArray := prog_7_method_27_code
abbrev y_R_owner : MethodName := ⟨"ExactSceneModel", "owner", "(II)I"⟩
abbrev b_R_compare : ByteArray := prog_7_method_28_code
abbrev y_R_compare : MethodName := ⟨"ExactSceneModel", "compare", "(IIII)I"⟩
abbrev b_R_depth : ByteArray := prog_7_method_29_code
abbrev y_R_depth : MethodName := ⟨"ExactSceneModel", "depth", "(II)J"⟩
abbrev b_R_triangle : ByteArray := prog_7_method_30_code
abbrev y_R_triangle : MethodName := ⟨"ExactSceneModel", "triangle", "(II)J"⟩
abbrev b_L_row : ByteArray := method_3_code
abbrev y_L_row : MethodName := ⟨"ExactSceneLaw", "row", "(LExactScene;IIIII)I"⟩
abbrev b_L_move : ByteArray := method_4_code
abbrev y_L_move : MethodName := ⟨"ExactSceneLaw", "move", "(LExactScene;III)I"⟩
abbrev b_L_stretch : ByteArray := method_5_code
abbrev y_L_stretch : MethodName := ⟨"ExactSceneLaw", "stretch", "(LExactScene;III)I"⟩
abbrev b_L_turn : ByteArray := method_6_code
abbrev y_L_turn : MethodName := ⟨"ExactSceneLaw", "turn", "(LExactScene;I)I"⟩
abbrev b_L_join : ByteArray := method_7_code
abbrev y_L_join : MethodName := ⟨"ExactSceneLaw", "join", "(LExactScene;)I"⟩
abbrev b_L_push : ByteArray := method_8_code
abbrev y_L_push : MethodName := ⟨"ExactSceneLaw", "push", "(LExactScene;)I"⟩
abbrev b_L_pop : ByteArray := method_9_code
abbrev y_L_pop : MethodName := ⟨"ExactSceneLaw", "pop", "(LExactScene;)I"⟩
abbrev b_L_entry : ByteArray := method_10_code
abbrev y_L_entry : MethodName := ⟨"ExactSceneLaw", "entry", "(LExactScene;II[J)I"⟩
abbrev b_L_vertex : ByteArray := method_11_code
abbrev y_L_vertex : MethodName := ⟨"ExactSceneLaw", "vertex", "(LExactScene;IIIII[J)I"⟩
abbrev b_L_texel : ByteArray := method_12_code
abbrev y_L_texel : MethodName := ⟨"ExactSceneLaw", "texel", "(LExactScene;IIII[J)I"⟩
abbrev b_L_colour : ByteArray := method_13_code
abbrev y_L_colour : MethodName := ⟨"ExactSceneLaw", "colour", "(LExactScene;II[J)I"⟩
abbrev b_L_owner : ByteArray := method_14_code
abbrev y_L_owner : MethodName := ⟨"ExactSceneLaw", "owner", "(LExactScene;II[J)I"⟩
abbrev b_L_compare : ByteArray := method_15_code
abbrev y_L_compare : MethodName := ⟨"ExactSceneLaw", "compare", "(LExactScene;IIII[J)I"⟩
abbrev b_L_depth : ByteArray := method_16_code
abbrev y_L_depth : MethodName := ⟨"ExactSceneLaw", "depth", "(LExactScene;II[J)I"⟩
abbrev b_L_triangle : ByteArray := method_17_code
abbrev y_L_triangle : MethodName := ⟨"ExactSceneLaw", "triangle", "(LExactScene;II[J)I"⟩
end
section
/-! the words that every method of ours is given, in one list; rooms by depth; the memory by cells' numbers -/
def xs_TG : List Cond := lw_tbl.filter goodWord
def xs_isN : Cond → Bool
  | .fieldLinkNest .. => true
  | .methodLinkNest .. => true
  | _ => false
def xs_NW : List Cond := tables_1.filter xs_isN
theorem xs_tg {w : Cond} (i : Nat) (h : tables_1[i]? = some w) (g : goodWord w = true) : w ∈ xs_TG :=
  List.mem_filter.mpr ⟨List.mem_append_right _ (List.mem_of_getElem? h), g⟩
theorem xs_tp {w : Cond} (i : Nat) (h : (k2_sels lw_privs)[i]? = some w) (g : goodWord w = true) : w ∈ xs_TG :=
  List.mem_filter.mpr ⟨List.mem_append_left _ (List.mem_of_getElem? h), g⟩
theorem xs_nw {w : Cond} (i : Nat) (h : tables_1[i]? = some w) (g : xs_isN w = true) : w ∈ xs_NW :=
  List.mem_filter.mpr ⟨List.mem_of_getElem? h, g⟩
theorem xs_good {w : Cond} (h : w ∈ xs_TG) : GoodIn xs_TG (w :: xs_TG) := by
  intro z hz
  have hm : z ∈ xs_TG := by
    rcases List.mem_cons.mp hz with e | e
    · rw [e]; exact h
    · exact e
  exact ⟨hm, good_of_word (List.mem_filter.mp hm).2⟩
theorem xs_nw1 {s U : State} (hW : s.WarmedH U.vm) : ∀ w : Cond, xs_isN w = true → va_Nw w s → va_Nw w U := by
  intro w hn h
  cases w
  case fieldLinkNest => exact va_Nw.warmF hW h
  case methodLinkNest => exact va_Nw.warmM hW h
  all_goals exact Bool.noConfusion hn
theorem xs_nwarm {s U : State} (hW : s.WarmedH U.vm) (h : ∀ w ∈ xs_NW, va_Nw w s) : ∀ w ∈ xs_NW, va_Nw w U :=
  fun w hw => xs_nw1 hW w (List.mem_filter.mp hw).2 (h w hw)
def xs_rm (d w : Nat) : Room := { frames := d, cells := 0, slots := 0, locals := w }
abbrev xs_M : Type := (Nat → Nat → Int32) × (Nat → Nat → Int64)
def xs_si (μ : xs_M) (i j : Nat) (x : Int32) : xs_M := (va_up μ.1 i (upd (μ.1 i) j x), μ.2)
def xs_sl (μ : xs_M) (i j : Nat) (x : Int64) : xs_M := (μ.1, va_up μ.2 i (vp_updL (μ.2 i) j x))
def xs_sa (μ : xs_M) (i : Nat) (f : Nat → Int32) : xs_M := (va_up μ.1 i f, μ.2)
/-! what a cell holds: objects' fields, in the order of the tables F_ of the names -/
def xs_fS (ad : Nat → Nat) (f : Nat → Int32) : List Value := [.ref (ad 1), .ref (ad 6), .ref (ad 8), .ref (ad 13), .int (f 4), .int (f 5), .int (f 6), .int (f 7), .int (f 8)]
def xs_fM (ad : Nat → Nat) (f : Nat → Int32) : List Value := [.ref (ad 2), .ref (ad 3), .ref (ad 4), .ref (ad 5), .int (f 4)]
def xs_fX (ad : Nat → Nat) : List Value := [.ref (ad 7)]
def xs_fP (ad : Nat → Nat) : List Value := [.ref (ad 9), .ref (ad 10), .ref (ad 11), .ref (ad 12)]
def xs_fT (ad : Nat → Nat) (b : Nat) (f : Nat → Int32) (g : Nat → Int64) : List Value := [.ref (ad (b + 1)), .ref (ad (b + 2)), .ref (ad (b + 3)), .ref (ad (b + 4)), .ref (ad (b + 5)), .ref (ad (b + 6)), .long (g 6), .int (f 7), .int (f 8), .int (f 9)]
def xs_fR (ad : Nat → Nat) (f : Nat → Int32) (g : Nat → Int64) : List Value := [.int (f 0), .ref (ad 155), .ref (ad 156), .ref (ad 157), .int (f 4), .int (f 5), .int (f 6), .int (f 7), .ref (ad 158), .int (f 9), .ref (ad 159), .ref (ad 160), .ref (ad 161), .ref (ad 162), .long (g 14), .ref (ad 163), .ref (ad 164), .ref (ad 165), .ref (ad 166), .ref (ad 167), .ref (ad 168), .ref (ad 169), .ref (ad 170)]
abbrev xs_cs : Type := ClassId × ClassId × ClassId
def xs_ai (cs : xs_cs) (n : Nat) (f : Nat → Int32) : va_E := .inl (cs.1, n, .inl f)
def xs_al (cs : xs_cs) (n : Nat) (g : Nat → Int64) : va_E := .inl (cs.2.1, n, .inr (.inl g))
def xs_ar (cs : xs_cs) (ad : Nat → Nat) : va_E := .inl (cs.2.2, 20, .inr (.inr (.inr (.inr (fun k => some (ad (14 + 7 * k)))))))
def xs_L1 (ad : Nat → Nat) (cs : xs_cs) (f : Nat → Int32) (g : Nat → Int64) : List va_E := [.inr (0, xs_fS ad f), .inr (1, xs_fM ad f), xs_ai cs 16 f, xs_ai cs 64 f, xs_ai cs 16 f, xs_ai cs 16 f, .inr (2, xs_fX ad), xs_ai cs 128 f, .inr (4, xs_fP ad), xs_ai cs 192 f, xs_ai cs 192 f, xs_al cs 192 g, xs_al cs 192 g, xs_ar cs ad]
def xs_L2 (ad : Nat → Nat) (cs : xs_cs) (f : Nat → Int32) (g : Nat → Int64) : List va_E := [.inr (5, xs_fR ad f g), xs_ai cs 16 f, xs_ai cs 16 f, xs_ai cs 64 f, xs_ai cs 128 f, xs_ai cs 360 f, xs_ai cs 20 f, xs_ai cs 20 f, xs_ai cs 20 f, xs_al cs 3 g, xs_al cs 3 g, xs_al cs 3 g, xs_al cs 3 g, xs_ai cs 192 f, xs_ai cs 192 f, xs_al cs 192 g, xs_al cs 192 g, xs_al cs 1 g]
def xs_L3 (ad : Nat → Nat) (cs : xs_cs) (b : Nat) (f : Nat → Int32) (g : Nat → Int64) : List va_E := [.inr (3, xs_fT ad b f g), xs_al cs 13 g, xs_ai cs 3 f, xs_ai cs 3 f, xs_al cs 3 g, xs_al cs 3 g, xs_al cs 3 g]
def xs_cell (ad : Nat → Nat) (cs : xs_cs) (i : Nat) (f : Nat → Int32) (g : Nat → Int64) : va_E :=
  if 14 ≤ i then (if i < 154 then (xs_L3 ad cs (i - (i - 14) % 7) f g).getD ((i - 14) % 7) (xs_ai cs 0 f) else (xs_L2 ad cs f g).getD (i - 154) (xs_ai cs 0 f)) else (xs_L1 ad cs f g).getD i (xs_ai cs 0 f)
theorem xs_c3 (ad : Nat → Nat) (cs : xs_cs) (f : Nat → Int32) (g : Nat → Int64) {k : Nat} (hk : k < 20) (j : Nat) (hj : j < 7) : xs_cell ad cs (14 + 7 * k + j) f g = (xs_L3 ad cs (14 + 7 * k) f g).getD j (xs_ai cs 0 f) := by
  unfold xs_cell
  rw [if_pos (by omega), if_pos (by omega), show (14 + 7 * k + j - 14) % 7 = j by omega, show 14 + 7 * k + j - j = 14 + 7 * k by omega]
def xs_W (ad : Nat → Nat) (cs : xs_cs) (μ : xs_M) : va_W := (List.range 172).map (fun i => (ad i, xs_cell ad cs i (μ.1 i) (μ.2 i)))
theorem xs_len (ad : Nat → Nat) (cs : xs_cs) (μ : xs_M) : (xs_W ad cs μ).length = 172 := by simp [xs_W]
theorem xs_get (ad : Nat → Nat) (cs : xs_cs) (μ : xs_M) {i : Nat} (h : i < 172) : (xs_W ad cs μ)[i]? = some (ad i, xs_cell ad cs i (μ.1 i) (μ.2 i)) := by
  simp [xs_W, h]
theorem xs_set {ad : Nat → Nat} {cs : xs_cs} {μ μ2 : xs_M} {q : Nat} (hq : q < 172) {E : va_E} (h1 : xs_cell ad cs q (μ2.1 q) (μ2.2 q) = E) (h2 : ∀ i, i ≠ q → μ2.1 i = μ.1 i ∧ μ2.2 i = μ.2 i) : (xs_W ad cs μ).set q (ad q, E) = xs_W ad cs μ2 := by
  apply List.ext_getElem?
  intro j
  by_cases hj : j < 172
  · by_cases hjq : j = q
    · subst hjq
      rw [List.getElem?_set_self (by rw [xs_len]; exact hj), xs_get _ _ _ hj, h1]
    · rw [List.getElem?_set_ne (Ne.symm hjq), xs_get _ _ _ hj, xs_get _ _ _ hj, (h2 j hjq).1, (h2 j hjq).2]
  · rw [List.getElem?_eq_none (by rw [List.length_set, xs_len]; omega), List.getElem?_eq_none (by rw [xs_len]; omega)]
/-- a cell that is an array of ints, of longs -/
def xs_IA (ad : Nat → Nat) (cs : xs_cs) (q L : Nat) : Prop := q < 172 ∧ ∀ (f : Nat → Int32) (g : Nat → Int64), xs_cell ad cs q f g = xs_ai cs L f
def xs_LA (ad : Nat → Nat) (cs : xs_cs) (q L : Nat) : Prop := q < 172 ∧ ∀ (f : Nat → Int32) (g : Nat → Int64), xs_cell ad cs q f g = xs_al cs L g
def xs_J (ad : Nat → Nat) : Prop := ∀ i j, i < 172 → j < 172 → ad i = ad j → i = j
theorem xs_D {ad : Nat → Nat} {cs : xs_cs} {μ : xs_M} {A : Nat → Prop} (hJ : xs_J ad) (hA : ∀ i, i < 172 → A (ad i)) : va_D A (xs_W ad cs μ) := by
  have key : ∀ (k : Nat) (q : Nat × va_E), (xs_W ad cs μ)[k]? = some q → k < 172 ∧ q.1 = ad k := by
    intro k q hk
    have hl := (List.getElem?_eq_some_iff.mp hk).1
    rw [xs_len] at hl
    rw [xs_get _ _ _ hl] at hk
    cases hk
    exact ⟨hl, rfl⟩
  refine ⟨fun i j x y hi hj hxy => ?_, fun k q hk => ?_⟩
  · obtain ⟨h1, e1⟩ := key i x hi
    obtain ⟨h2, e2⟩ := key j y hj
    exact hJ i j h1 h2 (by rw [← e1, ← e2]; exact hxy)
  · obtain ⟨h1, e1⟩ := key k q hk
    rw [e1]
    exact hA k h1
def xs_ty (cs : xs_cs) : List (ClassId × FieldType) := [(cs.1, .int), (cs.2.1, .long), (cs.2.2, .object "ExactScene$Triangle")]
/-- where a walk stands: the world in the heap H, nothing else changed since H0 -/
def xs_G (D : va_G) (ad : Nat → Nat) (cs : xs_cs) (s : State) (A : Nat → Prop) (H0 : Heap) (μ : xs_M) (H : Heap) (locs : List Loc) : Prop :=
  va_K D classes (xs_ty cs) s ∧ va_P D classes (xs_W ad cs μ) H ∧ (xs_J ad ∧ ∀ i, i < 172 → A (ad i)) ∧ va_S A H0 H locs ∧ ∀ q, H0.size ≤ q → A q
theorem xs_GD {D : va_G} {ad : Nat → Nat} {cs : xs_cs} {s : State} {A : Nat → Prop} {H0 : Heap} {μ : xs_M} {H : Heap} {locs : List Loc} (G : xs_G D ad cs s A H0 μ H locs) (μ2 : xs_M) : va_D A (xs_W ad cs μ2) := xs_D G.2.2.1.1 G.2.2.1.2
def xs_C (p : Program) (s : State) (m : MethodId) (c : Code) (cc : ByteArray) (nL : Nat) (args : Array Value) (own : String) : Prop :=
  p.tables.exec = Jvm.exec ∧ c.code = cc ∧ c.maxLocals = nL ∧ s.vm.findClass own = some m.cls ∧ (∀ w ∈ xs_TG, w.before args s = true) ∧ ∀ w ∈ xs_NW, va_Nw w s
def xs_A (ad : Nat → Nat) (sz : Nat) : Nat → Prop := fun q => (∃ i, i < 172 ∧ q = ad i) ∨ sz ≤ q
def xs_Pre (D : va_G) (ad : Nat → Nat) (cs : xs_cs) (μ : xs_M) (sz : Nat) (U : State) : Prop := U.heap.size = sz ∧ va_P D classes (xs_W ad cs μ) U.heap ∧ va_K D classes (xs_ty cs) U ∧ ∀ w ∈ xs_NW, va_Nw w U
def xs_Q (D : va_G) (ad : Nat → Nat) (cs : xs_cs) (r : Option Value) (μ2 : xs_M) (sz : Nat) : Array Value → State → Outcome → State → Prop := fun _ st o t => o = .returned r ∧ va_P D classes (xs_W ad cs μ2) t.heap ∧ va_F (xs_A ad sz) st t
/-- a method's contract: from the memory μ it returns r and leaves μ2 -/
def xs_I (l : Launch) (D : va_G) (ad : Nat → Nat) (cs : xs_cs) (y : MethodName) (bc : ByteArray) (mL : Nat) (rt : Option FieldType) (d w : Nat) (as : List Value) (μ : xs_M) (r : Option Value) (μ2 : xs_M) : Prop :=
  ∀ sz, Met l y (.code y bc mL rt :: xs_TG) (xs_rm d w) (va_Pc as (xs_Pre D ad cs μ sz)) (xs_Q D ad cs r μ2 sz) 0 0 (xs_A ad sz)
def xs_E (below : List Frame) (D : va_G) (ad : Nat → Nat) (cs : xs_cs) (as : List Value) (s : State) (r : Option Value) (μ2 : xs_M) : State → Prop := MQ below (xs_Q D ad cs r μ2 s.heap.size) as.toArray s 0 0 (xs_A ad s.heap.size)
theorem xs_entry {l : Launch} {D : va_G} {ad : Nat → Nat} {cs : xs_cs} {y : MethodName} {bc : ByteArray} {mL : Nat} {rt : Option FieldType} {d w : Nat} {as : List Value} {μ : xs_M} {r : Option Value} {μ2 : xs_M} (hJ : xs_J ad) (hy : plainName y.cls = true) (hn : (lg_sl as).length ≤ mL)
    (body : ∀ (p : Program) (e : Env) (s : State) (m : MethodId) (below : List Frame) (meth : Method) (c : Code) (ls : Array Slot), xs_C p s m c bc mL as.toArray y.cls → meth.sig.returnType = rt → meth.locks = false → xs_G D ad cs s (xs_A ad s.heap.size) s.heap μ s.heap [] → lv_has ls mL (lv_args 0 as) →
      W p l e (xs_rm d w) s m as.toArray below meth c s.heap [] 0 0 (xs_E below D ad cs as s r μ2) (F0 m 0 ls [])) : xs_I l D ad cs y bc mL rt d w as μ r μ2 := by
  intro sz
  refine Met.ofW (cc := bc) (maxL := mL) (ret := rt) hy rfl ?_
  intro p e s m args below meth c s₁ B hml hv
  obtain ⟨rfl, hsz, hP, hK, hN⟩ := hv
  subst hsz
  have hts := atoms_spec (ws := .code y bc mL rt :: xs_TG) B.pre
  have hown : s.vm.findClass y.cls = some m.cls := findClass_of_methodNamed B.named
  have hl := lv_entry as (n := mL) hn
  rw [lg_entry_eq]
  exact body p e s m below meth c _ ⟨B.exec, B.bytes, hml, hown, fun w h => hts w (List.mem_cons_of_mem _ h), hN⟩ B.returns B.notSynchronized ⟨hK, hP, ⟨hJ, fun i hi => Or.inl ⟨i, hi, rfl⟩⟩, va_S.rf, fun q h => Or.inr h⟩ hl
/-! the decompiled functions: what a step of theirs says -/
theorem xs_t {α : Type} {c : Prop} [Decidable c] {a b r : α} (h : (if c then a else b) = r) (hc : c) : a = r := by rw [if_pos hc] at h; exact h
theorem xs_f {α : Type} {c : Prop} [Decidable c] {a b r : α} (h : (if c then a else b) = r) (hc : ¬ c) : b = r := by rw [if_neg hc] at h; exact h
theorem xs_n {α : Type} {c : Prop} [Decidable c] {a : Option α} {r : α} (h : (if c then a else none) = some r) : c ∧ a = some r := by
  by_cases hc : c
  · rw [if_pos hc] at h; exact ⟨hc, h⟩
  · rw [if_neg hc] at h; cases h
theorem xs_b {α β : Type} {o : Option α} {f : α → Option β} {r : β} (h : o.bind f = some r) : ∃ w, o = some w ∧ f w = some r := by
  cases o with
  | none => cases h
  | some w => exact ⟨w, rfl, h⟩
section XSR
variable {p : Program} {l : Launch} {e : Env} {R : Room} {s : State} {m : MethodId} {args : Array Value} {below : List Frame} {meth : Method} {c : Code} {H : Heap} {locs : List Loc} {cells slots : Nat} {Q : State → Prop}
variable {cc : ByteArray} {pc : Nat} {ls : Array Slot} {rest st0 : List Value} {D : va_G} {ad : Nat → Nat} {cs : xs_cs} {A : Nat → Prop} {H0 : Heap} {μ μ2 : xs_M} {as : List Value} {nL : Nat} {own : String}
theorem xs_iald (hx : p.tables.exec = Jvm.exec) (hb : c.code = cc) (G : xs_G D ad cs s A H0 μ H locs) {q L : Nat} (hq : xs_IA ad cs q L) {i : Int32} (hin : vp_in i L) (hdg : decode cc pc = .ok (.iaload, 1))
    (kk : W p l e R s m args below meth c H locs cells slots Q (F0 m (pc + 1) ls (.int (μ.1 q i.toNatClampNeg) :: rest))) : W p l e R s m args below meth c H locs cells slots Q (F0 m pc ls (.int i :: .ref (ad q) :: rest)) :=
  va_iald hx hb G.1 G.2.1 q 0 (by rw [xs_get _ _ _ hq.1, hq.2]; rfl) rfl hin hdg kk
theorem xs_lald (hx : p.tables.exec = Jvm.exec) (hb : c.code = cc) (G : xs_G D ad cs s A H0 μ H locs) {q L : Nat} (hq : xs_LA ad cs q L) {i : Int32} (hin : vp_in i L) (hdg : decode cc pc = .ok (.laload, 1))
    (kk : W p l e R s m args below meth c H locs cells slots Q (F0 m (pc + 1) ls (.long (μ.2 q i.toNatClampNeg) :: rest))) : W p l e R s m args below meth c H locs cells slots Q (F0 m pc ls (.int i :: .ref (ad q) :: rest)) :=
  va_lald hx hb G.1 G.2.1 q 1 (by rw [xs_get _ _ _ hq.1, hq.2]; rfl) rfl hin hdg kk
theorem xs_iast (hx : p.tables.exec = Jvm.exec) (hb : c.code = cc) (G : xs_G D ad cs s A H0 μ H locs) {q L : Nat} (hq : xs_IA ad cs q L) {i x : Int32} (hin : vp_in i L) (hdg : decode cc pc = .ok (.iastore, 1))
    (kk : ∀ (H1 : Heap) (locs1 : List Loc), xs_G D ad cs s A H0 (xs_si μ q i.toNatClampNeg x) H1 locs1 → W p l e R s m args below meth c H1 locs1 cells slots Q (F0 m (pc + 1) ls rest)) : W p l e R s m args below meth c H locs cells slots Q (F0 m pc ls (.int x :: .int i :: .ref (ad q) :: rest)) := by
  have hs : (xs_W ad cs μ).set q (ad q, .inl (cs.1, L, .inl (upd (μ.1 q) i.toNatClampNeg x))) = xs_W ad cs (xs_si μ q i.toNatClampNeg x) :=
    xs_set hq.1 (by rw [hq.2]; simp only [xs_si, va_up_self]; rfl) (fun j hj => ⟨va_up_ne _ _ hj, rfl⟩)
  refine va_iast hx hb G.1 G.2.1 (xs_GD G μ) G.2.2.2.1 q 0 (by rw [xs_get _ _ _ hq.1, hq.2]; rfl) rfl hin hdg (fun H1 l1 hP hD hS => kk H1 l1 ⟨G.1, ?_, G.2.2.1, hS, G.2.2.2.2⟩)
  rw [hs] at hP
  exact hP
theorem xs_last (hx : p.tables.exec = Jvm.exec) (hb : c.code = cc) (G : xs_G D ad cs s A H0 μ H locs) {q L : Nat} (hq : xs_LA ad cs q L) {i : Int32} {x : Int64} (hin : vp_in i L) (hdg : decode cc pc = .ok (.lastore, 1))
    (kk : ∀ (H1 : Heap) (locs1 : List Loc), xs_G D ad cs s A H0 (xs_sl μ q i.toNatClampNeg x) H1 locs1 → W p l e R s m args below meth c H1 locs1 cells slots Q (F0 m (pc + 1) ls rest)) : W p l e R s m args below meth c H locs cells slots Q (F0 m pc ls (.long x :: .int i :: .ref (ad q) :: rest)) := by
  have hs : (xs_W ad cs μ).set q (ad q, .inl (cs.2.1, L, .inr (.inl (vp_updL (μ.2 q) i.toNatClampNeg x)))) = xs_W ad cs (xs_sl μ q i.toNatClampNeg x) :=
    xs_set hq.1 (by rw [hq.2]; simp only [xs_sl, va_up_self]; rfl) (fun j hj => ⟨rfl, va_up_ne _ _ hj⟩)
  refine va_last hx hb G.1 G.2.1 (xs_GD G μ) G.2.2.2.1 q 1 (by rw [xs_get _ _ _ hq.1, hq.2]; rfl) rfl hin hdg (fun H1 l1 hP hD hS => kk H1 l1 ⟨G.1, ?_, G.2.2.1, hS, G.2.2.2.2⟩)
  rw [hs] at hP
  exact hP
/-- the triangles' array -/
theorem xs_aald (hx : p.tables.exec = Jvm.exec) (hb : c.code = cc) (G : xs_G D ad cs s A H0 μ H locs) {i : Int32} (hin : vp_in i 20) (hdg : decode cc pc = .ok (.aaload, 1))
    (kk : W p l e R s m args below meth c H locs cells slots Q (F0 m (pc + 1) ls (.ref (ad (14 + 7 * i.toNatClampNeg)) :: rest))) : W p l e R s m args below meth c H locs cells slots Q (F0 m pc ls (.int i :: .ref (ad 13) :: rest)) :=
  va_aldq (C := "ExactScene$Triangle") (n := 20) (cA := cs.2.2) (f := fun k => some (ad (14 + 7 * k))) hx hb G.1 G.2.1 13 2 (by rw [xs_get _ _ _ (by decide)]; rfl) rfl hin hdg kk
theorem xs_copy (X : xs_C p s m c cc nL args own) (hsz : ls.size = nL) {idx : Nat} (w1 : Cond.methodLink own idx arraycopyName ∈ xs_TG) (w2 : Cond.native arraycopyName ∈ xs_TG) (w3 : Cond.static arraycopyName ∈ xs_TG) (w4 : Cond.initialized "java/lang/System" ∈ xs_TG) (G : xs_G D ad cs s A H0 μ H locs)
    {q0 q1 n0 n1 : Nat} (h0 : xs_IA ad cs q0 n0) (h1 : xs_IA ad cs q1 n1) {sp dp n : Int32} (hb : ¬ sp < 0 ∧ ¬ dp < 0 ∧ ¬ n < 0 ∧ sp.toNatClampNeg + n.toNatClampNeg ≤ n0 ∧ dp.toNatClampNeg + n.toNatClampNeg ≤ n1) (hR : 1 ≤ R.frames ∧ 26 ≤ R.locals) (hcat : (rest.map fun v => v.category).sum ≤ 8) (hdg : decode cc pc = .ok (.invokestatic idx, 3))
    (kk : ∀ (H1 : Heap) (locs1 : List Loc), xs_G D ad cs s A H0 (xs_sa μ q1 (va_cpy (μ.1 q0) (μ.1 q1) sp.toNatClampNeg dp.toNatClampNeg n.toNatClampNeg)) H1 locs1 → W p l e R s m args below meth c H1 locs1 cells slots Q (F0 m (pc + 3) ls rest)) : W p l e R s m args below meth c H locs cells slots Q (F0 m pc ls (.int n :: .int dp :: .ref (ad q1) :: .int sp :: .ref (ad q0) :: rest)) := by
  have hts := X.2.2.2.2.1
  have hs : (xs_W ad cs μ).set q1 (ad q1, .inl (cs.1, n1, .inl (va_cpy (μ.1 q0) (μ.1 q1) sp.toNatClampNeg dp.toNatClampNeg n.toNatClampNeg))) = xs_W ad cs (xs_sa μ q1 (va_cpy (μ.1 q0) (μ.1 q1) sp.toNatClampNeg dp.toNatClampNeg n.toNatClampNeg)) :=
    xs_set h1.1 (by rw [h1.2]; simp only [xs_sa, va_up_self]; rfl) (fun j hj => ⟨va_up_ne _ _ hj, rfl⟩)
  have hw : nativeFrameWords "java/lang/System" "arraycopy" 5 = 7 := by decide
  refine va_copyi X.1 X.2.1 (by rw [hsz]; exact X.2.2.1) X.2.2.2.1 (hts _ w1) (hts _ w2) (hts _ w3) (hts _ w4) G.1 G.2.1 (xs_GD G μ) G.2.2.2.1 q0 q1 0 0 (c0 := cs.1) (c1 := cs.1) (n0 := n0) (n1 := n1) (f := μ.1 q0) (g := μ.1 q1) (by rw [xs_get _ _ _ h0.1, h0.2]; rfl) (by rw [xs_get _ _ _ h1.1, h1.2]; rfl) rfl rfl rfl hb.1 hb.2.1 hb.2.2.1 hb.2.2.2.1 hb.2.2.2.2 (fun i _ => rfl) hR.1 (by rw [hw]; omega) hdg (fun H1 l1 hP hD hS => kk H1 l1 ⟨G.1, ?_, G.2.2.1, hS, G.2.2.2.2⟩)
  rw [hs] at hP
  exact hP
theorem xs_iret (hx : p.tables.exec = Jvm.exec) (hb : c.code = cc) (hr : meth.sig.returnType = some .int) (hlk : meth.locks = false) (G : xs_G D ad cs s (xs_A ad s.heap.size) s.heap μ2 H locs) {v : Int32} (hdg : decode cc pc = .ok (.ireturn, 1)) : W p l e R s m as.toArray below meth c H locs 0 0 (xs_E below D ad cs as s (some (.int v)) μ2) (F0 m pc ls [.int v]) :=
  W.iret hx hb hr (fun t ht hW => ⟨rfl, by rw [ht]; exact G.2.1, G.2.2.2.1.F ht⟩) G.2.2.2.1.2.2 hdg hlk
theorem xs_zret (hx : p.tables.exec = Jvm.exec) (hb : c.code = cc) (hr : meth.sig.returnType = some .boolean) (hlk : meth.locks = false) (G : xs_G D ad cs s (xs_A ad s.heap.size) s.heap μ2 H locs) {v : Int32} (hz : v = 0 ∨ v = 1) (hdg : decode cc pc = .ok (.ireturn, 1)) : W p l e R s m as.toArray below meth c H locs 0 0 (xs_E below D ad cs as s (some (.int v)) μ2) (F0 m pc ls [.int v]) :=
  W.zret hx hb hr (by rcases hz with rfl | rfl <;> rfl) (fun t ht hW => ⟨rfl, by rw [ht]; exact G.2.1, G.2.2.2.1.F ht⟩) G.2.2.2.1.2.2 hdg hlk
theorem xs_lret (hx : p.tables.exec = Jvm.exec) (hb : c.code = cc) (hr : meth.sig.returnType = some .long) (hlk : meth.locks = false) (G : xs_G D ad cs s (xs_A ad s.heap.size) s.heap μ2 H locs) {v : Int64} (hdg : decode cc pc = .ok (.lreturn, 1)) : W p l e R s m as.toArray below meth c H locs 0 0 (xs_E below D ad cs as s (some (.long v)) μ2) (F0 m pc ls [.long v]) :=
  W.lret hx hb hr (fun t ht hW => ⟨rfl, by rw [ht]; exact G.2.1, G.2.2.2.1.F ht⟩) G.2.2.2.1.2.2 hdg hlk
theorem xs_vret (hx : p.tables.exec = Jvm.exec) (hb : c.code = cc) (hr : meth.sig.returnType = none) (hlk : meth.locks = false) (G : xs_G D ad cs s (xs_A ad s.heap.size) s.heap μ2 H locs) (hdg : decode cc pc = .ok (.return_, 1)) : W p l e R s m as.toArray below meth c H locs 0 0 (xs_E below D ad cs as s none μ2) (F0 m pc ls []) :=
  W.vret hx hb hr (fun t ht hW => ⟨rfl, by rw [ht]; exact G.2.1, G.2.2.2.1.F ht⟩) G.2.2.2.1.2.2 hdg hlk
/-! calls -/
def xs_kS (own : String) (idx : Nat) (y : MethodName) (bc : ByteArray) (mL : Nat) (rt : Option FieldType) (n : Nat) : Prop := Cond.methodLink own idx y ∈ xs_TG ∧ Cond.static y ∈ xs_TG ∧ Cond.initialized y.cls ∈ xs_TG ∧ Cond.code y bc mL rt ∈ xs_TG ∧ (y.cls ≠ "java/lang/invoke/MethodHandle" ∧ y.cls ≠ "java/lang/invoke/VarHandle" ∧ (parseMethodDescriptor y.desc).map (fun d => d.parameters.length) = some n)
def xs_kSN (own : String) (idx : Nat) (y : MethodName) (host : String) (bc : ByteArray) (mL : Nat) (rt : Option FieldType) (n : Nat) : Prop := Cond.methodLinkNest own idx y host ∈ xs_NW ∧ Cond.static y ∈ xs_TG ∧ Cond.initialized y.cls ∈ xs_TG ∧ Cond.code y bc mL rt ∈ xs_TG ∧ (y.cls ≠ "java/lang/invoke/MethodHandle" ∧ y.cls ≠ "java/lang/invoke/VarHandle" ∧ (parseMethodDescriptor y.desc).map (fun d => d.parameters.length) = some n)
def xs_kV (own : String) (idx : Nat) (y : MethodName) (bc : ByteArray) (mL : Nat) (rt : Option FieldType) (n : Nat) : Prop := Cond.methodLink own idx y ∈ xs_TG ∧ (Cond.instanceMethod y ∈ xs_TG ∧ Cond.selects y.cls y y ∈ xs_TG) ∧ Cond.initialized y.cls ∈ xs_TG ∧ Cond.code y bc mL rt ∈ xs_TG ∧ (y.cls ≠ "java/lang/invoke/MethodHandle" ∧ y.cls ≠ "java/lang/invoke/VarHandle" ∧ (parseMethodDescriptor y.desc).map (fun d => d.parameters.length) = some n)
def xs_kVN (own : String) (idx : Nat) (y : MethodName) (host : String) (bc : ByteArray) (mL : Nat) (rt : Option FieldType) (n : Nat) : Prop := Cond.methodLinkNest own idx y host ∈ xs_NW ∧ (Cond.instanceMethod y ∈ xs_TG ∧ Cond.selects y.cls y y ∈ xs_TG) ∧ Cond.initialized y.cls ∈ xs_TG ∧ Cond.code y bc mL rt ∈ xs_TG ∧ (y.cls ≠ "java/lang/invoke/MethodHandle" ∧ y.cls ≠ "java/lang/invoke/VarHandle" ∧ (parseMethodDescriptor y.desc).map (fun d => d.parameters.length) = some n)
theorem xs_blind {sz : Nat} : FrameBlind (va_Pc as (xs_Pre D ad cs μ sz)) := fun a U g mk q => by
  obtain ⟨q0, q1, qP, qK, qN⟩ := q
  exact ⟨q0, q1, qP, va_K.moved (u := U) (U := U.calling g mk a) (Vm.Alike.refl U.vm) qK, xs_nwarm (s := U) (U := U.calling g mk a) (State.WarmedH.refl U) qN⟩
theorem xs_pre (X : xs_C p s m c cc nL args own) (G : xs_G D ad cs s A H0 μ H locs) : PreS s H (va_Pc as (xs_Pre D ad cs μ H.size)) as :=
  ⟨xs_blind, fun U hU hW => ⟨rfl, by rw [hU], by rw [hU]; exact G.2.1, va_K.moved hW.alike G.1, xs_nwarm hW X.2.2.2.2.2⟩⟩
theorem xs_after {r : Option Value} {aa : Array Value} (hr : va_Run p l e R s m args below meth c H locs cells slots 0 0 (F0 m pc ls st0) rest (xs_Q D ad cs r μ2 H.size aa) (xs_A ad H.size)) (G : xs_G D ad cs s A H0 μ H locs)
    (kk : ∀ (H1 : Heap) (locs1 : List Loc), xs_G D ad cs s A H0 μ2 H1 locs1 → W p l e R s m args below meth c H1 locs1 cells slots Q (F0 m (pc + 3) ls (r.toList ++ rest))) : W p l e R s m args below meth c H locs cells slots Q (F0 m pc ls st0) := by
  intro T hT X
  obtain ⟨v, st₀, t, T', L, h0, X', hL, e1, e2, ⟨hv, hP, hz, hk⟩, st⟩ := hr T hT X
  cases hv
  rw [h0] at hz hk
  obtain ⟨hK, -, ⟨hJ, hAd⟩, hS, hA⟩ := G
  have hfree : ∀ q, xs_A ad H.size q → A q := fun q h => by
    rcases h with ⟨i, hi, rfl⟩ | h
    · exact hAd i hi
    · exact hA q (Nat.le_trans hS.1 h)
  obtain ⟨t2, a1, b1⟩ := kk T'.heap (locs ++ L) ⟨hK, by rw [e1]; exact hP, ⟨hJ, hAd⟩, ⟨Nat.le_trans hS.1 (by rw [e1]; exact hz), fun q h1 h2 => by rw [e1, hk q (Nat.lt_of_lt_of_le h1 hS.1) (fun z => h2 (hfree q z))]; exact hS.2.1 q h1 h2, fun q hq => by
      rcases List.mem_append.mp hq with h | h
      · exact hS.2.2 q h
      · exact hfree _ (hL q h)⟩, hA⟩ T' rfl X'
  exact ⟨t2, st t2 a1, b1⟩
theorem xs_callS {y : MethodName} {bc : ByteArray} {mL d w n idx : Nat} {rt : Option FieldType} {r : Option Value} (X : xs_C p s m c cc nL args own) (hM : xs_I l D ad cs y bc mL rt d w as μ r μ2) (hk : xs_kS own idx y bc mL rt n) (G : xs_G D ad cs s A H0 μ H locs) (hR : d + 1 ≤ R.frames ∧ 8 + (mL + 11) + w ≤ R.locals) (hc : cells ≤ R.cells ∧ slots ≤ R.slots) (hn : as.length = n) (hsz : ls.size = nL) (hst : st0 = as.reverse ++ rest) (hcat : (rest.map fun v => v.category).sum ≤ 8) (hdg : decode cc pc = .ok (.invokestatic idx, 3))
    (kk : ∀ (H1 : Heap) (locs1 : List Loc), xs_G D ad cs s A H0 μ2 H1 locs1 → W p l e R s m args below meth c H1 locs1 cells slots Q (F0 m (pc + 3) ls (r.toList ++ rest))) : W p l e R s m args below meth c H locs cells slots Q (F0 m pc ls st0) := by
  obtain ⟨w1, w2, w3, w4, hd⟩ := hk
  have hts := X.2.2.2.2.1
  exact xs_after (va_runS (nL := nL) (n := n) (As := as) (rest := rest) (g := F0 m pc ls st0) ⟨X.1, X.2.1, X.2.2.1, X.2.2.2.1, hts⟩ (hM H.size) ⟨callB_of n hts (xs_good w4) rfl rfl rfl (hts _ w3) (hts _ w1) hd hR, hts _ w2⟩ (xs_pre X G) rfl hn hsz hst (lv_room hcat) hdg hc) G kk
theorem xs_callSN {y : MethodName} {host : String} {bc : ByteArray} {mL d w n idx : Nat} {rt : Option FieldType} {r : Option Value} (X : xs_C p s m c cc nL args own) (hM : xs_I l D ad cs y bc mL rt d w as μ r μ2) (hk : xs_kSN own idx y host bc mL rt n) (G : xs_G D ad cs s A H0 μ H locs) (hR : d + 1 ≤ R.frames ∧ 8 + (mL + 11) + w ≤ R.locals) (hc : cells ≤ R.cells ∧ slots ≤ R.slots) (hn : as.length = n) (hsz : ls.size = nL) (hst : st0 = as.reverse ++ rest) (hcat : (rest.map fun v => v.category).sum ≤ 8) (hdg : decode cc pc = .ok (.invokestatic idx, 3))
    (kk : ∀ (H1 : Heap) (locs1 : List Loc), xs_G D ad cs s A H0 μ2 H1 locs1 → W p l e R s m args below meth c H1 locs1 cells slots Q (F0 m (pc + 3) ls (r.toList ++ rest))) : W p l e R s m args below meth c H locs cells slots Q (F0 m pc ls st0) := by
  obtain ⟨w1, w2, w3, w4, hd⟩ := hk
  have hts := X.2.2.2.2.1
  exact xs_after (va_runSN (nL := nL) (n := n) (As := as) (rest := rest) (g := F0 m pc ls st0) ⟨X.1, X.2.1, X.2.2.1, X.2.2.2.1, hts⟩ (hM H.size) ⟨va_cnB n hts (xs_good w4) rfl rfl rfl (X.2.2.2.2.2 _ w1) (hts _ w3) hd hR, hts _ w2, trivial⟩ (xs_pre X G) rfl hn hsz hst (lv_room hcat) hdg hc) G kk
theorem xs_preV {q ci : Nat} {fs : List Value} {C : String} {T : u_T} {N : Nat} (X : xs_C p s m c cc nL args own) (G : xs_G D ad cs s A H0 μ H locs) (hq : (xs_W ad cs μ)[q]? = some (ad q, .inr (ci, fs))) (hci : classes[ci]? = some (C, T, N)) : PreV s H C (ad q) (va_Pc (.ref (ad q) :: as) (xs_Pre D ad cs μ H.size)) as :=
  ⟨xs_blind, va_recv G.1 G.2.1 hci hq, (xs_pre X G).2⟩
theorem xs_callV {y : MethodName} {bc : ByteArray} {mL d w n idx q ci N : Nat} {fs : List Value} {T : u_T} {rt : Option FieldType} {r : Option Value} (X : xs_C p s m c cc nL args own) (hM : xs_I l D ad cs y bc mL rt d w (.ref (ad q) :: as) μ r μ2) (hk : xs_kV own idx y bc mL rt n) (G : xs_G D ad cs s A H0 μ H locs) (hq : (xs_W ad cs μ)[q]? = some (ad q, .inr (ci, fs))) (hci : classes[ci]? = some (y.cls, T, N)) (hR : d + 1 ≤ R.frames ∧ 8 + (mL + 11) + w ≤ R.locals) (hc : cells ≤ R.cells ∧ slots ≤ R.slots) (hn : as.length = n) (hsz : ls.size = nL) (hst : st0 = as.reverse ++ .ref (ad q) :: rest) (hcat : (rest.map fun v => v.category).sum ≤ 8) (hdg : decode cc pc = .ok (.invokevirtual idx, 3))
    (kk : ∀ (H1 : Heap) (locs1 : List Loc), xs_G D ad cs s A H0 μ2 H1 locs1 → W p l e R s m args below meth c H1 locs1 cells slots Q (F0 m (pc + 3) ls (r.toList ++ rest))) : W p l e R s m args below meth c H locs cells slots Q (F0 m pc ls st0) := by
  obtain ⟨w1, ⟨w2, w5⟩, w3, w4, hd⟩ := hk
  have hts := X.2.2.2.2.1
  exact xs_after (va_runV (nL := nL) (n := n) (C := y.cls) (As := as) (rest := rest) (g := F0 m pc ls st0) ⟨X.1, X.2.1, X.2.2.1, X.2.2.2.1, hts⟩ (hM H.size) ⟨callB_of n hts (xs_good w4) rfl rfl rfl (hts _ w3) (hts _ w1) hd hR, hts _ w2, hts _ w5⟩ (xs_preV X G hq hci) rfl hn hsz hst (lv_room hcat) hdg hc) G kk
theorem xs_callVN {y : MethodName} {host : String} {bc : ByteArray} {mL d w n idx q ci N : Nat} {fs : List Value} {T : u_T} {rt : Option FieldType} {r : Option Value} (X : xs_C p s m c cc nL args own) (hM : xs_I l D ad cs y bc mL rt d w (.ref (ad q) :: as) μ r μ2) (hk : xs_kVN own idx y host bc mL rt n) (G : xs_G D ad cs s A H0 μ H locs) (hq : (xs_W ad cs μ)[q]? = some (ad q, .inr (ci, fs))) (hci : classes[ci]? = some (y.cls, T, N)) (hR : d + 1 ≤ R.frames ∧ 8 + (mL + 11) + w ≤ R.locals) (hc : cells ≤ R.cells ∧ slots ≤ R.slots) (hn : as.length = n) (hsz : ls.size = nL) (hst : st0 = as.reverse ++ .ref (ad q) :: rest) (hcat : (rest.map fun v => v.category).sum ≤ 8) (hdg : decode cc pc = .ok (.invokevirtual idx, 3))
    (kk : ∀ (H1 : Heap) (locs1 : List Loc), xs_G D ad cs s A H0 μ2 H1 locs1 → W p l e R s m args below meth c H1 locs1 cells slots Q (F0 m (pc + 3) ls (r.toList ++ rest))) : W p l e R s m args below meth c H locs cells slots Q (F0 m pc ls st0) := by
  obtain ⟨w1, ⟨w2, w5⟩, w3, w4, hd⟩ := hk
  have hts := X.2.2.2.2.1
  exact xs_after (va_runVN (nL := nL) (n := n) (C := y.cls) (As := as) (rest := rest) (g := F0 m pc ls st0) ⟨X.1, X.2.1, X.2.2.1, X.2.2.2.1, hts⟩ (hM H.size) ⟨va_cnB n hts (xs_good w4) rfl rfl rfl (X.2.2.2.2.2 _ w1) (hts _ w3) hd hR, hts _ w2, hts _ w5⟩ (xs_preV X G hq hci) rfl hn hsz hst (lv_room hcat) hdg hc) G kk
end XSR
/-! small rows that the walks use -/
def xs_in (i : Int32) (L : Nat) : Bool := !(decide (i < 0) || decide (L ≤ i.toNatClampNeg))
theorem xs_inP {i : Int32} {L : Nat} (h : xs_in i L = true) : vp_in i L := by
  unfold xs_in at h
  unfold vp_in
  simpa using h
theorem xs_inL {i : Int32} {L : Nat} (h : xs_in i L = true) : i.toNatClampNeg < L := Nat.not_le.mp fun q => xs_inP h (Or.inr q)
theorem xs_inc (x : Int32) : x + Int32.ofInt 1 = x + 1 := by rw [show Int32.ofInt 1 = 1 by decide]
theorem xs_el {α β γ : Type} {f : α → γ} {g : β → γ} {z : α ⊕ β} {r : γ} {a : α} (h : Sum.elim f g z = r) (e : z = .inl a) : f a = r := by rw [e] at h; exact h
theorem xs_er {α β γ : Type} {f : α → γ} {g : β → γ} {z : α ⊕ β} {r : γ} {b : β} (h : Sum.elim f g z = r) (e : z = .inr b) : g b = r := by rw [e] at h; exact h
def xs_FU : Nat := 1000
def xs_FUB : Nat := 18446744073709551616
theorem xs_mv {D : va_G} {ad : Nat → Nat} {cs : xs_cs} {s : State} {A : Nat → Prop} {H0 : Heap} {μ μ1 : xs_M} {H : Heap} {locs : List Loc} (G : xs_G D ad cs s A H0 μ H locs) (h : some μ = some μ1) : xs_G D ad cs s A H0 μ1 H locs := by cases h; exact G
theorem xs_fi {μ μ1 : xs_M} {i j : Nat} {x : Int32} (h : some (xs_si μ i j x) = some μ1) : μ1.1 i j = x := by
  cases h
  simp [xs_si, va_up, upd]
section XSN
variable {p : Program} {l : Launch} {e : Env} {R : Room} {s : State} {m : MethodId} {args : Array Value} {below : List Frame} {meth : Method} {c : Code} {H : Heap} {locs : List Loc} {cells slots : Nat} {Q : State → Prop}
variable {cc : ByteArray} {pc : Nat} {ls : Array Slot} {rest st0 : List Value} {D : va_G} {ad : Nat → Nat} {cs : xs_cs} {A : Nat → Prop} {H0 : Heap} {μ μ2 : xs_M} {as : List Value} {nL : Nat} {own : String}
theorem xs_ti {x y : Int32} (h : some x = some y) (k : W p l e R s m args below meth c H locs cells slots Q (F0 m pc ls (.int y :: rest))) : W p l e R s m args below meth c H locs cells slots Q (F0 m pc ls (.int x :: rest)) := by cases h; exact k
theorem xs_tl {x y : Int64} (h : some x = some y) (k : W p l e R s m args below meth c H locs cells slots Q (F0 m pc ls (.long y :: rest))) : W p l e R s m args below meth c H locs cells slots Q (F0 m pc ls (.long x :: rest)) := by cases h; exact k
theorem xs_tq {x y : Int32} (h : x = y) (k : W p l e R s m args below meth c H locs cells slots Q (F0 m pc ls (.int y :: rest))) : W p l e R s m args below meth c H locs cells slots Q (F0 m pc ls (.int x :: rest)) := by cases h; exact k
/-! fields -/
theorem xs_get1 {C : String} {T : u_T} {N ci q k idx : Nat} {fs : List Value} {v : Value} (X : xs_C p s m c cc nL args own) (G : xs_G D ad cs s A H0 μ H locs) (hin : ∀ w ∈ u_ws C T N, w ∈ xs_TG) (hq : (xs_W ad cs μ)[q]? = some (ad q, .inr (ci, fs))) (hci : classes[ci]? = some (C, T, N)) (hk : k < N) (w : Cond.fieldLink own idx (T k).1 (T k).2.1 (T k).2.2.1 ∈ xs_TG) (hv : fs[k]? = some v) (hdg : decode cc pc = .ok (.getfield idx, 3))
    (kk : W p l e R s m args below meth c H locs cells slots Q (F0 m (pc + 3) ls (v :: rest))) : W p l e R s m args below meth c H locs cells slots Q (F0 m pc ls (.ref (ad q) :: rest)) :=
  va_get (D := D) (ci := ci) (C := C) (T := T) (N := N) (ref := (T k).1) X.1 X.2.1 X.2.2.2.2.1 hin X.2.2.2.1 G.1 G.2.1 q hq hci k hk (X.2.2.2.2.1 _ w) (fun _ h => h) hv hdg kk
theorem xs_get1N {host C : String} {T : u_T} {N ci q k idx : Nat} {fs : List Value} {v : Value} (X : xs_C p s m c cc nL args own) (G : xs_G D ad cs s A H0 μ H locs) (hin : ∀ w ∈ u_ws C T N, w ∈ xs_TG) (hq : (xs_W ad cs μ)[q]? = some (ad q, .inr (ci, fs))) (hci : classes[ci]? = some (C, T, N)) (hk : k < N) (w : Cond.fieldLinkNest own idx (T k).1 (T k).2.1 (T k).2.2.1 host ∈ xs_NW) (hv : fs[k]? = some v) (hdg : decode cc pc = .ok (.getfield idx, 3))
    (kk : W p l e R s m args below meth c H locs cells slots Q (F0 m (pc + 3) ls (v :: rest))) : W p l e R s m args below meth c H locs cells slots Q (F0 m pc ls (.ref (ad q) :: rest)) :=
  va_getN (D := D) (ci := ci) (C := C) (T := T) (N := N) (ref := (T k).1) (host := host) X.1 X.2.1 X.2.2.2.2.1 hin X.2.2.2.1 G.1 G.2.1 q hq hci k hk (va_Nw.use rfl (X.2.2.2.2.2 _ w)) (fun _ h => h) hv hdg kk
theorem xs_put1 {C : String} {T : u_T} {N ci q k idx : Nat} {fs : List Value} {v : Value} {ty0 : Nat → FieldType} {ty : FieldType} (X : xs_C p s m c cc nL args own) (G : xs_G D ad cs s A H0 μ H locs) (hin : ∀ w ∈ u_ws C T N, w ∈ xs_TG) (hty : ∀ k, k < N → parseFieldDescriptor (T k).2.2.1 = some (ty0 k)) (hnm : ∀ a, a < N → ∀ b, b < N → a ≠ b → (T a).2.1 ≠ (T b).2.1) (hq : (xs_W ad cs μ)[q]? = some (ad q, .inr (ci, fs))) (hci : classes[ci]? = some (C, T, N)) (hk : k < N) (w : Cond.fieldLink own idx (T k).1 (T k).2.1 (T k).2.2.1 ∈ xs_TG) (hfin : (T k).2.2.2 = false) (hd : parseFieldDescriptor (T k).2.2.1 = some ty) (hn : narrow ty v = v) (hfit : fits ty v = true) (hl : k < fs.length) (hs : (xs_W ad cs μ).set q (ad q, .inr (ci, fs.set k v)) = xs_W ad cs μ2) (hdg : decode cc pc = .ok (.putfield idx, 3))
    (kk : ∀ (H1 : Heap) (locs1 : List Loc), xs_G D ad cs s A H0 μ2 H1 locs1 → W p l e R s m args below meth c H1 locs1 cells slots Q (F0 m (pc + 3) ls rest)) : W p l e R s m args below meth c H locs cells slots Q (F0 m pc ls (v :: .ref (ad q) :: rest)) := by
  refine va_put (D := D) (ci := ci) (C := C) (T := T) (N := N) (ref := (T k).1) X.1 X.2.1 X.2.2.2.2.1 hin ty0 hty hnm X.2.2.2.1 G.1 G.2.1 (xs_GD G μ) G.2.2.2.1 q hq hci k hk (X.2.2.2.2.1 _ w) (fun _ h => h) hfin hd hn hfit hl hdg (fun H1 l1 hP hD hS => kk H1 l1 ⟨G.1, ?_, G.2.2.1, hS, G.2.2.2.2⟩)
  rw [hs] at hP
  exact hP
/-! calls whose answer is a value, or none -/
theorem xs_callSr {y : MethodName} {bc : ByteArray} {mL d w n idx : Nat} {rt : Option FieldType} {r : Value} (X : xs_C p s m c cc nL args own) (hM : xs_I l D ad cs y bc mL rt d w as μ (some r) μ2) (hk : xs_kS own idx y bc mL rt n) (G : xs_G D ad cs s A H0 μ H locs) (hR : d + 1 ≤ R.frames ∧ 8 + (mL + 11) + w ≤ R.locals) (hc : cells ≤ R.cells ∧ slots ≤ R.slots) (hn : as.length = n) (hsz : ls.size = nL) (hst : st0 = as.reverse ++ rest) (hcat : (rest.map fun v => v.category).sum ≤ 8) (hdg : decode cc pc = .ok (.invokestatic idx, 3))
    (kk : ∀ (H1 : Heap) (locs1 : List Loc), xs_G D ad cs s A H0 μ2 H1 locs1 → W p l e R s m args below meth c H1 locs1 cells slots Q (F0 m (pc + 3) ls (r :: rest))) : W p l e R s m args below meth c H locs cells slots Q (F0 m pc ls st0) := xs_callS X hM hk G hR hc hn hsz hst hcat hdg kk
theorem xs_callSNr {y : MethodName} {host : String} {bc : ByteArray} {mL d w n idx : Nat} {rt : Option FieldType} {r : Value} (X : xs_C p s m c cc nL args own) (hM : xs_I l D ad cs y bc mL rt d w as μ (some r) μ2) (hk : xs_kSN own idx y host bc mL rt n) (G : xs_G D ad cs s A H0 μ H locs) (hR : d + 1 ≤ R.frames ∧ 8 + (mL + 11) + w ≤ R.locals) (hc : cells ≤ R.cells ∧ slots ≤ R.slots) (hn : as.length = n) (hsz : ls.size = nL) (hst : st0 = as.reverse ++ rest) (hcat : (rest.map fun v => v.category).sum ≤ 8) (hdg : decode cc pc = .ok (.invokestatic idx, 3))
    (kk : ∀ (H1 : Heap) (locs1 : List Loc), xs_G D ad cs s A H0 μ2 H1 locs1 → W p l e R s m args below meth c H1 locs1 cells slots Q (F0 m (pc + 3) ls (r :: rest))) : W p l e R s m args below meth c H locs cells slots Q (F0 m pc ls st0) := xs_callSN X hM hk G hR hc hn hsz hst hcat hdg kk
theorem xs_callVr {y : MethodName} {bc : ByteArray} {mL d w n idx q ci N : Nat} {fs : List Value} {T : u_T} {rt : Option FieldType} {r : Value} (X : xs_C p s m c cc nL args own) (hM : xs_I l D ad cs y bc mL rt d w (.ref (ad q) :: as) μ (some r) μ2) (hk : xs_kV own idx y bc mL rt n) (G : xs_G D ad cs s A H0 μ H locs) (hq : (xs_W ad cs μ)[q]? = some (ad q, .inr (ci, fs))) (hci : classes[ci]? = some (y.cls, T, N)) (hR : d + 1 ≤ R.frames ∧ 8 + (mL + 11) + w ≤ R.locals) (hc : cells ≤ R.cells ∧ slots ≤ R.slots) (hn : as.length = n) (hsz : ls.size = nL) (hst : st0 = as.reverse ++ .ref (ad q) :: rest) (hcat : (rest.map fun v => v.category).sum ≤ 8) (hdg : decode cc pc = .ok (.invokevirtual idx, 3))
    (kk : ∀ (H1 : Heap) (locs1 : List Loc), xs_G D ad cs s A H0 μ2 H1 locs1 → W p l e R s m args below meth c H1 locs1 cells slots Q (F0 m (pc + 3) ls (r :: rest))) : W p l e R s m args below meth c H locs cells slots Q (F0 m pc ls st0) := xs_callV X hM hk G hq hci hR hc hn hsz hst hcat hdg kk
theorem xs_callVNr {y : MethodName} {host : String} {bc : ByteArray} {mL d w n idx q ci N : Nat} {fs : List Value} {T : u_T} {rt : Option FieldType} {r : Value} (X : xs_C p s m c cc nL args own) (hM : xs_I l D ad cs y bc mL rt d w (.ref (ad q) :: as) μ (some r) μ2) (hk : xs_kVN own idx y host bc mL rt n) (G : xs_G D ad cs s A H0 μ H locs) (hq : (xs_W ad cs μ)[q]? = some (ad q, .inr (ci, fs))) (hci : classes[ci]? = some (y.cls, T, N)) (hR : d + 1 ≤ R.frames ∧ 8 + (mL + 11) + w ≤ R.locals) (hc : cells ≤ R.cells ∧ slots ≤ R.slots) (hn : as.length = n) (hsz : ls.size = nL) (hst : st0 = as.reverse ++ .ref (ad q) :: rest) (hcat : (rest.map fun v => v.category).sum ≤ 8) (hdg : decode cc pc = .ok (.invokevirtual idx, 3))
    (kk : ∀ (H1 : Heap) (locs1 : List Loc), xs_G D ad cs s A H0 μ2 H1 locs1 → W p l e R s m args below meth c H1 locs1 cells slots Q (F0 m (pc + 3) ls (r :: rest))) : W p l e R s m args below meth c H locs cells slots Q (F0 m pc ls st0) := xs_callVN X hM hk G hq hci hR hc hn hsz hst hcat hdg kk
theorem xs_callVv {y : MethodName} {bc : ByteArray} {mL d w n idx q ci N : Nat} {fs : List Value} {T : u_T} {rt : Option FieldType} (X : xs_C p s m c cc nL args own) (hM : xs_I l D ad cs y bc mL rt d w (.ref (ad q) :: as) μ none μ2) (hk : xs_kV own idx y bc mL rt n) (G : xs_G D ad cs s A H0 μ H locs) (hq : (xs_W ad cs μ)[q]? = some (ad q, .inr (ci, fs))) (hci : classes[ci]? = some (y.cls, T, N)) (hR : d + 1 ≤ R.frames ∧ 8 + (mL + 11) + w ≤ R.locals) (hc : cells ≤ R.cells ∧ slots ≤ R.slots) (hn : as.length = n) (hsz : ls.size = nL) (hst : st0 = as.reverse ++ .ref (ad q) :: rest) (hcat : (rest.map fun v => v.category).sum ≤ 8) (hdg : decode cc pc = .ok (.invokevirtual idx, 3))
    (kk : ∀ (H1 : Heap) (locs1 : List Loc), xs_G D ad cs s A H0 μ2 H1 locs1 → W p l e R s m args below meth c H1 locs1 cells slots Q (F0 m (pc + 3) ls rest)) : W p l e R s m args below meth c H locs cells slots Q (F0 m pc ls st0) := xs_callV X hM hk G hq hci hR hc hn hsz hst hcat hdg kk
theorem xs_callVNv {y : MethodName} {host : String} {bc : ByteArray} {mL d w n idx q ci N : Nat} {fs : List Value} {T : u_T} {rt : Option FieldType} (X : xs_C p s m c cc nL args own) (hM : xs_I l D ad cs y bc mL rt d w (.ref (ad q) :: as) μ none μ2) (hk : xs_kVN own idx y host bc mL rt n) (G : xs_G D ad cs s A H0 μ H locs) (hq : (xs_W ad cs μ)[q]? = some (ad q, .inr (ci, fs))) (hci : classes[ci]? = some (y.cls, T, N)) (hR : d + 1 ≤ R.frames ∧ 8 + (mL + 11) + w ≤ R.locals) (hc : cells ≤ R.cells ∧ slots ≤ R.slots) (hn : as.length = n) (hsz : ls.size = nL) (hst : st0 = as.reverse ++ .ref (ad q) :: rest) (hcat : (rest.map fun v => v.category).sum ≤ 8) (hdg : decode cc pc = .ok (.invokevirtual idx, 3))
    (kk : ∀ (H1 : Heap) (locs1 : List Loc), xs_G D ad cs s A H0 μ2 H1 locs1 → W p l e R s m args below meth c H1 locs1 cells slots Q (F0 m (pc + 3) ls rest)) : W p l e R s m args below meth c H locs cells slots Q (F0 m pc ls st0) := xs_callVN X hM hk G hq hci hR hc hn hsz hst hcat hdg kk
end XSN
end
section
/-! words of the tables -/
theorem wi_J : Cond.initialized "java/lang/Math" ∈ xs_TG := xs_tg 15 (by decide +kernel) (by decide +kernel)
theorem wi_S : Cond.initialized "ExactScene" ∈ xs_TG := xs_tg 1 (by decide +kernel) (by decide +kernel)
theorem wi_M : Cond.initialized "ExactScene$Matrices" ∈ xs_TG := xs_tg 2 (by decide +kernel) (by decide +kernel)
theorem wi_T : Cond.initialized "ExactScene$Triangle" ∈ xs_TG := xs_tg 5 (by decide +kernel) (by decide +kernel)
theorem wi_X : Cond.initialized "ExactScene$Textures" ∈ xs_TG := xs_tg 3 (by decide +kernel) (by decide +kernel)
theorem wi_P : Cond.initialized "ExactScene$Picture" ∈ xs_TG := xs_tg 4 (by decide +kernel) (by decide +kernel)
theorem wi_R : Cond.initialized "ExactSceneModel" ∈ xs_TG := xs_tg 6 (by decide +kernel) (by decide +kernel)
theorem wc_J_floorDiv : Cond.code y_J_floorDiv b_J_floorDiv 6 (some .long) ∈ xs_TG := xs_tg 235 (by decide +kernel) (by decide +kernel)
theorem ws_J_floorDiv : Cond.static y_J_floorDiv ∈ xs_TG := xs_tg 234 (by decide +kernel) (by decide +kernel)
theorem wc_J_floorMod : Cond.code y_J_floorMod b_J_floorMod 6 (some .long) ∈ xs_TG := xs_tg 242 (by decide +kernel) (by decide +kernel)
theorem ws_J_floorMod : Cond.static y_J_floorMod ∈ xs_TG := xs_tg 241 (by decide +kernel) (by decide +kernel)
theorem wc_J_max : Cond.code y_J_max b_J_max 4 (some .long) ∈ xs_TG := xs_tg 249 (by decide +kernel) (by decide +kernel)
theorem ws_J_max : Cond.static y_J_max ∈ xs_TG := xs_tg 248 (by decide +kernel) (by decide +kernel)
theorem wc_J_min : Cond.code y_J_min b_J_min 4 (some .long) ∈ xs_TG := xs_tg 246 (by decide +kernel) (by decide +kernel)
theorem ws_J_min : Cond.static y_J_min ∈ xs_TG := xs_tg 245 (by decide +kernel) (by decide +kernel)
theorem wc_S_isWithin : Cond.code y_S_isWithin b_S_isWithin 3 (some .boolean) ∈ xs_TG := xs_tg 162 (by decide +kernel) (by decide +kernel)
theorem ws_S_isWithin : Cond.static y_S_isWithin ∈ xs_TG := xs_tg 161 (by decide +kernel) (by decide +kernel)
theorem wc_M_isLine : Cond.code y_M_isLine b_M_isLine 1 (some .boolean) ∈ xs_TG := xs_tg 267 (by decide +kernel) (by decide +kernel)
theorem ws_M_isLine : Cond.static y_M_isLine ∈ xs_TG := xs_tg 266 (by decide +kernel) (by decide +kernel)
theorem wc_M_isEntry : Cond.code y_M_isEntry b_M_isEntry 2 (some .boolean) ∈ xs_TG := xs_tg 340 (by decide +kernel) (by decide +kernel)
theorem ws_M_isEntry : Cond.static y_M_isEntry ∈ xs_TG := xs_tg 339 (by decide +kernel) (by decide +kernel)
theorem wc_M_setRow : Cond.code y_M_setRow b_M_setRow 6 none ∈ xs_TG := xs_tg 347 (by decide +kernel) (by decide +kernel)
theorem ws_M_setRow : Cond.instanceMethod y_M_setRow ∈ xs_TG := xs_tg 345 (by decide +kernel) (by decide +kernel)
theorem wl_M_setRow : Cond.selects "ExactScene$Matrices" y_M_setRow y_M_setRow ∈ xs_TG := xs_tg 346 (by decide +kernel) (by decide +kernel)
theorem wc_S_row : Cond.code y_S_row b_S_row 6 none ∈ xs_TG := xs_tg 264 (by decide +kernel) (by decide +kernel)
theorem ws_S_row : Cond.instanceMethod y_S_row ∈ xs_TG := xs_tg 262 (by decide +kernel) (by decide +kernel)
theorem wl_S_row : Cond.selects "ExactScene" y_S_row y_S_row ∈ xs_TG := xs_tg 263 (by decide +kernel) (by decide +kernel)
theorem wc_M_setDiagonalFactor : Cond.code y_M_setDiagonalFactor b_M_setDiagonalFactor 5 none ∈ xs_TG := xs_tg 363 (by decide +kernel) (by decide +kernel)
theorem ws_M_setDiagonalFactor : Cond.instanceMethod y_M_setDiagonalFactor ∈ xs_TG := xs_tg 362 (by decide +kernel) (by decide +kernel)
theorem wl_M_setDiagonalFactor : Cond.selects "ExactScene$Matrices" y_M_setDiagonalFactor y_M_setDiagonalFactor ∈ xs_TG := xs_tp 7 (by decide +kernel) (by decide +kernel)
theorem wc_M_multiply : Cond.code y_M_multiply b_M_multiply 9 (some .boolean) ∈ xs_TG := xs_tg 367 (by decide +kernel) (by decide +kernel)
theorem ws_M_multiply : Cond.instanceMethod y_M_multiply ∈ xs_TG := xs_tg 366 (by decide +kernel) (by decide +kernel)
theorem wl_M_multiply : Cond.selects "ExactScene$Matrices" y_M_multiply y_M_multiply ∈ xs_TG := xs_tp 8 (by decide +kernel) (by decide +kernel)
theorem wc_M_multiplyByMove : Cond.code y_M_multiplyByMove b_M_multiplyByMove 4 (some .boolean) ∈ xs_TG := xs_tg 359 (by decide +kernel) (by decide +kernel)
theorem ws_M_multiplyByMove : Cond.instanceMethod y_M_multiplyByMove ∈ xs_TG := xs_tg 357 (by decide +kernel) (by decide +kernel)
theorem wl_M_multiplyByMove : Cond.selects "ExactScene$Matrices" y_M_multiplyByMove y_M_multiplyByMove ∈ xs_TG := xs_tg 358 (by decide +kernel) (by decide +kernel)
theorem wc_S_move : Cond.code y_S_move b_S_move 4 none ∈ xs_TG := xs_tg 355 (by decide +kernel) (by decide +kernel)
theorem ws_S_move : Cond.instanceMethod y_S_move ∈ xs_TG := xs_tg 353 (by decide +kernel) (by decide +kernel)
theorem wl_S_move : Cond.selects "ExactScene" y_S_move y_S_move ∈ xs_TG := xs_tg 354 (by decide +kernel) (by decide +kernel)
theorem wc_M_multiplyByStretch : Cond.code y_M_multiplyByStretch b_M_multiplyByStretch 4 (some .boolean) ∈ xs_TG := xs_tg 398 (by decide +kernel) (by decide +kernel)
theorem ws_M_multiplyByStretch : Cond.instanceMethod y_M_multiplyByStretch ∈ xs_TG := xs_tg 396 (by decide +kernel) (by decide +kernel)
theorem wl_M_multiplyByStretch : Cond.selects "ExactScene$Matrices" y_M_multiplyByStretch y_M_multiplyByStretch ∈ xs_TG := xs_tg 397 (by decide +kernel) (by decide +kernel)
theorem wc_S_stretch : Cond.code y_S_stretch b_S_stretch 4 none ∈ xs_TG := xs_tg 394 (by decide +kernel) (by decide +kernel)
theorem ws_S_stretch : Cond.instanceMethod y_S_stretch ∈ xs_TG := xs_tg 392 (by decide +kernel) (by decide +kernel)
theorem wl_S_stretch : Cond.selects "ExactScene" y_S_stretch y_S_stretch ∈ xs_TG := xs_tg 393 (by decide +kernel) (by decide +kernel)
theorem wc_M_quarterTurn : Cond.code y_M_quarterTurn b_M_quarterTurn 5 none ∈ xs_TG := xs_tg 410 (by decide +kernel) (by decide +kernel)
theorem ws_M_quarterTurn : Cond.instanceMethod y_M_quarterTurn ∈ xs_TG := xs_tg 408 (by decide +kernel) (by decide +kernel)
theorem wl_M_quarterTurn : Cond.selects "ExactScene$Matrices" y_M_quarterTurn y_M_quarterTurn ∈ xs_TG := xs_tg 409 (by decide +kernel) (by decide +kernel)
theorem wc_S_turn : Cond.code y_S_turn b_S_turn 2 none ∈ xs_TG := xs_tg 405 (by decide +kernel) (by decide +kernel)
theorem ws_S_turn : Cond.instanceMethod y_S_turn ∈ xs_TG := xs_tg 403 (by decide +kernel) (by decide +kernel)
theorem wl_S_turn : Cond.selects "ExactScene" y_S_turn y_S_turn ∈ xs_TG := xs_tg 404 (by decide +kernel) (by decide +kernel)
theorem wc_M_isPileEmpty : Cond.code y_M_isPileEmpty b_M_isPileEmpty 1 (some .boolean) ∈ xs_TG := xs_tg 422 (by decide +kernel) (by decide +kernel)
theorem ws_M_isPileEmpty : Cond.instanceMethod y_M_isPileEmpty ∈ xs_TG := xs_tg 420 (by decide +kernel) (by decide +kernel)
theorem wl_M_isPileEmpty : Cond.selects "ExactScene$Matrices" y_M_isPileEmpty y_M_isPileEmpty ∈ xs_TG := xs_tg 421 (by decide +kernel) (by decide +kernel)
theorem wc_M_multiplyLatestByCurrent : Cond.code y_M_multiplyLatestByCurrent b_M_multiplyLatestByCurrent 2 (some .boolean) ∈ xs_TG := xs_tg 442 (by decide +kernel) (by decide +kernel)
theorem ws_M_multiplyLatestByCurrent : Cond.instanceMethod y_M_multiplyLatestByCurrent ∈ xs_TG := xs_tg 440 (by decide +kernel) (by decide +kernel)
theorem wl_M_multiplyLatestByCurrent : Cond.selects "ExactScene$Matrices" y_M_multiplyLatestByCurrent y_M_multiplyLatestByCurrent ∈ xs_TG := xs_tg 441 (by decide +kernel) (by decide +kernel)
theorem wc_S_join : Cond.code y_S_join b_S_join 1 none ∈ xs_TG := xs_tg 418 (by decide +kernel) (by decide +kernel)
theorem ws_S_join : Cond.instanceMethod y_S_join ∈ xs_TG := xs_tg 416 (by decide +kernel) (by decide +kernel)
theorem wl_S_join : Cond.selects "ExactScene" y_S_join y_S_join ∈ xs_TG := xs_tg 417 (by decide +kernel) (by decide +kernel)
theorem wc_M_isPileFull : Cond.code y_M_isPileFull b_M_isPileFull 1 (some .boolean) ∈ xs_TG := xs_tg 453 (by decide +kernel) (by decide +kernel)
theorem ws_M_isPileFull : Cond.instanceMethod y_M_isPileFull ∈ xs_TG := xs_tg 451 (by decide +kernel) (by decide +kernel)
theorem wl_M_isPileFull : Cond.selects "ExactScene$Matrices" y_M_isPileFull y_M_isPileFull ∈ xs_TG := xs_tg 452 (by decide +kernel) (by decide +kernel)
theorem wc_M_save : Cond.code y_M_save b_M_save 1 none ∈ xs_TG := xs_tg 458 (by decide +kernel) (by decide +kernel)
theorem ws_M_save : Cond.instanceMethod y_M_save ∈ xs_TG := xs_tg 456 (by decide +kernel) (by decide +kernel)
theorem wl_M_save : Cond.selects "ExactScene$Matrices" y_M_save y_M_save ∈ xs_TG := xs_tg 457 (by decide +kernel) (by decide +kernel)
theorem wc_S_push : Cond.code y_S_push b_S_push 1 none ∈ xs_TG := xs_tg 449 (by decide +kernel) (by decide +kernel)
theorem ws_S_push : Cond.instanceMethod y_S_push ∈ xs_TG := xs_tg 447 (by decide +kernel) (by decide +kernel)
theorem wl_S_push : Cond.selects "ExactScene" y_S_push y_S_push ∈ xs_TG := xs_tg 448 (by decide +kernel) (by decide +kernel)
theorem wc_M_restore : Cond.code y_M_restore b_M_restore 1 none ∈ xs_TG := xs_tg 469 (by decide +kernel) (by decide +kernel)
theorem ws_M_restore : Cond.instanceMethod y_M_restore ∈ xs_TG := xs_tg 467 (by decide +kernel) (by decide +kernel)
theorem wl_M_restore : Cond.selects "ExactScene$Matrices" y_M_restore y_M_restore ∈ xs_TG := xs_tg 468 (by decide +kernel) (by decide +kernel)
theorem wc_S_pop : Cond.code y_S_pop b_S_pop 1 none ∈ xs_TG := xs_tg 465 (by decide +kernel) (by decide +kernel)
theorem ws_S_pop : Cond.instanceMethod y_S_pop ∈ xs_TG := xs_tg 463 (by decide +kernel) (by decide +kernel)
theorem wl_S_pop : Cond.selects "ExactScene" y_S_pop y_S_pop ∈ xs_TG := xs_tg 464 (by decide +kernel) (by decide +kernel)
theorem wc_M_entryAt : Cond.code y_M_entryAt b_M_entryAt 3 (some .int) ∈ xs_TG := xs_tg 497 (by decide +kernel) (by decide +kernel)
theorem ws_M_entryAt : Cond.instanceMethod y_M_entryAt ∈ xs_TG := xs_tg 495 (by decide +kernel) (by decide +kernel)
theorem wl_M_entryAt : Cond.selects "ExactScene$Matrices" y_M_entryAt y_M_entryAt ∈ xs_TG := xs_tg 496 (by decide +kernel) (by decide +kernel)
theorem wc_S_entry : Cond.code y_S_entry b_S_entry 3 (some .int) ∈ xs_TG := xs_tg 477 (by decide +kernel) (by decide +kernel)
theorem ws_S_entry : Cond.instanceMethod y_S_entry ∈ xs_TG := xs_tg 475 (by decide +kernel) (by decide +kernel)
theorem wl_S_entry : Cond.selects "ExactScene" y_S_entry y_S_entry ∈ xs_TG := xs_tg 476 (by decide +kernel) (by decide +kernel)
theorem wc_S_isPlace : Cond.code y_S_isPlace b_S_isPlace 1 (some .boolean) ∈ xs_TG := xs_tg 507 (by decide +kernel) (by decide +kernel)
theorem ws_S_isPlace : Cond.static y_S_isPlace ∈ xs_TG := xs_tg 506 (by decide +kernel) (by decide +kernel)
theorem wc_S_isTexturePlace : Cond.code y_S_isTexturePlace b_S_isTexturePlace 1 (some .boolean) ∈ xs_TG := xs_tg 511 (by decide +kernel) (by decide +kernel)
theorem ws_S_isTexturePlace : Cond.static y_S_isTexturePlace ∈ xs_TG := xs_tg 510 (by decide +kernel) (by decide +kernel)
theorem wc_M_rowTimes : Cond.code y_M_rowTimes b_M_rowTimes 5 (some .int) ∈ xs_TG := xs_tg 521 (by decide +kernel) (by decide +kernel)
theorem ws_M_rowTimes : Cond.instanceMethod y_M_rowTimes ∈ xs_TG := xs_tg 519 (by decide +kernel) (by decide +kernel)
theorem wl_M_rowTimes : Cond.selects "ExactScene$Matrices" y_M_rowTimes y_M_rowTimes ∈ xs_TG := xs_tg 520 (by decide +kernel) (by decide +kernel)
theorem wc_T_setPlace : Cond.code y_T_setPlace b_T_setPlace 5 none ∈ xs_TG := xs_tg 526 (by decide +kernel) (by decide +kernel)
theorem ws_T_setPlace : Cond.instanceMethod y_T_setPlace ∈ xs_TG := xs_tg 524 (by decide +kernel) (by decide +kernel)
theorem wl_T_setPlace : Cond.selects "ExactScene$Triangle" y_T_setPlace y_T_setPlace ∈ xs_TG := xs_tg 525 (by decide +kernel) (by decide +kernel)
theorem wc_T_setRest : Cond.code y_T_setRest b_T_setRest 5 none ∈ xs_TG := xs_tg 530 (by decide +kernel) (by decide +kernel)
theorem ws_T_setRest : Cond.instanceMethod y_T_setRest ∈ xs_TG := xs_tg 528 (by decide +kernel) (by decide +kernel)
theorem wl_T_setRest : Cond.selects "ExactScene$Triangle" y_T_setRest y_T_setRest ∈ xs_TG := xs_tg 529 (by decide +kernel) (by decide +kernel)
theorem wc_T_placeQ : Cond.code y_T_placeQ b_T_placeQ 2 (some .long) ∈ xs_TG := xs_tg 542 (by decide +kernel) (by decide +kernel)
theorem ws_T_placeQ : Cond.instanceMethod y_T_placeQ ∈ xs_TG := xs_tg 541 (by decide +kernel) (by decide +kernel)
theorem wl_T_placeQ : Cond.selects "ExactScene$Triangle" y_T_placeQ y_T_placeQ ∈ xs_TG := xs_tp 11 (by decide +kernel) (by decide +kernel)
theorem wc_T_placeW : Cond.code y_T_placeW b_T_placeW 2 (some .long) ∈ xs_TG := xs_tg 546 (by decide +kernel) (by decide +kernel)
theorem ws_T_placeW : Cond.instanceMethod y_T_placeW ∈ xs_TG := xs_tg 545 (by decide +kernel) (by decide +kernel)
theorem wl_T_placeW : Cond.selects "ExactScene$Triangle" y_T_placeW y_T_placeW ∈ xs_TG := xs_tp 12 (by decide +kernel) (by decide +kernel)
theorem wc_T_placeP : Cond.code y_T_placeP b_T_placeP 2 (some .long) ∈ xs_TG := xs_tg 550 (by decide +kernel) (by decide +kernel)
theorem ws_T_placeP : Cond.instanceMethod y_T_placeP ∈ xs_TG := xs_tg 549 (by decide +kernel) (by decide +kernel)
theorem wl_T_placeP : Cond.selects "ExactScene$Triangle" y_T_placeP y_T_placeP ∈ xs_TG := xs_tp 13 (by decide +kernel) (by decide +kernel)
theorem wc_T_setEdge : Cond.code y_T_setEdge b_T_setEdge 4 none ∈ xs_TG := xs_tg 538 (by decide +kernel) (by decide +kernel)
theorem ws_T_setEdge : Cond.instanceMethod y_T_setEdge ∈ xs_TG := xs_tg 537 (by decide +kernel) (by decide +kernel)
theorem wl_T_setEdge : Cond.selects "ExactScene$Triangle" y_T_setEdge y_T_setEdge ∈ xs_TG := xs_tp 10 (by decide +kernel) (by decide +kernel)
theorem wc_T_turnToNegatives : Cond.code y_T_turnToNegatives b_T_turnToNegatives 2 none ∈ xs_TG := xs_tg 554 (by decide +kernel) (by decide +kernel)
theorem ws_T_turnToNegatives : Cond.instanceMethod y_T_turnToNegatives ∈ xs_TG := xs_tg 553 (by decide +kernel) (by decide +kernel)
theorem wl_T_turnToNegatives : Cond.selects "ExactScene$Triangle" y_T_turnToNegatives y_T_turnToNegatives ∈ xs_TG := xs_tp 14 (by decide +kernel) (by decide +kernel)
theorem wc_T_complete : Cond.code y_T_complete b_T_complete 5 none ∈ xs_TG := xs_tg 534 (by decide +kernel) (by decide +kernel)
theorem ws_T_complete : Cond.instanceMethod y_T_complete ∈ xs_TG := xs_tg 532 (by decide +kernel) (by decide +kernel)
theorem wl_T_complete : Cond.selects "ExactScene$Triangle" y_T_complete y_T_complete ∈ xs_TG := xs_tg 533 (by decide +kernel) (by decide +kernel)
theorem wc_S_addCorner : Cond.code y_S_addCorner b_S_addCorner 8 none ∈ xs_TG := xs_tg 517 (by decide +kernel) (by decide +kernel)
theorem ws_S_addCorner : Cond.instanceMethod y_S_addCorner ∈ xs_TG := xs_tg 516 (by decide +kernel) (by decide +kernel)
theorem wl_S_addCorner : Cond.selects "ExactScene" y_S_addCorner y_S_addCorner ∈ xs_TG := xs_tp 9 (by decide +kernel) (by decide +kernel)
theorem wc_S_vertex : Cond.code y_S_vertex b_S_vertex 6 (some .int) ∈ xs_TG := xs_tg 504 (by decide +kernel) (by decide +kernel)
theorem ws_S_vertex : Cond.instanceMethod y_S_vertex ∈ xs_TG := xs_tg 502 (by decide +kernel) (by decide +kernel)
theorem wl_S_vertex : Cond.selects "ExactScene" y_S_vertex y_S_vertex ∈ xs_TG := xs_tg 503 (by decide +kernel) (by decide +kernel)
theorem wc_X_isTexture : Cond.code y_X_isTexture b_X_isTexture 1 (some .boolean) ∈ xs_TG := xs_tg 159 (by decide +kernel) (by decide +kernel)
theorem ws_X_isTexture : Cond.static y_X_isTexture ∈ xs_TG := xs_tg 158 (by decide +kernel) (by decide +kernel)
theorem wc_S_use : Cond.code y_S_use b_S_use 4 (some .boolean) ∈ xs_TG := xs_tg 156 (by decide +kernel) (by decide +kernel)
theorem ws_S_use : Cond.instanceMethod y_S_use ∈ xs_TG := xs_tg 154 (by decide +kernel) (by decide +kernel)
theorem wl_S_use : Cond.selects "ExactScene" y_S_use y_S_use ∈ xs_TG := xs_tg 155 (by decide +kernel) (by decide +kernel)
theorem wc_X_isLine : Cond.code y_X_isLine b_X_isLine 1 (some .boolean) ∈ xs_TG := xs_tg 564 (by decide +kernel) (by decide +kernel)
theorem ws_X_isLine : Cond.static y_X_isLine ∈ xs_TG := xs_tg 563 (by decide +kernel) (by decide +kernel)
theorem wc_X_indexOf : Cond.code y_X_indexOf b_X_indexOf 3 (some .int) ∈ xs_TG := xs_tg 256 (by decide +kernel) (by decide +kernel)
theorem ws_X_indexOf : Cond.static y_X_indexOf ∈ xs_TG := xs_tg 255 (by decide +kernel) (by decide +kernel)
theorem wc_X_exchange : Cond.code y_X_exchange b_X_exchange 4 (some .int) ∈ xs_TG := xs_tg 569 (by decide +kernel) (by decide +kernel)
theorem ws_X_exchange : Cond.instanceMethod y_X_exchange ∈ xs_TG := xs_tg 567 (by decide +kernel) (by decide +kernel)
theorem wl_X_exchange : Cond.selects "ExactScene$Textures" y_X_exchange y_X_exchange ∈ xs_TG := xs_tg 568 (by decide +kernel) (by decide +kernel)
theorem wc_S_texel : Cond.code y_S_texel b_S_texel 5 (some .int) ∈ xs_TG := xs_tg 561 (by decide +kernel) (by decide +kernel)
theorem ws_S_texel : Cond.instanceMethod y_S_texel ∈ xs_TG := xs_tg 559 (by decide +kernel) (by decide +kernel)
theorem wl_S_texel : Cond.selects "ExactScene" y_S_texel y_S_texel ∈ xs_TG := xs_tg 560 (by decide +kernel) (by decide +kernel)
theorem wc_S_clear : Cond.code y_S_clear b_S_clear 2 (some .int) ∈ xs_TG := xs_tg 167 (by decide +kernel) (by decide +kernel)
theorem ws_S_clear : Cond.instanceMethod y_S_clear ∈ xs_TG := xs_tg 165 (by decide +kernel) (by decide +kernel)
theorem wl_S_clear : Cond.selects "ExactScene" y_S_clear y_S_clear ∈ xs_TG := xs_tg 166 (by decide +kernel) (by decide +kernel)
theorem wc_P_wipe : Cond.code y_P_wipe b_P_wipe 3 none ∈ xs_TG := xs_tg 67 (by decide +kernel) (by decide +kernel)
theorem ws_P_wipe : Cond.instanceMethod y_P_wipe ∈ xs_TG := xs_tg 65 (by decide +kernel) (by decide +kernel)
theorem wl_P_wipe : Cond.selects "ExactScene$Picture" y_P_wipe y_P_wipe ∈ xs_TG := xs_tg 66 (by decide +kernel) (by decide +kernel)
theorem wc_T_isShown : Cond.code y_T_isShown b_T_isShown 1 (some .boolean) ∈ xs_TG := xs_tg 176 (by decide +kernel) (by decide +kernel)
theorem ws_T_isShown : Cond.instanceMethod y_T_isShown ∈ xs_TG := xs_tg 174 (by decide +kernel) (by decide +kernel)
theorem wl_T_isShown : Cond.selects "ExactScene$Triangle" y_T_isShown y_T_isShown ∈ xs_TG := xs_tg 175 (by decide +kernel) (by decide +kernel)
theorem wc_T_weightAt : Cond.code y_T_weightAt b_T_weightAt 4 (some .long) ∈ xs_TG := xs_tg 188 (by decide +kernel) (by decide +kernel)
theorem ws_T_weightAt : Cond.instanceMethod y_T_weightAt ∈ xs_TG := xs_tg 187 (by decide +kernel) (by decide +kernel)
theorem wl_T_weightAt : Cond.selects "ExactScene$Triangle" y_T_weightAt y_T_weightAt ∈ xs_TG := xs_tp 0 (by decide +kernel) (by decide +kernel)
theorem wc_T_ownsItsEdge : Cond.code y_T_ownsItsEdge b_T_ownsItsEdge 2 (some .boolean) ∈ xs_TG := xs_tg 192 (by decide +kernel) (by decide +kernel)
theorem ws_T_ownsItsEdge : Cond.instanceMethod y_T_ownsItsEdge ∈ xs_TG := xs_tg 191 (by decide +kernel) (by decide +kernel)
theorem wl_T_ownsItsEdge : Cond.selects "ExactScene$Triangle" y_T_ownsItsEdge y_T_ownsItsEdge ∈ xs_TG := xs_tp 1 (by decide +kernel) (by decide +kernel)
theorem wc_T_covers : Cond.code y_T_covers b_T_covers 6 (some .boolean) ∈ xs_TG := xs_tg 184 (by decide +kernel) (by decide +kernel)
theorem ws_T_covers : Cond.instanceMethod y_T_covers ∈ xs_TG := xs_tg 182 (by decide +kernel) (by decide +kernel)
theorem wl_T_covers : Cond.selects "ExactScene$Triangle" y_T_covers y_T_covers ∈ xs_TG := xs_tg 183 (by decide +kernel) (by decide +kernel)
theorem wc_P_indexOf : Cond.code y_P_indexOf b_P_indexOf 2 (some .int) ∈ xs_TG := xs_tg 195 (by decide +kernel) (by decide +kernel)
theorem ws_P_indexOf : Cond.static y_P_indexOf ∈ xs_TG := xs_tg 194 (by decide +kernel) (by decide +kernel)
theorem wc_T_depthOver : Cond.code y_T_depthOver b_T_depthOver 6 (some .long) ∈ xs_TG := xs_tg 199 (by decide +kernel) (by decide +kernel)
theorem ws_T_depthOver : Cond.instanceMethod y_T_depthOver ∈ xs_TG := xs_tg 197 (by decide +kernel) (by decide +kernel)
theorem wl_T_depthOver : Cond.selects "ExactScene$Triangle" y_T_depthOver y_T_depthOver ∈ xs_TG := xs_tg 198 (by decide +kernel) (by decide +kernel)
theorem wc_P_isOwned : Cond.code y_P_isOwned b_P_isOwned 2 (some .boolean) ∈ xs_TG := xs_tg 207 (by decide +kernel) (by decide +kernel)
theorem ws_P_isOwned : Cond.instanceMethod y_P_isOwned ∈ xs_TG := xs_tg 205 (by decide +kernel) (by decide +kernel)
theorem wl_P_isOwned : Cond.selects "ExactScene$Picture" y_P_isOwned y_P_isOwned ∈ xs_TG := xs_tg 206 (by decide +kernel) (by decide +kernel)
theorem wc_P_compareQuotients : Cond.code y_P_compareQuotients b_P_compareQuotients 14 (some .int) ∈ xs_TG := xs_tg 210 (by decide +kernel) (by decide +kernel)
theorem ws_P_compareQuotients : Cond.static y_P_compareQuotients ∈ xs_TG := xs_tg 209 (by decide +kernel) (by decide +kernel)
theorem wc_P_offerPixel : Cond.code y_P_offerPixel b_P_offerPixel 7 none ∈ xs_TG := xs_tg 203 (by decide +kernel) (by decide +kernel)
theorem ws_P_offerPixel : Cond.instanceMethod y_P_offerPixel ∈ xs_TG := xs_tg 202 (by decide +kernel) (by decide +kernel)
theorem wl_P_offerPixel : Cond.selects "ExactScene$Picture" y_P_offerPixel y_P_offerPixel ∈ xs_TG := xs_tp 2 (by decide +kernel) (by decide +kernel)
theorem wc_P_offerTriangle : Cond.code y_P_offerTriangle b_P_offerTriangle 5 none ∈ xs_TG := xs_tg 180 (by decide +kernel) (by decide +kernel)
theorem ws_P_offerTriangle : Cond.instanceMethod y_P_offerTriangle ∈ xs_TG := xs_tg 178 (by decide +kernel) (by decide +kernel)
theorem wl_P_offerTriangle : Cond.selects "ExactScene$Picture" y_P_offerTriangle y_P_offerTriangle ∈ xs_TG := xs_tg 179 (by decide +kernel) (by decide +kernel)
theorem wc_S_cutDown : Cond.code y_S_cutDown b_S_cutDown 4 (some .long) ∈ xs_TG := xs_tg 232 (by decide +kernel) (by decide +kernel)
theorem ws_S_cutDown : Cond.static y_S_cutDown ∈ xs_TG := xs_tg 231 (by decide +kernel) (by decide +kernel)
theorem wc_T_weigh : Cond.code y_T_weigh b_T_weigh 11 (some .long) ∈ xs_TG := xs_tg 229 (by decide +kernel) (by decide +kernel)
theorem ws_T_weigh : Cond.instanceMethod y_T_weigh ∈ xs_TG := xs_tg 228 (by decide +kernel) (by decide +kernel)
theorem wl_T_weigh : Cond.selects "ExactScene$Triangle" y_T_weigh y_T_weigh ∈ xs_TG := xs_tp 5 (by decide +kernel) (by decide +kernel)
theorem wc_T_textureU : Cond.code y_T_textureU b_T_textureU 3 (some .long) ∈ xs_TG := xs_tg 225 (by decide +kernel) (by decide +kernel)
theorem ws_T_textureU : Cond.instanceMethod y_T_textureU ∈ xs_TG := xs_tg 223 (by decide +kernel) (by decide +kernel)
theorem wl_T_textureU : Cond.selects "ExactScene$Triangle" y_T_textureU y_T_textureU ∈ xs_TG := xs_tg 224 (by decide +kernel) (by decide +kernel)
theorem wc_X_wrap : Cond.code y_X_wrap b_X_wrap 3 (some .int) ∈ xs_TG := xs_tg 238 (by decide +kernel) (by decide +kernel)
theorem ws_X_wrap : Cond.static y_X_wrap ∈ xs_TG := xs_tg 237 (by decide +kernel) (by decide +kernel)
theorem wc_T_textureV : Cond.code y_T_textureV b_T_textureV 3 (some .long) ∈ xs_TG := xs_tg 253 (by decide +kernel) (by decide +kernel)
theorem ws_T_textureV : Cond.instanceMethod y_T_textureV ∈ xs_TG := xs_tg 251 (by decide +kernel) (by decide +kernel)
theorem wl_T_textureV : Cond.selects "ExactScene$Triangle" y_T_textureV y_T_textureV ∈ xs_TG := xs_tg 252 (by decide +kernel) (by decide +kernel)
theorem wc_S_textureColour : Cond.code y_S_textureColour b_S_textureColour 6 (some .int) ∈ xs_TG := xs_tg 221 (by decide +kernel) (by decide +kernel)
theorem ws_S_textureColour : Cond.instanceMethod y_S_textureColour ∈ xs_TG := xs_tg 220 (by decide +kernel) (by decide +kernel)
theorem wl_S_textureColour : Cond.selects "ExactScene" y_S_textureColour y_S_textureColour ∈ xs_TG := xs_tp 4 (by decide +kernel) (by decide +kernel)
theorem wc_S_paintOwnedPixels : Cond.code y_S_paintOwnedPixels b_S_paintOwnedPixels 5 (some .int) ∈ xs_TG := xs_tg 215 (by decide +kernel) (by decide +kernel)
theorem ws_S_paintOwnedPixels : Cond.instanceMethod y_S_paintOwnedPixels ∈ xs_TG := xs_tg 214 (by decide +kernel) (by decide +kernel)
theorem wl_S_paintOwnedPixels : Cond.selects "ExactScene" y_S_paintOwnedPixels y_S_paintOwnedPixels ∈ xs_TG := xs_tp 3 (by decide +kernel) (by decide +kernel)
theorem wc_S_draw : Cond.code y_S_draw b_S_draw 3 (some .int) ∈ xs_TG := xs_tg 171 (by decide +kernel) (by decide +kernel)
theorem ws_S_draw : Cond.instanceMethod y_S_draw ∈ xs_TG := xs_tg 169 (by decide +kernel) (by decide +kernel)
theorem wl_S_draw : Cond.selects "ExactScene" y_S_draw y_S_draw ∈ xs_TG := xs_tg 170 (by decide +kernel) (by decide +kernel)
theorem wc_P_isPixel : Cond.code y_P_isPixel b_P_isPixel 2 (some .boolean) ∈ xs_TG := xs_tg 579 (by decide +kernel) (by decide +kernel)
theorem ws_P_isPixel : Cond.static y_P_isPixel ∈ xs_TG := xs_tg 578 (by decide +kernel) (by decide +kernel)
theorem wc_S_colour : Cond.code y_S_colour b_S_colour 3 (some .int) ∈ xs_TG := xs_tg 576 (by decide +kernel) (by decide +kernel)
theorem ws_S_colour : Cond.instanceMethod y_S_colour ∈ xs_TG := xs_tg 574 (by decide +kernel) (by decide +kernel)
theorem wl_S_colour : Cond.selects "ExactScene" y_S_colour y_S_colour ∈ xs_TG := xs_tg 575 (by decide +kernel) (by decide +kernel)
theorem wc_S_owner : Cond.code y_S_owner b_S_owner 3 (some .int) ∈ xs_TG := xs_tg 588 (by decide +kernel) (by decide +kernel)
theorem ws_S_owner : Cond.instanceMethod y_S_owner ∈ xs_TG := xs_tg 586 (by decide +kernel) (by decide +kernel)
theorem wl_S_owner : Cond.selects "ExactScene" y_S_owner y_S_owner ∈ xs_TG := xs_tg 587 (by decide +kernel) (by decide +kernel)
theorem wc_P_compareDepths : Cond.code y_P_compareDepths b_P_compareDepths 3 (some .int) ∈ xs_TG := xs_tg 600 (by decide +kernel) (by decide +kernel)
theorem ws_P_compareDepths : Cond.instanceMethod y_P_compareDepths ∈ xs_TG := xs_tg 598 (by decide +kernel) (by decide +kernel)
theorem wl_P_compareDepths : Cond.selects "ExactScene$Picture" y_P_compareDepths y_P_compareDepths ∈ xs_TG := xs_tg 599 (by decide +kernel) (by decide +kernel)
theorem wc_S_compare : Cond.code y_S_compare b_S_compare 7 (some .int) ∈ xs_TG := xs_tg 595 (by decide +kernel) (by decide +kernel)
theorem ws_S_compare : Cond.instanceMethod y_S_compare ∈ xs_TG := xs_tg 593 (by decide +kernel) (by decide +kernel)
theorem wl_S_compare : Cond.selects "ExactScene" y_S_compare y_S_compare ∈ xs_TG := xs_tg 594 (by decide +kernel) (by decide +kernel)
theorem wc_P_wholeDepth : Cond.code y_P_wholeDepth b_P_wholeDepth 2 (some .long) ∈ xs_TG := xs_tg 612 (by decide +kernel) (by decide +kernel)
theorem ws_P_wholeDepth : Cond.instanceMethod y_P_wholeDepth ∈ xs_TG := xs_tg 610 (by decide +kernel) (by decide +kernel)
theorem wl_P_wholeDepth : Cond.selects "ExactScene$Picture" y_P_wholeDepth y_P_wholeDepth ∈ xs_TG := xs_tg 611 (by decide +kernel) (by decide +kernel)
theorem wc_S_depth : Cond.code y_S_depth b_S_depth 4 (some .long) ∈ xs_TG := xs_tg 607 (by decide +kernel) (by decide +kernel)
theorem ws_S_depth : Cond.instanceMethod y_S_depth ∈ xs_TG := xs_tg 605 (by decide +kernel) (by decide +kernel)
theorem wl_S_depth : Cond.selects "ExactScene" y_S_depth y_S_depth ∈ xs_TG := xs_tg 606 (by decide +kernel) (by decide +kernel)
theorem wc_T_numberAt : Cond.code y_T_numberAt b_T_numberAt 2 (some .long) ∈ xs_TG := xs_tg 625 (by decide +kernel) (by decide +kernel)
theorem ws_T_numberAt : Cond.instanceMethod y_T_numberAt ∈ xs_TG := xs_tg 623 (by decide +kernel) (by decide +kernel)
theorem wl_T_numberAt : Cond.selects "ExactScene$Triangle" y_T_numberAt y_T_numberAt ∈ xs_TG := xs_tg 624 (by decide +kernel) (by decide +kernel)
theorem wc_S_triangle : Cond.code y_S_triangle b_S_triangle 3 (some .long) ∈ xs_TG := xs_tg 620 (by decide +kernel) (by decide +kernel)
theorem ws_S_triangle : Cond.instanceMethod y_S_triangle ∈ xs_TG := xs_tg 618 (by decide +kernel) (by decide +kernel)
theorem wl_S_triangle : Cond.selects "ExactScene" y_S_triangle y_S_triangle ∈ xs_TG := xs_tg 619 (by decide +kernel) (by decide +kernel)
theorem wc_R_thrown : Cond.code y_R_thrown b_R_thrown 1 (some .int) ∈ xs_TG := xs_tg 705 (by decide +kernel) (by decide +kernel)
theorem ws_R_thrown : Cond.instanceMethod y_R_thrown ∈ xs_TG := xs_tg 703 (by decide +kernel) (by decide +kernel)
theorem wl_R_thrown : Cond.selects "ExactSceneModel" y_R_thrown y_R_thrown ∈ xs_TG := xs_tg 704 (by decide +kernel) (by decide +kernel)
theorem wc_R_fits : Cond.code y_R_fits b_R_fits 2 (some .boolean) ∈ xs_TG := xs_tg 712 (by decide +kernel) (by decide +kernel)
theorem ws_R_fits : Cond.static y_R_fits ∈ xs_TG := xs_tg 711 (by decide +kernel) (by decide +kernel)
theorem wc_R_row : Cond.code y_R_row b_R_row 6 none ∈ xs_TG := xs_tg 709 (by decide +kernel) (by decide +kernel)
theorem ws_R_row : Cond.instanceMethod y_R_row ∈ xs_TG := xs_tg 707 (by decide +kernel) (by decide +kernel)
theorem wl_R_row : Cond.selects "ExactSceneModel" y_R_row y_R_row ∈ xs_TG := xs_tg 708 (by decide +kernel) (by decide +kernel)
theorem wc_R_move : Cond.code y_R_move b_R_move 7 none ∈ xs_TG := xs_tg 718 (by decide +kernel) (by decide +kernel)
theorem ws_R_move : Cond.instanceMethod y_R_move ∈ xs_TG := xs_tg 716 (by decide +kernel) (by decide +kernel)
theorem wl_R_move : Cond.selects "ExactSceneModel" y_R_move y_R_move ∈ xs_TG := xs_tg 717 (by decide +kernel) (by decide +kernel)
theorem wc_R_stretch : Cond.code y_R_stretch b_R_stretch 9 none ∈ xs_TG := xs_tg 722 (by decide +kernel) (by decide +kernel)
theorem ws_R_stretch : Cond.instanceMethod y_R_stretch ∈ xs_TG := xs_tg 720 (by decide +kernel) (by decide +kernel)
theorem wl_R_stretch : Cond.selects "ExactSceneModel" y_R_stretch y_R_stretch ∈ xs_TG := xs_tg 721 (by decide +kernel) (by decide +kernel)
theorem wc_R_turn : Cond.code y_R_turn b_R_turn 6 none ∈ xs_TG := xs_tg 726 (by decide +kernel) (by decide +kernel)
theorem ws_R_turn : Cond.instanceMethod y_R_turn ∈ xs_TG := xs_tg 724 (by decide +kernel) (by decide +kernel)
theorem wl_R_turn : Cond.selects "ExactSceneModel" y_R_turn y_R_turn ∈ xs_TG := xs_tg 725 (by decide +kernel) (by decide +kernel)
theorem wc_R_join : Cond.code y_R_join b_R_join 5 none ∈ xs_TG := xs_tg 730 (by decide +kernel) (by decide +kernel)
theorem ws_R_join : Cond.instanceMethod y_R_join ∈ xs_TG := xs_tg 728 (by decide +kernel) (by decide +kernel)
theorem wl_R_join : Cond.selects "ExactSceneModel" y_R_join y_R_join ∈ xs_TG := xs_tg 729 (by decide +kernel) (by decide +kernel)
theorem wc_R_push : Cond.code y_R_push b_R_push 2 none ∈ xs_TG := xs_tg 734 (by decide +kernel) (by decide +kernel)
theorem ws_R_push : Cond.instanceMethod y_R_push ∈ xs_TG := xs_tg 732 (by decide +kernel) (by decide +kernel)
theorem wl_R_push : Cond.selects "ExactSceneModel" y_R_push y_R_push ∈ xs_TG := xs_tg 733 (by decide +kernel) (by decide +kernel)
theorem wc_R_pop : Cond.code y_R_pop b_R_pop 2 none ∈ xs_TG := xs_tg 738 (by decide +kernel) (by decide +kernel)
theorem ws_R_pop : Cond.instanceMethod y_R_pop ∈ xs_TG := xs_tg 736 (by decide +kernel) (by decide +kernel)
theorem wl_R_pop : Cond.selects "ExactSceneModel" y_R_pop y_R_pop ∈ xs_TG := xs_tg 737 (by decide +kernel) (by decide +kernel)
theorem wc_R_entry : Cond.code y_R_entry b_R_entry 3 (some .int) ∈ xs_TG := xs_tg 742 (by decide +kernel) (by decide +kernel)
theorem ws_R_entry : Cond.instanceMethod y_R_entry ∈ xs_TG := xs_tg 740 (by decide +kernel) (by decide +kernel)
theorem wl_R_entry : Cond.selects "ExactSceneModel" y_R_entry y_R_entry ∈ xs_TG := xs_tg 741 (by decide +kernel) (by decide +kernel)
theorem wc_R_within : Cond.code y_R_within b_R_within 2 (some .boolean) ∈ xs_TG := xs_tg 749 (by decide +kernel) (by decide +kernel)
theorem ws_R_within : Cond.static y_R_within ∈ xs_TG := xs_tg 748 (by decide +kernel) (by decide +kernel)
theorem wc_R_line : Cond.code y_R_line b_R_line 5 (some .int) ∈ xs_TG := xs_tg 753 (by decide +kernel) (by decide +kernel)
theorem ws_R_line : Cond.instanceMethod y_R_line ∈ xs_TG := xs_tg 752 (by decide +kernel) (by decide +kernel)
theorem wl_R_line : Cond.selects "ExactSceneModel" y_R_line y_R_line ∈ xs_TG := xs_tp 15 (by decide +kernel) (by decide +kernel)
theorem wc_R_vertex : Cond.code y_R_vertex b_R_vertex 8 (some .int) ∈ xs_TG := xs_tg 746 (by decide +kernel) (by decide +kernel)
theorem ws_R_vertex : Cond.instanceMethod y_R_vertex ∈ xs_TG := xs_tg 744 (by decide +kernel) (by decide +kernel)
theorem wl_R_vertex : Cond.selects "ExactSceneModel" y_R_vertex y_R_vertex ∈ xs_TG := xs_tg 745 (by decide +kernel) (by decide +kernel)
theorem wc_R_use : Cond.code y_R_use b_R_use 4 (some .boolean) ∈ xs_TG := xs_tg 757 (by decide +kernel) (by decide +kernel)
theorem ws_R_use : Cond.instanceMethod y_R_use ∈ xs_TG := xs_tg 755 (by decide +kernel) (by decide +kernel)
theorem wl_R_use : Cond.selects "ExactSceneModel" y_R_use y_R_use ∈ xs_TG := xs_tg 756 (by decide +kernel) (by decide +kernel)
theorem wc_R_texel : Cond.code y_R_texel b_R_texel 7 (some .int) ∈ xs_TG := xs_tg 761 (by decide +kernel) (by decide +kernel)
theorem ws_R_texel : Cond.instanceMethod y_R_texel ∈ xs_TG := xs_tg 759 (by decide +kernel) (by decide +kernel)
theorem wl_R_texel : Cond.selects "ExactSceneModel" y_R_texel y_R_texel ∈ xs_TG := xs_tg 760 (by decide +kernel) (by decide +kernel)
theorem wc_R_clear : Cond.code y_R_clear b_R_clear 2 (some .int) ∈ xs_TG := xs_tg 765 (by decide +kernel) (by decide +kernel)
theorem ws_R_clear : Cond.instanceMethod y_R_clear ∈ xs_TG := xs_tg 763 (by decide +kernel) (by decide +kernel)
theorem wl_R_clear : Cond.selects "ExactSceneModel" y_R_clear y_R_clear ∈ xs_TG := xs_tg 764 (by decide +kernel) (by decide +kernel)
theorem wc_R_placeOf : Cond.code y_R_placeOf b_R_placeOf 4 (some .long) ∈ xs_TG := xs_tg 777 (by decide +kernel) (by decide +kernel)
theorem ws_R_placeOf : Cond.instanceMethod y_R_placeOf ∈ xs_TG := xs_tg 776 (by decide +kernel) (by decide +kernel)
theorem wl_R_placeOf : Cond.selects "ExactSceneModel" y_R_placeOf y_R_placeOf ∈ xs_TG := xs_tp 17 (by decide +kernel) (by decide +kernel)
theorem wc_R_prepare : Cond.code y_R_prepare b_R_prepare 5 none ∈ xs_TG := xs_tg 773 (by decide +kernel) (by decide +kernel)
theorem ws_R_prepare : Cond.instanceMethod y_R_prepare ∈ xs_TG := xs_tg 772 (by decide +kernel) (by decide +kernel)
theorem wl_R_prepare : Cond.selects "ExactSceneModel" y_R_prepare y_R_prepare ∈ xs_TG := xs_tp 16 (by decide +kernel) (by decide +kernel)
theorem wc_R_covers : Cond.code y_R_covers b_R_covers 12 (some .boolean) ∈ xs_TG := xs_tg 782 (by decide +kernel) (by decide +kernel)
theorem ws_R_covers : Cond.instanceMethod y_R_covers ∈ xs_TG := xs_tg 781 (by decide +kernel) (by decide +kernel)
theorem wl_R_covers : Cond.selects "ExactSceneModel" y_R_covers y_R_covers ∈ xs_TG := xs_tp 18 (by decide +kernel) (by decide +kernel)
theorem wc_R_floor : Cond.code y_R_floor b_R_floor 6 (some .long) ∈ xs_TG := xs_tg 788 (by decide +kernel) (by decide +kernel)
theorem ws_R_floor : Cond.static y_R_floor ∈ xs_TG := xs_tg 787 (by decide +kernel) (by decide +kernel)
theorem wc_R_order : Cond.code y_R_order b_R_order 25 (some .int) ∈ xs_TG := xs_tg 785 (by decide +kernel) (by decide +kernel)
theorem ws_R_order : Cond.static y_R_order ∈ xs_TG := xs_tg 784 (by decide +kernel) (by decide +kernel)
theorem wc_R_texelOf : Cond.code y_R_texelOf b_R_texelOf 10 (some .int) ∈ xs_TG := xs_tg 792 (by decide +kernel) (by decide +kernel)
theorem ws_R_texelOf : Cond.instanceMethod y_R_texelOf ∈ xs_TG := xs_tg 791 (by decide +kernel) (by decide +kernel)
theorem wl_R_texelOf : Cond.selects "ExactSceneModel" y_R_texelOf y_R_texelOf ∈ xs_TG := xs_tp 19 (by decide +kernel) (by decide +kernel)
theorem wc_R_draw : Cond.code y_R_draw b_R_draw 8 (some .int) ∈ xs_TG := xs_tg 769 (by decide +kernel) (by decide +kernel)
theorem ws_R_draw : Cond.instanceMethod y_R_draw ∈ xs_TG := xs_tg 767 (by decide +kernel) (by decide +kernel)
theorem wl_R_draw : Cond.selects "ExactSceneModel" y_R_draw y_R_draw ∈ xs_TG := xs_tg 768 (by decide +kernel) (by decide +kernel)
theorem wc_R_isPixel : Cond.code y_R_isPixel b_R_isPixel 2 (some .boolean) ∈ xs_TG := xs_tg 800 (by decide +kernel) (by decide +kernel)
theorem ws_R_isPixel : Cond.static y_R_isPixel ∈ xs_TG := xs_tg 799 (by decide +kernel) (by decide +kernel)
theorem wc_R_colour : Cond.code y_R_colour b_R_colour 3 (some .int) ∈ xs_TG := xs_tg 797 (by decide +kernel) (by decide +kernel)
theorem ws_R_colour : Cond.instanceMethod y_R_colour ∈ xs_TG := xs_tg 795 (by decide +kernel) (by decide +kernel)
theorem wl_R_colour : Cond.selects "ExactSceneModel" y_R_colour y_R_colour ∈ xs_TG := xs_tg 796 (by decide +kernel) (by decide +kernel)
theorem wc_R_owner : Cond.code y_R_owner b_R_owner 3 (some .int) ∈ xs_TG := xs_tg 804 (by decide +kernel) (by decide +kernel)
theorem ws_R_owner : Cond.instanceMethod y_R_owner ∈ xs_TG := xs_tg 802 (by decide +kernel) (by decide +kernel)
theorem wl_R_owner : Cond.selects "ExactSceneModel" y_R_owner y_R_owner ∈ xs_TG := xs_tg 803 (by decide +kernel) (by decide +kernel)
theorem wc_R_compare : Cond.code y_R_compare b_R_compare 5 (some .int) ∈ xs_TG := xs_tg 808 (by decide +kernel) (by decide +kernel)
theorem ws_R_compare : Cond.instanceMethod y_R_compare ∈ xs_TG := xs_tg 806 (by decide +kernel) (by decide +kernel)
theorem wl_R_compare : Cond.selects "ExactSceneModel" y_R_compare y_R_compare ∈ xs_TG := xs_tg 807 (by decide +kernel) (by decide +kernel)
theorem wc_R_depth : Cond.code y_R_depth b_R_depth 3 (some .long) ∈ xs_TG := xs_tg 812 (by decide +kernel) (by decide +kernel)
theorem ws_R_depth : Cond.instanceMethod y_R_depth ∈ xs_TG := xs_tg 810 (by decide +kernel) (by decide +kernel)
theorem wl_R_depth : Cond.selects "ExactSceneModel" y_R_depth y_R_depth ∈ xs_TG := xs_tg 811 (by decide +kernel) (by decide +kernel)
theorem wc_R_triangle : Cond.code y_R_triangle b_R_triangle 3 (some .long) ∈ xs_TG := xs_tg 816 (by decide +kernel) (by decide +kernel)
theorem ws_R_triangle : Cond.instanceMethod y_R_triangle ∈ xs_TG := xs_tg 814 (by decide +kernel) (by decide +kernel)
theorem wl_R_triangle : Cond.selects "ExactSceneModel" y_R_triangle y_R_triangle ∈ xs_TG := xs_tg 815 (by decide +kernel) (by decide +kernel)
theorem in_S : ∀ w ∈ u_ws R_S F_S 9, w ∈ xs_TG := fun w hw => of_decide_eq_true (List.all_eq_true.mp (show (u_ws R_S F_S 9).all (fun w => decide (w ∈ xs_TG)) = true by decide +kernel) w hw)
theorem in_M : ∀ w ∈ u_ws R_M F_M 5, w ∈ xs_TG := fun w hw => of_decide_eq_true (List.all_eq_true.mp (show (u_ws R_M F_M 5).all (fun w => decide (w ∈ xs_TG)) = true by decide +kernel) w hw)
theorem in_X : ∀ w ∈ u_ws R_X F_X 1, w ∈ xs_TG := fun w hw => of_decide_eq_true (List.all_eq_true.mp (show (u_ws R_X F_X 1).all (fun w => decide (w ∈ xs_TG)) = true by decide +kernel) w hw)
theorem in_T : ∀ w ∈ u_ws R_T F_T 10, w ∈ xs_TG := fun w hw => of_decide_eq_true (List.all_eq_true.mp (show (u_ws R_T F_T 10).all (fun w => decide (w ∈ xs_TG)) = true by decide +kernel) w hw)
theorem in_P : ∀ w ∈ u_ws R_P F_P 4, w ∈ xs_TG := fun w hw => of_decide_eq_true (List.all_eq_true.mp (show (u_ws R_P F_P 4).all (fun w => decide (w ∈ xs_TG)) = true by decide +kernel) w hw)
theorem in_R : ∀ w ∈ u_ws R_R F_R 23, w ∈ xs_TG := fun w hw => of_decide_eq_true (List.all_eq_true.mp (show (u_ws R_R F_R 23).all (fun w => decide (w ∈ xs_TG)) = true by decide +kernel) w hw)
/-! the cells of the world -/
theorem xs_wS (ad : Nat → Nat) (cs : xs_cs) (μ : xs_M) : (xs_W ad cs μ)[0]? = some (ad 0, .inr (0, xs_fS ad (μ.1 0))) := by
  rw [xs_get _ _ _ (by decide)]; rfl
theorem xs_wM (ad : Nat → Nat) (cs : xs_cs) (μ : xs_M) : (xs_W ad cs μ)[1]? = some (ad 1, .inr (1, xs_fM ad (μ.1 1))) := by
  rw [xs_get _ _ _ (by decide)]; rfl
theorem xs_wX (ad : Nat → Nat) (cs : xs_cs) (μ : xs_M) : (xs_W ad cs μ)[6]? = some (ad 6, .inr (2, xs_fX ad)) := by
  rw [xs_get _ _ _ (by decide)]; rfl
theorem xs_wP (ad : Nat → Nat) (cs : xs_cs) (μ : xs_M) : (xs_W ad cs μ)[8]? = some (ad 8, .inr (4, xs_fP ad)) := by
  rw [xs_get _ _ _ (by decide)]; rfl
theorem xs_wR (ad : Nat → Nat) (cs : xs_cs) (μ : xs_M) : (xs_W ad cs μ)[154]? = some (ad 154, .inr (5, xs_fR ad (μ.1 154) (μ.2 154))) := by
  rw [xs_get _ _ _ (by decide)]; rfl
theorem xs_wT (ad : Nat → Nat) (cs : xs_cs) (μ : xs_M) {k : Nat} (hk : k < 20) : (xs_W ad cs μ)[14 + 7 * k]? = some (ad (14 + 7 * k), .inr (3, xs_fT ad (14 + 7 * k) (μ.1 (14 + 7 * k)) (μ.2 (14 + 7 * k)))) := by
  rw [xs_get _ _ _ (by omega)]
  exact congrArg (fun z => some (ad (14 + 7 * k), z)) (xs_c3 ad cs _ _ hk 0 (by decide))
theorem ia_2 {ad : Nat → Nat} {cs : xs_cs} : xs_IA ad cs 2 16 := ⟨by decide, fun f g => rfl⟩
theorem ia_3 {ad : Nat → Nat} {cs : xs_cs} : xs_IA ad cs 3 64 := ⟨by decide, fun f g => rfl⟩
theorem ia_4 {ad : Nat → Nat} {cs : xs_cs} : xs_IA ad cs 4 16 := ⟨by decide, fun f g => rfl⟩
theorem ia_5 {ad : Nat → Nat} {cs : xs_cs} : xs_IA ad cs 5 16 := ⟨by decide, fun f g => rfl⟩
theorem ia_7 {ad : Nat → Nat} {cs : xs_cs} : xs_IA ad cs 7 128 := ⟨by decide, fun f g => rfl⟩
theorem ia_9 {ad : Nat → Nat} {cs : xs_cs} : xs_IA ad cs 9 192 := ⟨by decide, fun f g => rfl⟩
theorem ia_10 {ad : Nat → Nat} {cs : xs_cs} : xs_IA ad cs 10 192 := ⟨by decide, fun f g => rfl⟩
theorem la_11 {ad : Nat → Nat} {cs : xs_cs} : xs_LA ad cs 11 192 := ⟨by decide, fun f g => rfl⟩
theorem la_12 {ad : Nat → Nat} {cs : xs_cs} : xs_LA ad cs 12 192 := ⟨by decide, fun f g => rfl⟩
theorem ia_155 {ad : Nat → Nat} {cs : xs_cs} : xs_IA ad cs 155 16 := ⟨by decide, fun f g => rfl⟩
theorem ia_156 {ad : Nat → Nat} {cs : xs_cs} : xs_IA ad cs 156 16 := ⟨by decide, fun f g => rfl⟩
theorem ia_157 {ad : Nat → Nat} {cs : xs_cs} : xs_IA ad cs 157 64 := ⟨by decide, fun f g => rfl⟩
theorem ia_158 {ad : Nat → Nat} {cs : xs_cs} : xs_IA ad cs 158 128 := ⟨by decide, fun f g => rfl⟩
theorem ia_159 {ad : Nat → Nat} {cs : xs_cs} : xs_IA ad cs 159 360 := ⟨by decide, fun f g => rfl⟩
theorem ia_160 {ad : Nat → Nat} {cs : xs_cs} : xs_IA ad cs 160 20 := ⟨by decide, fun f g => rfl⟩
theorem ia_161 {ad : Nat → Nat} {cs : xs_cs} : xs_IA ad cs 161 20 := ⟨by decide, fun f g => rfl⟩
theorem ia_162 {ad : Nat → Nat} {cs : xs_cs} : xs_IA ad cs 162 20 := ⟨by decide, fun f g => rfl⟩
theorem la_163 {ad : Nat → Nat} {cs : xs_cs} : xs_LA ad cs 163 3 := ⟨by decide, fun f g => rfl⟩
theorem la_164 {ad : Nat → Nat} {cs : xs_cs} : xs_LA ad cs 164 3 := ⟨by decide, fun f g => rfl⟩
theorem la_165 {ad : Nat → Nat} {cs : xs_cs} : xs_LA ad cs 165 3 := ⟨by decide, fun f g => rfl⟩
theorem la_166 {ad : Nat → Nat} {cs : xs_cs} : xs_LA ad cs 166 3 := ⟨by decide, fun f g => rfl⟩
theorem ia_167 {ad : Nat → Nat} {cs : xs_cs} : xs_IA ad cs 167 192 := ⟨by decide, fun f g => rfl⟩
theorem ia_168 {ad : Nat → Nat} {cs : xs_cs} : xs_IA ad cs 168 192 := ⟨by decide, fun f g => rfl⟩
theorem la_169 {ad : Nat → Nat} {cs : xs_cs} : xs_LA ad cs 169 192 := ⟨by decide, fun f g => rfl⟩
theorem la_170 {ad : Nat → Nat} {cs : xs_cs} : xs_LA ad cs 170 192 := ⟨by decide, fun f g => rfl⟩
theorem la_171 {ad : Nat → Nat} {cs : xs_cs} : xs_LA ad cs 171 1 := ⟨by decide, fun f g => rfl⟩
theorem la_T1 {ad : Nat → Nat} {cs : xs_cs} {k : Nat} (hk : k < 20) : xs_LA ad cs (14 + 7 * k + 1) 13 := ⟨by omega, fun f g => (xs_c3 ad cs f g hk 1 (by decide)).trans rfl⟩
theorem ia_T2 {ad : Nat → Nat} {cs : xs_cs} {k : Nat} (hk : k < 20) : xs_IA ad cs (14 + 7 * k + 2) 3 := ⟨by omega, fun f g => (xs_c3 ad cs f g hk 2 (by decide)).trans rfl⟩
theorem ia_T3 {ad : Nat → Nat} {cs : xs_cs} {k : Nat} (hk : k < 20) : xs_IA ad cs (14 + 7 * k + 3) 3 := ⟨by omega, fun f g => (xs_c3 ad cs f g hk 3 (by decide)).trans rfl⟩
theorem la_T4 {ad : Nat → Nat} {cs : xs_cs} {k : Nat} (hk : k < 20) : xs_LA ad cs (14 + 7 * k + 4) 3 := ⟨by omega, fun f g => (xs_c3 ad cs f g hk 4 (by decide)).trans rfl⟩
theorem la_T5 {ad : Nat → Nat} {cs : xs_cs} {k : Nat} (hk : k < 20) : xs_LA ad cs (14 + 7 * k + 5) 3 := ⟨by omega, fun f g => (xs_c3 ad cs f g hk 5 (by decide)).trans rfl⟩
theorem la_T6 {ad : Nat → Nat} {cs : xs_cs} {k : Nat} (hk : k < 20) : xs_LA ad cs (14 + 7 * k + 6) 3 := ⟨by omega, fun f g => (xs_c3 ad cs f g hk 6 (by decide)).trans rfl⟩
end
section
/-! fields, calls, constants: a row for each place of a pool -/
section XSF
variable {p : Program} {l : Launch} {e : Env} {R : Room} {s : State} {m : MethodId} {args : Array Value} {below : List Frame} {meth : Method} {c : Code} {H : Heap} {locs : List Loc} {cells slots : Nat} {Q : State → Prop}
variable {cc : ByteArray} {pc : Nat} {ls : Array Slot} {rest : List Value} {D : va_G} {ad : Nat → Nat} {cs : xs_cs} {A : Nat → Prop} {H0 : Heap} {μ : xs_M} {nL : Nat}

theorem gf_M_9 (X : xs_C p s m c cc nL args "ExactScene$Matrices") (G : xs_G D ad cs s A H0 μ H locs) (hdg : decode cc pc = .ok (.getfield 9, 3)) (kk : W p l e R s m args below meth c H locs cells slots Q (F0 m (pc + 3) ls (.ref (ad 2) :: rest))) : W p l e R s m args below meth c H locs cells slots Q (F0 m pc ls (.ref (ad 1) :: rest)) :=
  xs_get1 (ci := 1) (k := 0) X G in_M (xs_wM ad cs μ) rfl (by decide) (xs_tg 30 (by decide +kernel) (by decide +kernel)) rfl hdg kk
theorem gf_M_16 (X : xs_C p s m c cc nL args "ExactScene$Matrices") (G : xs_G D ad cs s A H0 μ H locs) (hdg : decode cc pc = .ok (.getfield 16, 3)) (kk : W p l e R s m args below meth c H locs cells slots Q (F0 m (pc + 3) ls (.ref (ad 4) :: rest))) : W p l e R s m args below meth c H locs cells slots Q (F0 m pc ls (.ref (ad 1) :: rest)) :=
  xs_get1 (ci := 1) (k := 2) X G in_M (xs_wM ad cs μ) rfl (by decide) (xs_tg 32 (by decide +kernel) (by decide +kernel)) rfl hdg kk
theorem gf_M_19 (X : xs_C p s m c cc nL args "ExactScene$Matrices") (G : xs_G D ad cs s A H0 μ H locs) (hdg : decode cc pc = .ok (.getfield 19, 3)) (kk : W p l e R s m args below meth c H locs cells slots Q (F0 m (pc + 3) ls (.ref (ad 5) :: rest))) : W p l e R s m args below meth c H locs cells slots Q (F0 m pc ls (.ref (ad 1) :: rest)) :=
  xs_get1 (ci := 1) (k := 3) X G in_M (xs_wM ad cs μ) rfl (by decide) (xs_tg 33 (by decide +kernel) (by decide +kernel)) rfl hdg kk
theorem gf_S_10 (X : xs_C p s m c cc nL args "ExactScene") (G : xs_G D ad cs s A H0 μ H locs) (hdg : decode cc pc = .ok (.getfield 10, 3)) (kk : W p l e R s m args below meth c H locs cells slots Q (F0 m (pc + 3) ls (.ref (ad 1) :: rest))) : W p l e R s m args below meth c H locs cells slots Q (F0 m pc ls (.ref (ad 0) :: rest)) :=
  xs_get1 (ci := 0) (k := 0) X G in_S (xs_wS ad cs μ) rfl (by decide) (xs_tg 125 (by decide +kernel) (by decide +kernel)) rfl hdg kk
theorem gf_M_32 (X : xs_C p s m c cc nL args "ExactScene$Matrices") (G : xs_G D ad cs s A H0 μ H locs) (hdg : decode cc pc = .ok (.getfield 32, 3)) (kk : W p l e R s m args below meth c H locs cells slots Q (F0 m (pc + 3) ls (.int (μ.1 1 4) :: rest))) : W p l e R s m args below meth c H locs cells slots Q (F0 m pc ls (.ref (ad 1) :: rest)) :=
  xs_get1 (ci := 1) (k := 4) X G in_M (xs_wM ad cs μ) rfl (by decide) (xs_tg 34 (by decide +kernel) (by decide +kernel)) rfl hdg kk
theorem gf_M_13 (X : xs_C p s m c cc nL args "ExactScene$Matrices") (G : xs_G D ad cs s A H0 μ H locs) (hdg : decode cc pc = .ok (.getfield 13, 3)) (kk : W p l e R s m args below meth c H locs cells slots Q (F0 m (pc + 3) ls (.ref (ad 3) :: rest))) : W p l e R s m args below meth c H locs cells slots Q (F0 m pc ls (.ref (ad 1) :: rest)) :=
  xs_get1 (ci := 1) (k := 1) X G in_M (xs_wM ad cs μ) rfl (by decide) (xs_tg 31 (by decide +kernel) (by decide +kernel)) rfl hdg kk
theorem pf_M_32 {x : Int32} (X : xs_C p s m c cc nL args "ExactScene$Matrices") (G : xs_G D ad cs s A H0 μ H locs) (hdg : decode cc pc = .ok (.putfield 32, 3)) (kk : ∀ (H1 : Heap) (locs1 : List Loc), xs_G D ad cs s A H0 (xs_si μ 1 4 x) H1 locs1 → W p l e R s m args below meth c H1 locs1 cells slots Q (F0 m (pc + 3) ls (rest))) : W p l e R s m args below meth c H locs cells slots Q (F0 m pc ls (.int x :: .ref (ad 1) :: rest)) :=
  xs_put1 (ci := 1) (k := 4) (ty0 := ty_M) (ty := .int) X G in_M ty_M_ok nm_M (xs_wM ad cs μ) rfl (by decide) (xs_tg 34 (by decide +kernel) (by decide +kernel)) rfl (by decide +kernel) rfl rfl (Nat.le_of_ble_eq_true rfl) (xs_set (μ2 := xs_si μ 1 4 x) (by decide) (by simp only [xs_si, va_up_self]; exact rfl) (fun j hj => ⟨va_up_ne _ _ hj, rfl⟩)) hdg kk
theorem gf_T_11 {k : Nat} (X : xs_C p s m c cc nL args "ExactScene$Triangle") (G : xs_G D ad cs s A H0 μ H locs) (hk : k < 20) (hdg : decode cc pc = .ok (.getfield 11, 3)) (kk : W p l e R s m args below meth c H locs cells slots Q (F0 m (pc + 3) ls (.ref (ad (14 + 7 * k + 1)) :: rest))) : W p l e R s m args below meth c H locs cells slots Q (F0 m pc ls (.ref (ad (14 + 7 * k)) :: rest)) :=
  xs_get1 (ci := 3) (k := 0) X G in_T (xs_wT ad cs μ hk) rfl (by decide) (xs_tg 91 (by decide +kernel) (by decide +kernel)) rfl hdg kk
theorem gf_T_15 {k : Nat} (X : xs_C p s m c cc nL args "ExactScene$Triangle") (G : xs_G D ad cs s A H0 μ H locs) (hk : k < 20) (hdg : decode cc pc = .ok (.getfield 15, 3)) (kk : W p l e R s m args below meth c H locs cells slots Q (F0 m (pc + 3) ls (.ref (ad (14 + 7 * k + 2)) :: rest))) : W p l e R s m args below meth c H locs cells slots Q (F0 m pc ls (.ref (ad (14 + 7 * k)) :: rest)) :=
  xs_get1 (ci := 3) (k := 1) X G in_T (xs_wT ad cs μ hk) rfl (by decide) (xs_tg 92 (by decide +kernel) (by decide +kernel)) rfl hdg kk
theorem gf_T_19 {k : Nat} (X : xs_C p s m c cc nL args "ExactScene$Triangle") (G : xs_G D ad cs s A H0 μ H locs) (hk : k < 20) (hdg : decode cc pc = .ok (.getfield 19, 3)) (kk : W p l e R s m args below meth c H locs cells slots Q (F0 m (pc + 3) ls (.ref (ad (14 + 7 * k + 3)) :: rest))) : W p l e R s m args below meth c H locs cells slots Q (F0 m pc ls (.ref (ad (14 + 7 * k)) :: rest)) :=
  xs_get1 (ci := 3) (k := 2) X G in_T (xs_wT ad cs μ hk) rfl (by decide) (xs_tg 93 (by decide +kernel) (by decide +kernel)) rfl hdg kk
theorem gf_T_22 {k : Nat} (X : xs_C p s m c cc nL args "ExactScene$Triangle") (G : xs_G D ad cs s A H0 μ H locs) (hk : k < 20) (hdg : decode cc pc = .ok (.getfield 22, 3)) (kk : W p l e R s m args below meth c H locs cells slots Q (F0 m (pc + 3) ls (.ref (ad (14 + 7 * k + 4)) :: rest))) : W p l e R s m args below meth c H locs cells slots Q (F0 m pc ls (.ref (ad (14 + 7 * k)) :: rest)) :=
  xs_get1 (ci := 3) (k := 3) X G in_T (xs_wT ad cs μ hk) rfl (by decide) (xs_tg 94 (by decide +kernel) (by decide +kernel)) rfl hdg kk
theorem gf_T_25 {k : Nat} (X : xs_C p s m c cc nL args "ExactScene$Triangle") (G : xs_G D ad cs s A H0 μ H locs) (hk : k < 20) (hdg : decode cc pc = .ok (.getfield 25, 3)) (kk : W p l e R s m args below meth c H locs cells slots Q (F0 m (pc + 3) ls (.ref (ad (14 + 7 * k + 5)) :: rest))) : W p l e R s m args below meth c H locs cells slots Q (F0 m pc ls (.ref (ad (14 + 7 * k)) :: rest)) :=
  xs_get1 (ci := 3) (k := 4) X G in_T (xs_wT ad cs μ hk) rfl (by decide) (xs_tg 95 (by decide +kernel) (by decide +kernel)) rfl hdg kk
theorem gf_T_28 {k : Nat} (X : xs_C p s m c cc nL args "ExactScene$Triangle") (G : xs_G D ad cs s A H0 μ H locs) (hk : k < 20) (hdg : decode cc pc = .ok (.getfield 28, 3)) (kk : W p l e R s m args below meth c H locs cells slots Q (F0 m (pc + 3) ls (.ref (ad (14 + 7 * k + 6)) :: rest))) : W p l e R s m args below meth c H locs cells slots Q (F0 m pc ls (.ref (ad (14 + 7 * k)) :: rest)) :=
  xs_get1 (ci := 3) (k := 5) X G in_T (xs_wT ad cs μ hk) rfl (by decide) (xs_tg 96 (by decide +kernel) (by decide +kernel)) rfl hdg kk
theorem gf_T_55 {k : Nat} (X : xs_C p s m c cc nL args "ExactScene$Triangle") (G : xs_G D ad cs s A H0 μ H locs) (hk : k < 20) (hdg : decode cc pc = .ok (.getfield 55, 3)) (kk : W p l e R s m args below meth c H locs cells slots Q (F0 m (pc + 3) ls (.long (μ.2 (14 + 7 * k) 6) :: rest))) : W p l e R s m args below meth c H locs cells slots Q (F0 m pc ls (.ref (ad (14 + 7 * k)) :: rest)) :=
  xs_get1 (ci := 3) (k := 6) X G in_T (xs_wT ad cs μ hk) rfl (by decide) (xs_tg 97 (by decide +kernel) (by decide +kernel)) rfl hdg kk
theorem pf_T_55 {k : Nat} {x : Int64} (X : xs_C p s m c cc nL args "ExactScene$Triangle") (G : xs_G D ad cs s A H0 μ H locs) (hk : k < 20) (hdg : decode cc pc = .ok (.putfield 55, 3)) (kk : ∀ (H1 : Heap) (locs1 : List Loc), xs_G D ad cs s A H0 (xs_sl μ (14 + 7 * k) 6 x) H1 locs1 → W p l e R s m args below meth c H1 locs1 cells slots Q (F0 m (pc + 3) ls (rest))) : W p l e R s m args below meth c H locs cells slots Q (F0 m pc ls (.long x :: .ref (ad (14 + 7 * k)) :: rest)) :=
  xs_put1 (ci := 3) (k := 6) (ty0 := ty_T) (ty := .long) X G in_T ty_T_ok nm_T (xs_wT ad cs μ hk) rfl (by decide) (xs_tg 97 (by decide +kernel) (by decide +kernel)) rfl (by decide +kernel) rfl rfl (Nat.le_of_ble_eq_true rfl) (xs_set (μ2 := xs_sl μ (14 + 7 * k) 6 x) (by omega) (by simp only [xs_sl, va_up_self]; exact (xs_c3 ad cs _ _ hk 0 (by decide)).trans rfl) (fun j hj => ⟨rfl, va_up_ne _ _ hj⟩)) hdg kk
theorem pf_T_31 {k : Nat} {x : Int32} (X : xs_C p s m c cc nL args "ExactScene$Triangle") (G : xs_G D ad cs s A H0 μ H locs) (hk : k < 20) (hdg : decode cc pc = .ok (.putfield 31, 3)) (kk : ∀ (H1 : Heap) (locs1 : List Loc), xs_G D ad cs s A H0 (xs_si μ (14 + 7 * k) 7 x) H1 locs1 → W p l e R s m args below meth c H1 locs1 cells slots Q (F0 m (pc + 3) ls (rest))) : W p l e R s m args below meth c H locs cells slots Q (F0 m pc ls (.int x :: .ref (ad (14 + 7 * k)) :: rest)) :=
  xs_put1 (ci := 3) (k := 7) (ty0 := ty_T) (ty := .int) X G in_T ty_T_ok nm_T (xs_wT ad cs μ hk) rfl (by decide) (xs_tg 99 (by decide +kernel) (by decide +kernel)) rfl (by decide +kernel) rfl rfl (Nat.le_of_ble_eq_true rfl) (xs_set (μ2 := xs_si μ (14 + 7 * k) 7 x) (by omega) (by simp only [xs_si, va_up_self]; exact (xs_c3 ad cs _ _ hk 0 (by decide)).trans rfl) (fun j hj => ⟨va_up_ne _ _ hj, rfl⟩)) hdg kk
theorem pf_T_35 {k : Nat} {x : Int32} (X : xs_C p s m c cc nL args "ExactScene$Triangle") (G : xs_G D ad cs s A H0 μ H locs) (hk : k < 20) (hdg : decode cc pc = .ok (.putfield 35, 3)) (kk : ∀ (H1 : Heap) (locs1 : List Loc), xs_G D ad cs s A H0 (xs_si μ (14 + 7 * k) 8 x) H1 locs1 → W p l e R s m args below meth c H1 locs1 cells slots Q (F0 m (pc + 3) ls (rest))) : W p l e R s m args below meth c H locs cells slots Q (F0 m pc ls (.int x :: .ref (ad (14 + 7 * k)) :: rest)) :=
  xs_put1 (ci := 3) (k := 8) (ty0 := ty_T) (ty := .int) X G in_T ty_T_ok nm_T (xs_wT ad cs μ hk) rfl (by decide) (xs_tg 101 (by decide +kernel) (by decide +kernel)) rfl (by decide +kernel) rfl rfl (Nat.le_of_ble_eq_true rfl) (xs_set (μ2 := xs_si μ (14 + 7 * k) 8 x) (by omega) (by simp only [xs_si, va_up_self]; exact (xs_c3 ad cs _ _ hk 0 (by decide)).trans rfl) (fun j hj => ⟨va_up_ne _ _ hj, rfl⟩)) hdg kk
theorem pf_T_38 {k : Nat} {x : Int32} (X : xs_C p s m c cc nL args "ExactScene$Triangle") (G : xs_G D ad cs s A H0 μ H locs) (hk : k < 20) (hdg : decode cc pc = .ok (.putfield 38, 3)) (kk : ∀ (H1 : Heap) (locs1 : List Loc), xs_G D ad cs s A H0 (xs_si μ (14 + 7 * k) 9 x) H1 locs1 → W p l e R s m args below meth c H1 locs1 cells slots Q (F0 m (pc + 3) ls (rest))) : W p l e R s m args below meth c H locs cells slots Q (F0 m pc ls (.int x :: .ref (ad (14 + 7 * k)) :: rest)) :=
  xs_put1 (ci := 3) (k := 9) (ty0 := ty_T) (ty := .int) X G in_T ty_T_ok nm_T (xs_wT ad cs μ hk) rfl (by decide) (xs_tg 103 (by decide +kernel) (by decide +kernel)) rfl (by decide +kernel) rfl rfl (Nat.le_of_ble_eq_true rfl) (xs_set (μ2 := xs_si μ (14 + 7 * k) 9 x) (by omega) (by simp only [xs_si, va_up_self]; exact (xs_c3 ad cs _ _ hk 0 (by decide)).trans rfl) (fun j hj => ⟨va_up_ne _ _ hj, rfl⟩)) hdg kk
theorem gf_S_32 (X : xs_C p s m c cc nL args "ExactScene") (G : xs_G D ad cs s A H0 μ H locs) (hdg : decode cc pc = .ok (.getfield 32, 3)) (kk : W p l e R s m args below meth c H locs cells slots Q (F0 m (pc + 3) ls (.ref (ad 13) :: rest))) : W p l e R s m args below meth c H locs cells slots Q (F0 m pc ls (.ref (ad 0) :: rest)) :=
  xs_get1 (ci := 0) (k := 3) X G in_S (xs_wS ad cs μ) rfl (by decide) (xs_tg 128 (by decide +kernel) (by decide +kernel)) rfl hdg kk
theorem gf_S_121 (X : xs_C p s m c cc nL args "ExactScene") (G : xs_G D ad cs s A H0 μ H locs) (hdg : decode cc pc = .ok (.getfield 121, 3)) (kk : W p l e R s m args below meth c H locs cells slots Q (F0 m (pc + 3) ls (.int (μ.1 0 4) :: rest))) : W p l e R s m args below meth c H locs cells slots Q (F0 m pc ls (.ref (ad 0) :: rest)) :=
  xs_get1 (ci := 0) (k := 4) X G in_S (xs_wS ad cs μ) rfl (by decide) (xs_tg 129 (by decide +kernel) (by decide +kernel)) rfl hdg kk
theorem gf_S_152 (X : xs_C p s m c cc nL args "ExactScene") (G : xs_G D ad cs s A H0 μ H locs) (hdg : decode cc pc = .ok (.getfield 152, 3)) (kk : W p l e R s m args below meth c H locs cells slots Q (F0 m (pc + 3) ls (.int (μ.1 0 5) :: rest))) : W p l e R s m args below meth c H locs cells slots Q (F0 m pc ls (.ref (ad 0) :: rest)) :=
  xs_get1 (ci := 0) (k := 5) X G in_S (xs_wS ad cs μ) rfl (by decide) (xs_tg 130 (by decide +kernel) (by decide +kernel)) rfl hdg kk
theorem pf_S_152 {x : Int32} (X : xs_C p s m c cc nL args "ExactScene") (G : xs_G D ad cs s A H0 μ H locs) (hdg : decode cc pc = .ok (.putfield 152, 3)) (kk : ∀ (H1 : Heap) (locs1 : List Loc), xs_G D ad cs s A H0 (xs_si μ 0 5 x) H1 locs1 → W p l e R s m args below meth c H1 locs1 cells slots Q (F0 m (pc + 3) ls (rest))) : W p l e R s m args below meth c H locs cells slots Q (F0 m pc ls (.int x :: .ref (ad 0) :: rest)) :=
  xs_put1 (ci := 0) (k := 5) (ty0 := ty_S) (ty := .int) X G in_S ty_S_ok nm_S (xs_wS ad cs μ) rfl (by decide) (xs_tg 130 (by decide +kernel) (by decide +kernel)) rfl (by decide +kernel) rfl rfl (Nat.le_of_ble_eq_true rfl) (xs_set (μ2 := xs_si μ 0 5 x) (by decide) (by simp only [xs_si, va_up_self]; exact rfl) (fun j hj => ⟨va_up_ne _ _ hj, rfl⟩)) hdg kk
theorem gf_S_133 (X : xs_C p s m c cc nL args "ExactScene") (G : xs_G D ad cs s A H0 μ H locs) (hdg : decode cc pc = .ok (.getfield 133, 3)) (kk : W p l e R s m args below meth c H locs cells slots Q (F0 m (pc + 3) ls (.int (μ.1 0 6) :: rest))) : W p l e R s m args below meth c H locs cells slots Q (F0 m pc ls (.ref (ad 0) :: rest)) :=
  xs_get1 (ci := 0) (k := 6) X G in_S (xs_wS ad cs μ) rfl (by decide) (xs_tg 131 (by decide +kernel) (by decide +kernel)) rfl hdg kk
theorem gf_S_136 (X : xs_C p s m c cc nL args "ExactScene") (G : xs_G D ad cs s A H0 μ H locs) (hdg : decode cc pc = .ok (.getfield 136, 3)) (kk : W p l e R s m args below meth c H locs cells slots Q (F0 m (pc + 3) ls (.int (μ.1 0 7) :: rest))) : W p l e R s m args below meth c H locs cells slots Q (F0 m pc ls (.ref (ad 0) :: rest)) :=
  xs_get1 (ci := 0) (k := 7) X G in_S (xs_wS ad cs μ) rfl (by decide) (xs_tg 132 (by decide +kernel) (by decide +kernel)) rfl hdg kk
theorem gf_S_139 (X : xs_C p s m c cc nL args "ExactScene") (G : xs_G D ad cs s A H0 μ H locs) (hdg : decode cc pc = .ok (.getfield 139, 3)) (kk : W p l e R s m args below meth c H locs cells slots Q (F0 m (pc + 3) ls (.int (μ.1 0 8) :: rest))) : W p l e R s m args below meth c H locs cells slots Q (F0 m pc ls (.ref (ad 0) :: rest)) :=
  xs_get1 (ci := 0) (k := 8) X G in_S (xs_wS ad cs μ) rfl (by decide) (xs_tg 133 (by decide +kernel) (by decide +kernel)) rfl hdg kk
theorem pf_S_121 {x : Int32} (X : xs_C p s m c cc nL args "ExactScene") (G : xs_G D ad cs s A H0 μ H locs) (hdg : decode cc pc = .ok (.putfield 121, 3)) (kk : ∀ (H1 : Heap) (locs1 : List Loc), xs_G D ad cs s A H0 (xs_si μ 0 4 x) H1 locs1 → W p l e R s m args below meth c H1 locs1 cells slots Q (F0 m (pc + 3) ls (rest))) : W p l e R s m args below meth c H locs cells slots Q (F0 m pc ls (.int x :: .ref (ad 0) :: rest)) :=
  xs_put1 (ci := 0) (k := 4) (ty0 := ty_S) (ty := .int) X G in_S ty_S_ok nm_S (xs_wS ad cs μ) rfl (by decide) (xs_tg 129 (by decide +kernel) (by decide +kernel)) rfl (by decide +kernel) rfl rfl (Nat.le_of_ble_eq_true rfl) (xs_set (μ2 := xs_si μ 0 4 x) (by decide) (by simp only [xs_si, va_up_self]; exact rfl) (fun j hj => ⟨va_up_ne _ _ hj, rfl⟩)) hdg kk
theorem pf_S_133 {x : Int32} (X : xs_C p s m c cc nL args "ExactScene") (G : xs_G D ad cs s A H0 μ H locs) (hdg : decode cc pc = .ok (.putfield 133, 3)) (kk : ∀ (H1 : Heap) (locs1 : List Loc), xs_G D ad cs s A H0 (xs_si μ 0 6 x) H1 locs1 → W p l e R s m args below meth c H1 locs1 cells slots Q (F0 m (pc + 3) ls (rest))) : W p l e R s m args below meth c H locs cells slots Q (F0 m pc ls (.int x :: .ref (ad 0) :: rest)) :=
  xs_put1 (ci := 0) (k := 6) (ty0 := ty_S) (ty := .int) X G in_S ty_S_ok nm_S (xs_wS ad cs μ) rfl (by decide) (xs_tg 131 (by decide +kernel) (by decide +kernel)) rfl (by decide +kernel) rfl rfl (Nat.le_of_ble_eq_true rfl) (xs_set (μ2 := xs_si μ 0 6 x) (by decide) (by simp only [xs_si, va_up_self]; exact rfl) (fun j hj => ⟨va_up_ne _ _ hj, rfl⟩)) hdg kk
theorem pf_S_136 {x : Int32} (X : xs_C p s m c cc nL args "ExactScene") (G : xs_G D ad cs s A H0 μ H locs) (hdg : decode cc pc = .ok (.putfield 136, 3)) (kk : ∀ (H1 : Heap) (locs1 : List Loc), xs_G D ad cs s A H0 (xs_si μ 0 7 x) H1 locs1 → W p l e R s m args below meth c H1 locs1 cells slots Q (F0 m (pc + 3) ls (rest))) : W p l e R s m args below meth c H locs cells slots Q (F0 m pc ls (.int x :: .ref (ad 0) :: rest)) :=
  xs_put1 (ci := 0) (k := 7) (ty0 := ty_S) (ty := .int) X G in_S ty_S_ok nm_S (xs_wS ad cs μ) rfl (by decide) (xs_tg 132 (by decide +kernel) (by decide +kernel)) rfl (by decide +kernel) rfl rfl (Nat.le_of_ble_eq_true rfl) (xs_set (μ2 := xs_si μ 0 7 x) (by decide) (by simp only [xs_si, va_up_self]; exact rfl) (fun j hj => ⟨va_up_ne _ _ hj, rfl⟩)) hdg kk
theorem pf_S_139 {x : Int32} (X : xs_C p s m c cc nL args "ExactScene") (G : xs_G D ad cs s A H0 μ H locs) (hdg : decode cc pc = .ok (.putfield 139, 3)) (kk : ∀ (H1 : Heap) (locs1 : List Loc), xs_G D ad cs s A H0 (xs_si μ 0 8 x) H1 locs1 → W p l e R s m args below meth c H1 locs1 cells slots Q (F0 m (pc + 3) ls (rest))) : W p l e R s m args below meth c H locs cells slots Q (F0 m pc ls (.int x :: .ref (ad 0) :: rest)) :=
  xs_put1 (ci := 0) (k := 8) (ty0 := ty_S) (ty := .int) X G in_S ty_S_ok nm_S (xs_wS ad cs μ) rfl (by decide) (xs_tg 133 (by decide +kernel) (by decide +kernel)) rfl (by decide +kernel) rfl rfl (Nat.le_of_ble_eq_true rfl) (xs_set (μ2 := xs_si μ 0 8 x) (by decide) (by simp only [xs_si, va_up_self]; exact rfl) (fun j hj => ⟨va_up_ne _ _ hj, rfl⟩)) hdg kk
theorem gf_X_9 (X : xs_C p s m c cc nL args "ExactScene$Textures") (G : xs_G D ad cs s A H0 μ H locs) (hdg : decode cc pc = .ok (.getfield 9, 3)) (kk : W p l e R s m args below meth c H locs cells slots Q (F0 m (pc + 3) ls (.ref (ad 7) :: rest))) : W p l e R s m args below meth c H locs cells slots Q (F0 m pc ls (.ref (ad 6) :: rest)) :=
  xs_get1 (ci := 2) (k := 0) X G in_X (xs_wX ad cs μ) rfl (by decide) (xs_tg 53 (by decide +kernel) (by decide +kernel)) rfl hdg kk
theorem gf_P_11 (X : xs_C p s m c cc nL args "ExactScene$Picture") (G : xs_G D ad cs s A H0 μ H locs) (hdg : decode cc pc = .ok (.getfield 11, 3)) (kk : W p l e R s m args below meth c H locs cells slots Q (F0 m (pc + 3) ls (.ref (ad 9) :: rest))) : W p l e R s m args below meth c H locs cells slots Q (F0 m pc ls (.ref (ad 8) :: rest)) :=
  xs_get1 (ci := 4) (k := 0) X G in_P (xs_wP ad cs μ) rfl (by decide) (xs_tg 68 (by decide +kernel) (by decide +kernel)) rfl hdg kk
theorem gf_P_15 (X : xs_C p s m c cc nL args "ExactScene$Picture") (G : xs_G D ad cs s A H0 μ H locs) (hdg : decode cc pc = .ok (.getfield 15, 3)) (kk : W p l e R s m args below meth c H locs cells slots Q (F0 m (pc + 3) ls (.ref (ad 10) :: rest))) : W p l e R s m args below meth c H locs cells slots Q (F0 m pc ls (.ref (ad 8) :: rest)) :=
  xs_get1 (ci := 4) (k := 1) X G in_P (xs_wP ad cs μ) rfl (by decide) (xs_tg 70 (by decide +kernel) (by decide +kernel)) rfl hdg kk
theorem gf_T_38 {k : Nat} (X : xs_C p s m c cc nL args "ExactScene$Triangle") (G : xs_G D ad cs s A H0 μ H locs) (hk : k < 20) (hdg : decode cc pc = .ok (.getfield 38, 3)) (kk : W p l e R s m args below meth c H locs cells slots Q (F0 m (pc + 3) ls (.int (μ.1 (14 + 7 * k) 9) :: rest))) : W p l e R s m args below meth c H locs cells slots Q (F0 m pc ls (.ref (ad (14 + 7 * k)) :: rest)) :=
  xs_get1 (ci := 3) (k := 9) X G in_T (xs_wT ad cs μ hk) rfl (by decide) (xs_tg 103 (by decide +kernel) (by decide +kernel)) rfl hdg kk
theorem gf_P_18 (X : xs_C p s m c cc nL args "ExactScene$Picture") (G : xs_G D ad cs s A H0 μ H locs) (hdg : decode cc pc = .ok (.getfield 18, 3)) (kk : W p l e R s m args below meth c H locs cells slots Q (F0 m (pc + 3) ls (.ref (ad 11) :: rest))) : W p l e R s m args below meth c H locs cells slots Q (F0 m pc ls (.ref (ad 8) :: rest)) :=
  xs_get1 (ci := 4) (k := 2) X G in_P (xs_wP ad cs μ) rfl (by decide) (xs_tg 72 (by decide +kernel) (by decide +kernel)) rfl hdg kk
theorem gf_P_22 (X : xs_C p s m c cc nL args "ExactScene$Picture") (G : xs_G D ad cs s A H0 μ H locs) (hdg : decode cc pc = .ok (.getfield 22, 3)) (kk : W p l e R s m args below meth c H locs cells slots Q (F0 m (pc + 3) ls (.ref (ad 12) :: rest))) : W p l e R s m args below meth c H locs cells slots Q (F0 m pc ls (.ref (ad 8) :: rest)) :=
  xs_get1 (ci := 4) (k := 3) X G in_P (xs_wP ad cs μ) rfl (by decide) (xs_tg 73 (by decide +kernel) (by decide +kernel)) rfl hdg kk
theorem gf_P_47 {k : Nat} (X : xs_C p s m c cc nL args "ExactScene$Picture") (G : xs_G D ad cs s A H0 μ H locs) (hk : k < 20) (hdg : decode cc pc = .ok (.getfield 47, 3)) (kk : W p l e R s m args below meth c H locs cells slots Q (F0 m (pc + 3) ls (.long (μ.2 (14 + 7 * k) 6) :: rest))) : W p l e R s m args below meth c H locs cells slots Q (F0 m pc ls (.ref (ad (14 + 7 * k)) :: rest)) :=
  xs_get1N (ci := 3) (k := 6) (host := "ExactScene") X G in_T (xs_wT ad cs μ hk) rfl (by decide) (xs_nw 98 (by decide +kernel) (by decide +kernel)) rfl hdg kk
theorem gf_S_223 {k : Nat} (X : xs_C p s m c cc nL args "ExactScene") (G : xs_G D ad cs s A H0 μ H locs) (hk : k < 20) (hdg : decode cc pc = .ok (.getfield 223, 3)) (kk : W p l e R s m args below meth c H locs cells slots Q (F0 m (pc + 3) ls (.int (μ.1 (14 + 7 * k) 8) :: rest))) : W p l e R s m args below meth c H locs cells slots Q (F0 m pc ls (.ref (ad (14 + 7 * k)) :: rest)) :=
  xs_get1N (ci := 3) (k := 8) (host := "ExactScene") X G in_T (xs_wT ad cs μ hk) rfl (by decide) (xs_nw 102 (by decide +kernel) (by decide +kernel)) rfl hdg kk
theorem gf_S_19 (X : xs_C p s m c cc nL args "ExactScene") (G : xs_G D ad cs s A H0 μ H locs) (hdg : decode cc pc = .ok (.getfield 19, 3)) (kk : W p l e R s m args below meth c H locs cells slots Q (F0 m (pc + 3) ls (.ref (ad 6) :: rest))) : W p l e R s m args below meth c H locs cells slots Q (F0 m pc ls (.ref (ad 0) :: rest)) :=
  xs_get1 (ci := 0) (k := 1) X G in_S (xs_wS ad cs μ) rfl (by decide) (xs_tg 126 (by decide +kernel) (by decide +kernel)) rfl hdg kk
theorem gf_S_237 (X : xs_C p s m c cc nL args "ExactScene") (G : xs_G D ad cs s A H0 μ H locs) (hdg : decode cc pc = .ok (.getfield 237, 3)) (kk : W p l e R s m args below meth c H locs cells slots Q (F0 m (pc + 3) ls (.ref (ad 7) :: rest))) : W p l e R s m args below meth c H locs cells slots Q (F0 m pc ls (.ref (ad 6) :: rest)) :=
  xs_get1N (ci := 2) (k := 0) (host := "ExactScene") X G in_X (xs_wX ad cs μ) rfl (by decide) (xs_nw 54 (by decide +kernel) (by decide +kernel)) rfl hdg kk
theorem gf_S_240 {k : Nat} (X : xs_C p s m c cc nL args "ExactScene") (G : xs_G D ad cs s A H0 μ H locs) (hk : k < 20) (hdg : decode cc pc = .ok (.getfield 240, 3)) (kk : W p l e R s m args below meth c H locs cells slots Q (F0 m (pc + 3) ls (.int (μ.1 (14 + 7 * k) 7) :: rest))) : W p l e R s m args below meth c H locs cells slots Q (F0 m pc ls (.ref (ad (14 + 7 * k)) :: rest)) :=
  xs_get1N (ci := 3) (k := 7) (host := "ExactScene") X G in_T (xs_wT ad cs μ hk) rfl (by decide) (xs_nw 100 (by decide +kernel) (by decide +kernel)) rfl hdg kk
theorem gf_S_26 (X : xs_C p s m c cc nL args "ExactScene") (G : xs_G D ad cs s A H0 μ H locs) (hdg : decode cc pc = .ok (.getfield 26, 3)) (kk : W p l e R s m args below meth c H locs cells slots Q (F0 m (pc + 3) ls (.ref (ad 8) :: rest))) : W p l e R s m args below meth c H locs cells slots Q (F0 m pc ls (.ref (ad 0) :: rest)) :=
  xs_get1 (ci := 0) (k := 2) X G in_S (xs_wS ad cs μ) rfl (by decide) (xs_tg 127 (by decide +kernel) (by decide +kernel)) rfl hdg kk
theorem gf_S_176 (X : xs_C p s m c cc nL args "ExactScene") (G : xs_G D ad cs s A H0 μ H locs) (hdg : decode cc pc = .ok (.getfield 176, 3)) (kk : W p l e R s m args below meth c H locs cells slots Q (F0 m (pc + 3) ls (.ref (ad 9) :: rest))) : W p l e R s m args below meth c H locs cells slots Q (F0 m pc ls (.ref (ad 8) :: rest)) :=
  xs_get1N (ci := 4) (k := 0) (host := "ExactScene") X G in_P (xs_wP ad cs μ) rfl (by decide) (xs_nw 69 (by decide +kernel) (by decide +kernel)) rfl hdg kk
theorem gf_S_182 (X : xs_C p s m c cc nL args "ExactScene") (G : xs_G D ad cs s A H0 μ H locs) (hdg : decode cc pc = .ok (.getfield 182, 3)) (kk : W p l e R s m args below meth c H locs cells slots Q (F0 m (pc + 3) ls (.ref (ad 10) :: rest))) : W p l e R s m args below meth c H locs cells slots Q (F0 m pc ls (.ref (ad 8) :: rest)) :=
  xs_get1N (ci := 4) (k := 1) (host := "ExactScene") X G in_P (xs_wP ad cs μ) rfl (by decide) (xs_nw 71 (by decide +kernel) (by decide +kernel)) rfl hdg kk
theorem gf_R_59 (X : xs_C p s m c cc nL args "ExactSceneModel") (G : xs_G D ad cs s A H0 μ H locs) (hdg : decode cc pc = .ok (.getfield 59, 3)) (kk : W p l e R s m args below meth c H locs cells slots Q (F0 m (pc + 3) ls (.int (μ.1 154 0) :: rest))) : W p l e R s m args below meth c H locs cells slots Q (F0 m pc ls (.ref (ad 154) :: rest)) :=
  xs_get1 (ci := 5) (k := 0) X G in_R (xs_wR ad cs μ) rfl (by decide) (xs_tg 632 (by decide +kernel) (by decide +kernel)) rfl hdg kk
theorem pf_R_59 {x : Int32} (X : xs_C p s m c cc nL args "ExactSceneModel") (G : xs_G D ad cs s A H0 μ H locs) (hdg : decode cc pc = .ok (.putfield 59, 3)) (kk : ∀ (H1 : Heap) (locs1 : List Loc), xs_G D ad cs s A H0 (xs_si μ 154 0 x) H1 locs1 → W p l e R s m args below meth c H1 locs1 cells slots Q (F0 m (pc + 3) ls (rest))) : W p l e R s m args below meth c H locs cells slots Q (F0 m pc ls (.int x :: .ref (ad 154) :: rest)) :=
  xs_put1 (ci := 5) (k := 0) (ty0 := ty_R) (ty := .int) X G in_R ty_R_ok nm_R (xs_wR ad cs μ) rfl (by decide) (xs_tg 632 (by decide +kernel) (by decide +kernel)) rfl (by decide +kernel) rfl rfl (Nat.le_of_ble_eq_true rfl) (xs_set (μ2 := xs_si μ 154 0 x) (by decide) (by simp only [xs_si, va_up_self]; exact rfl) (fun j hj => ⟨va_up_ne _ _ hj, rfl⟩)) hdg kk
theorem gf_R_7 (X : xs_C p s m c cc nL args "ExactSceneModel") (G : xs_G D ad cs s A H0 μ H locs) (hdg : decode cc pc = .ok (.getfield 7, 3)) (kk : W p l e R s m args below meth c H locs cells slots Q (F0 m (pc + 3) ls (.ref (ad 155) :: rest))) : W p l e R s m args below meth c H locs cells slots Q (F0 m pc ls (.ref (ad 154) :: rest)) :=
  xs_get1 (ci := 5) (k := 1) X G in_R (xs_wR ad cs μ) rfl (by decide) (xs_tg 633 (by decide +kernel) (by decide +kernel)) rfl hdg kk
theorem gf_R_13 (X : xs_C p s m c cc nL args "ExactSceneModel") (G : xs_G D ad cs s A H0 μ H locs) (hdg : decode cc pc = .ok (.getfield 13, 3)) (kk : W p l e R s m args below meth c H locs cells slots Q (F0 m (pc + 3) ls (.ref (ad 156) :: rest))) : W p l e R s m args below meth c H locs cells slots Q (F0 m pc ls (.ref (ad 154) :: rest)) :=
  xs_get1 (ci := 5) (k := 2) X G in_R (xs_wR ad cs μ) rfl (by decide) (xs_tg 634 (by decide +kernel) (by decide +kernel)) rfl hdg kk
theorem gf_R_71 (X : xs_C p s m c cc nL args "ExactSceneModel") (G : xs_G D ad cs s A H0 μ H locs) (hdg : decode cc pc = .ok (.getfield 71, 3)) (kk : W p l e R s m args below meth c H locs cells slots Q (F0 m (pc + 3) ls (.int (μ.1 154 4) :: rest))) : W p l e R s m args below meth c H locs cells slots Q (F0 m pc ls (.ref (ad 154) :: rest)) :=
  xs_get1 (ci := 5) (k := 4) X G in_R (xs_wR ad cs μ) rfl (by decide) (xs_tg 636 (by decide +kernel) (by decide +kernel)) rfl hdg kk
theorem gf_R_16 (X : xs_C p s m c cc nL args "ExactSceneModel") (G : xs_G D ad cs s A H0 μ H locs) (hdg : decode cc pc = .ok (.getfield 16, 3)) (kk : W p l e R s m args below meth c H locs cells slots Q (F0 m (pc + 3) ls (.ref (ad 157) :: rest))) : W p l e R s m args below meth c H locs cells slots Q (F0 m pc ls (.ref (ad 154) :: rest)) :=
  xs_get1 (ci := 5) (k := 3) X G in_R (xs_wR ad cs μ) rfl (by decide) (xs_tg 635 (by decide +kernel) (by decide +kernel)) rfl hdg kk
theorem pf_R_71 {x : Int32} (X : xs_C p s m c cc nL args "ExactSceneModel") (G : xs_G D ad cs s A H0 μ H locs) (hdg : decode cc pc = .ok (.putfield 71, 3)) (kk : ∀ (H1 : Heap) (locs1 : List Loc), xs_G D ad cs s A H0 (xs_si μ 154 4 x) H1 locs1 → W p l e R s m args below meth c H1 locs1 cells slots Q (F0 m (pc + 3) ls (rest))) : W p l e R s m args below meth c H locs cells slots Q (F0 m pc ls (.int x :: .ref (ad 154) :: rest)) :=
  xs_put1 (ci := 5) (k := 4) (ty0 := ty_R) (ty := .int) X G in_R ty_R_ok nm_R (xs_wR ad cs μ) rfl (by decide) (xs_tg 636 (by decide +kernel) (by decide +kernel)) rfl (by decide +kernel) rfl rfl (Nat.le_of_ble_eq_true rfl) (xs_set (μ2 := xs_si μ 154 4 x) (by decide) (by simp only [xs_si, va_up_self]; exact rfl) (fun j hj => ⟨va_up_ne _ _ hj, rfl⟩)) hdg kk
theorem gf_R_78 (X : xs_C p s m c cc nL args "ExactSceneModel") (G : xs_G D ad cs s A H0 μ H locs) (hdg : decode cc pc = .ok (.getfield 78, 3)) (kk : W p l e R s m args below meth c H locs cells slots Q (F0 m (pc + 3) ls (.int (μ.1 154 9) :: rest))) : W p l e R s m args below meth c H locs cells slots Q (F0 m pc ls (.ref (ad 154) :: rest)) :=
  xs_get1 (ci := 5) (k := 9) X G in_R (xs_wR ad cs μ) rfl (by decide) (xs_tg 641 (by decide +kernel) (by decide +kernel)) rfl hdg kk
theorem gf_R_22 (X : xs_C p s m c cc nL args "ExactSceneModel") (G : xs_G D ad cs s A H0 μ H locs) (hdg : decode cc pc = .ok (.getfield 22, 3)) (kk : W p l e R s m args below meth c H locs cells slots Q (F0 m (pc + 3) ls (.ref (ad 159) :: rest))) : W p l e R s m args below meth c H locs cells slots Q (F0 m pc ls (.ref (ad 154) :: rest)) :=
  xs_get1 (ci := 5) (k := 10) X G in_R (xs_wR ad cs μ) rfl (by decide) (xs_tg 642 (by decide +kernel) (by decide +kernel)) rfl hdg kk
theorem pf_R_78 {x : Int32} (X : xs_C p s m c cc nL args "ExactSceneModel") (G : xs_G D ad cs s A H0 μ H locs) (hdg : decode cc pc = .ok (.putfield 78, 3)) (kk : ∀ (H1 : Heap) (locs1 : List Loc), xs_G D ad cs s A H0 (xs_si μ 154 9 x) H1 locs1 → W p l e R s m args below meth c H1 locs1 cells slots Q (F0 m (pc + 3) ls (rest))) : W p l e R s m args below meth c H locs cells slots Q (F0 m pc ls (.int x :: .ref (ad 154) :: rest)) :=
  xs_put1 (ci := 5) (k := 9) (ty0 := ty_R) (ty := .int) X G in_R ty_R_ok nm_R (xs_wR ad cs μ) rfl (by decide) (xs_tg 641 (by decide +kernel) (by decide +kernel)) rfl (by decide +kernel) rfl rfl (Nat.le_of_ble_eq_true rfl) (xs_set (μ2 := xs_si μ 154 9 x) (by decide) (by simp only [xs_si, va_up_self]; exact rfl) (fun j hj => ⟨va_up_ne _ _ hj, rfl⟩)) hdg kk
theorem gf_R_25 (X : xs_C p s m c cc nL args "ExactSceneModel") (G : xs_G D ad cs s A H0 μ H locs) (hdg : decode cc pc = .ok (.getfield 25, 3)) (kk : W p l e R s m args below meth c H locs cells slots Q (F0 m (pc + 3) ls (.ref (ad 160) :: rest))) : W p l e R s m args below meth c H locs cells slots Q (F0 m pc ls (.ref (ad 154) :: rest)) :=
  xs_get1 (ci := 5) (k := 11) X G in_R (xs_wR ad cs μ) rfl (by decide) (xs_tg 643 (by decide +kernel) (by decide +kernel)) rfl hdg kk
theorem gf_R_85 (X : xs_C p s m c cc nL args "ExactSceneModel") (G : xs_G D ad cs s A H0 μ H locs) (hdg : decode cc pc = .ok (.getfield 85, 3)) (kk : W p l e R s m args below meth c H locs cells slots Q (F0 m (pc + 3) ls (.int (μ.1 154 5) :: rest))) : W p l e R s m args below meth c H locs cells slots Q (F0 m pc ls (.ref (ad 154) :: rest)) :=
  xs_get1 (ci := 5) (k := 5) X G in_R (xs_wR ad cs μ) rfl (by decide) (xs_tg 637 (by decide +kernel) (by decide +kernel)) rfl hdg kk
theorem gf_R_28 (X : xs_C p s m c cc nL args "ExactSceneModel") (G : xs_G D ad cs s A H0 μ H locs) (hdg : decode cc pc = .ok (.getfield 28, 3)) (kk : W p l e R s m args below meth c H locs cells slots Q (F0 m (pc + 3) ls (.ref (ad 161) :: rest))) : W p l e R s m args below meth c H locs cells slots Q (F0 m pc ls (.ref (ad 154) :: rest)) :=
  xs_get1 (ci := 5) (k := 12) X G in_R (xs_wR ad cs μ) rfl (by decide) (xs_tg 644 (by decide +kernel) (by decide +kernel)) rfl hdg kk
theorem gf_R_88 (X : xs_C p s m c cc nL args "ExactSceneModel") (G : xs_G D ad cs s A H0 μ H locs) (hdg : decode cc pc = .ok (.getfield 88, 3)) (kk : W p l e R s m args below meth c H locs cells slots Q (F0 m (pc + 3) ls (.int (μ.1 154 6) :: rest))) : W p l e R s m args below meth c H locs cells slots Q (F0 m pc ls (.ref (ad 154) :: rest)) :=
  xs_get1 (ci := 5) (k := 6) X G in_R (xs_wR ad cs μ) rfl (by decide) (xs_tg 638 (by decide +kernel) (by decide +kernel)) rfl hdg kk
theorem gf_R_31 (X : xs_C p s m c cc nL args "ExactSceneModel") (G : xs_G D ad cs s A H0 μ H locs) (hdg : decode cc pc = .ok (.getfield 31, 3)) (kk : W p l e R s m args below meth c H locs cells slots Q (F0 m (pc + 3) ls (.ref (ad 162) :: rest))) : W p l e R s m args below meth c H locs cells slots Q (F0 m pc ls (.ref (ad 154) :: rest)) :=
  xs_get1 (ci := 5) (k := 13) X G in_R (xs_wR ad cs μ) rfl (by decide) (xs_tg 645 (by decide +kernel) (by decide +kernel)) rfl hdg kk
theorem gf_R_91 (X : xs_C p s m c cc nL args "ExactSceneModel") (G : xs_G D ad cs s A H0 μ H locs) (hdg : decode cc pc = .ok (.getfield 91, 3)) (kk : W p l e R s m args below meth c H locs cells slots Q (F0 m (pc + 3) ls (.int (μ.1 154 7) :: rest))) : W p l e R s m args below meth c H locs cells slots Q (F0 m pc ls (.ref (ad 154) :: rest)) :=
  xs_get1 (ci := 5) (k := 7) X G in_R (xs_wR ad cs μ) rfl (by decide) (xs_tg 639 (by decide +kernel) (by decide +kernel)) rfl hdg kk
theorem pf_R_85 {x : Int32} (X : xs_C p s m c cc nL args "ExactSceneModel") (G : xs_G D ad cs s A H0 μ H locs) (hdg : decode cc pc = .ok (.putfield 85, 3)) (kk : ∀ (H1 : Heap) (locs1 : List Loc), xs_G D ad cs s A H0 (xs_si μ 154 5 x) H1 locs1 → W p l e R s m args below meth c H1 locs1 cells slots Q (F0 m (pc + 3) ls (rest))) : W p l e R s m args below meth c H locs cells slots Q (F0 m pc ls (.int x :: .ref (ad 154) :: rest)) :=
  xs_put1 (ci := 5) (k := 5) (ty0 := ty_R) (ty := .int) X G in_R ty_R_ok nm_R (xs_wR ad cs μ) rfl (by decide) (xs_tg 637 (by decide +kernel) (by decide +kernel)) rfl (by decide +kernel) rfl rfl (Nat.le_of_ble_eq_true rfl) (xs_set (μ2 := xs_si μ 154 5 x) (by decide) (by simp only [xs_si, va_up_self]; exact rfl) (fun j hj => ⟨va_up_ne _ _ hj, rfl⟩)) hdg kk
theorem pf_R_88 {x : Int32} (X : xs_C p s m c cc nL args "ExactSceneModel") (G : xs_G D ad cs s A H0 μ H locs) (hdg : decode cc pc = .ok (.putfield 88, 3)) (kk : ∀ (H1 : Heap) (locs1 : List Loc), xs_G D ad cs s A H0 (xs_si μ 154 6 x) H1 locs1 → W p l e R s m args below meth c H1 locs1 cells slots Q (F0 m (pc + 3) ls (rest))) : W p l e R s m args below meth c H locs cells slots Q (F0 m pc ls (.int x :: .ref (ad 154) :: rest)) :=
  xs_put1 (ci := 5) (k := 6) (ty0 := ty_R) (ty := .int) X G in_R ty_R_ok nm_R (xs_wR ad cs μ) rfl (by decide) (xs_tg 638 (by decide +kernel) (by decide +kernel)) rfl (by decide +kernel) rfl rfl (Nat.le_of_ble_eq_true rfl) (xs_set (μ2 := xs_si μ 154 6 x) (by decide) (by simp only [xs_si, va_up_self]; exact rfl) (fun j hj => ⟨va_up_ne _ _ hj, rfl⟩)) hdg kk
theorem pf_R_91 {x : Int32} (X : xs_C p s m c cc nL args "ExactSceneModel") (G : xs_G D ad cs s A H0 μ H locs) (hdg : decode cc pc = .ok (.putfield 91, 3)) (kk : ∀ (H1 : Heap) (locs1 : List Loc), xs_G D ad cs s A H0 (xs_si μ 154 7 x) H1 locs1 → W p l e R s m args below meth c H1 locs1 cells slots Q (F0 m (pc + 3) ls (rest))) : W p l e R s m args below meth c H locs cells slots Q (F0 m pc ls (.int x :: .ref (ad 154) :: rest)) :=
  xs_put1 (ci := 5) (k := 7) (ty0 := ty_R) (ty := .int) X G in_R ty_R_ok nm_R (xs_wR ad cs μ) rfl (by decide) (xs_tg 639 (by decide +kernel) (by decide +kernel)) rfl (by decide +kernel) rfl rfl (Nat.le_of_ble_eq_true rfl) (xs_set (μ2 := xs_si μ 154 7 x) (by decide) (by simp only [xs_si, va_up_self]; exact rfl) (fun j hj => ⟨va_up_ne _ _ hj, rfl⟩)) hdg kk
theorem gf_R_19 (X : xs_C p s m c cc nL args "ExactSceneModel") (G : xs_G D ad cs s A H0 μ H locs) (hdg : decode cc pc = .ok (.getfield 19, 3)) (kk : W p l e R s m args below meth c H locs cells slots Q (F0 m (pc + 3) ls (.ref (ad 158) :: rest))) : W p l e R s m args below meth c H locs cells slots Q (F0 m pc ls (.ref (ad 154) :: rest)) :=
  xs_get1 (ci := 5) (k := 8) X G in_R (xs_wR ad cs μ) rfl (by decide) (xs_tg 640 (by decide +kernel) (by decide +kernel)) rfl hdg kk
theorem gf_R_34 (X : xs_C p s m c cc nL args "ExactSceneModel") (G : xs_G D ad cs s A H0 μ H locs) (hdg : decode cc pc = .ok (.getfield 34, 3)) (kk : W p l e R s m args below meth c H locs cells slots Q (F0 m (pc + 3) ls (.ref (ad 163) :: rest))) : W p l e R s m args below meth c H locs cells slots Q (F0 m pc ls (.ref (ad 154) :: rest)) :=
  xs_get1 (ci := 5) (k := 15) X G in_R (xs_wR ad cs μ) rfl (by decide) (xs_tg 647 (by decide +kernel) (by decide +kernel)) rfl hdg kk
theorem gf_R_38 (X : xs_C p s m c cc nL args "ExactSceneModel") (G : xs_G D ad cs s A H0 μ H locs) (hdg : decode cc pc = .ok (.getfield 38, 3)) (kk : W p l e R s m args below meth c H locs cells slots Q (F0 m (pc + 3) ls (.ref (ad 164) :: rest))) : W p l e R s m args below meth c H locs cells slots Q (F0 m pc ls (.ref (ad 154) :: rest)) :=
  xs_get1 (ci := 5) (k := 16) X G in_R (xs_wR ad cs μ) rfl (by decide) (xs_tg 648 (by decide +kernel) (by decide +kernel)) rfl hdg kk
theorem gf_R_41 (X : xs_C p s m c cc nL args "ExactSceneModel") (G : xs_G D ad cs s A H0 μ H locs) (hdg : decode cc pc = .ok (.getfield 41, 3)) (kk : W p l e R s m args below meth c H locs cells slots Q (F0 m (pc + 3) ls (.ref (ad 165) :: rest))) : W p l e R s m args below meth c H locs cells slots Q (F0 m pc ls (.ref (ad 154) :: rest)) :=
  xs_get1 (ci := 5) (k := 17) X G in_R (xs_wR ad cs μ) rfl (by decide) (xs_tg 649 (by decide +kernel) (by decide +kernel)) rfl hdg kk
theorem pf_R_98 {x : Int64} (X : xs_C p s m c cc nL args "ExactSceneModel") (G : xs_G D ad cs s A H0 μ H locs) (hdg : decode cc pc = .ok (.putfield 98, 3)) (kk : ∀ (H1 : Heap) (locs1 : List Loc), xs_G D ad cs s A H0 (xs_sl μ 154 14 x) H1 locs1 → W p l e R s m args below meth c H1 locs1 cells slots Q (F0 m (pc + 3) ls (rest))) : W p l e R s m args below meth c H locs cells slots Q (F0 m pc ls (.long x :: .ref (ad 154) :: rest)) :=
  xs_put1 (ci := 5) (k := 14) (ty0 := ty_R) (ty := .long) X G in_R ty_R_ok nm_R (xs_wR ad cs μ) rfl (by decide) (xs_tg 646 (by decide +kernel) (by decide +kernel)) rfl (by decide +kernel) rfl rfl (Nat.le_of_ble_eq_true rfl) (xs_set (μ2 := xs_sl μ 154 14 x) (by decide) (by simp only [xs_sl, va_up_self]; exact rfl) (fun j hj => ⟨rfl, va_up_ne _ _ hj⟩)) hdg kk
theorem gf_R_98 (X : xs_C p s m c cc nL args "ExactSceneModel") (G : xs_G D ad cs s A H0 μ H locs) (hdg : decode cc pc = .ok (.getfield 98, 3)) (kk : W p l e R s m args below meth c H locs cells slots Q (F0 m (pc + 3) ls (.long (μ.2 154 14) :: rest))) : W p l e R s m args below meth c H locs cells slots Q (F0 m pc ls (.ref (ad 154) :: rest)) :=
  xs_get1 (ci := 5) (k := 14) X G in_R (xs_wR ad cs μ) rfl (by decide) (xs_tg 646 (by decide +kernel) (by decide +kernel)) rfl hdg kk
theorem gf_R_44 (X : xs_C p s m c cc nL args "ExactSceneModel") (G : xs_G D ad cs s A H0 μ H locs) (hdg : decode cc pc = .ok (.getfield 44, 3)) (kk : W p l e R s m args below meth c H locs cells slots Q (F0 m (pc + 3) ls (.ref (ad 166) :: rest))) : W p l e R s m args below meth c H locs cells slots Q (F0 m pc ls (.ref (ad 154) :: rest)) :=
  xs_get1 (ci := 5) (k := 18) X G in_R (xs_wR ad cs μ) rfl (by decide) (xs_tg 650 (by decide +kernel) (by decide +kernel)) rfl hdg kk
theorem gf_R_47 (X : xs_C p s m c cc nL args "ExactSceneModel") (G : xs_G D ad cs s A H0 μ H locs) (hdg : decode cc pc = .ok (.getfield 47, 3)) (kk : W p l e R s m args below meth c H locs cells slots Q (F0 m (pc + 3) ls (.ref (ad 167) :: rest))) : W p l e R s m args below meth c H locs cells slots Q (F0 m pc ls (.ref (ad 154) :: rest)) :=
  xs_get1 (ci := 5) (k := 19) X G in_R (xs_wR ad cs μ) rfl (by decide) (xs_tg 651 (by decide +kernel) (by decide +kernel)) rfl hdg kk
theorem gf_R_50 (X : xs_C p s m c cc nL args "ExactSceneModel") (G : xs_G D ad cs s A H0 μ H locs) (hdg : decode cc pc = .ok (.getfield 50, 3)) (kk : W p l e R s m args below meth c H locs cells slots Q (F0 m (pc + 3) ls (.ref (ad 168) :: rest))) : W p l e R s m args below meth c H locs cells slots Q (F0 m pc ls (.ref (ad 154) :: rest)) :=
  xs_get1 (ci := 5) (k := 20) X G in_R (xs_wR ad cs μ) rfl (by decide) (xs_tg 652 (by decide +kernel) (by decide +kernel)) rfl hdg kk
theorem gf_R_53 (X : xs_C p s m c cc nL args "ExactSceneModel") (G : xs_G D ad cs s A H0 μ H locs) (hdg : decode cc pc = .ok (.getfield 53, 3)) (kk : W p l e R s m args below meth c H locs cells slots Q (F0 m (pc + 3) ls (.ref (ad 169) :: rest))) : W p l e R s m args below meth c H locs cells slots Q (F0 m pc ls (.ref (ad 154) :: rest)) :=
  xs_get1 (ci := 5) (k := 21) X G in_R (xs_wR ad cs μ) rfl (by decide) (xs_tg 653 (by decide +kernel) (by decide +kernel)) rfl hdg kk
theorem gf_R_56 (X : xs_C p s m c cc nL args "ExactSceneModel") (G : xs_G D ad cs s A H0 μ H locs) (hdg : decode cc pc = .ok (.getfield 56, 3)) (kk : W p l e R s m args below meth c H locs cells slots Q (F0 m (pc + 3) ls (.ref (ad 170) :: rest))) : W p l e R s m args below meth c H locs cells slots Q (F0 m pc ls (.ref (ad 154) :: rest)) :=
  xs_get1 (ci := 5) (k := 22) X G in_R (xs_wR ad cs μ) rfl (by decide) (xs_tg 654 (by decide +kernel) (by decide +kernel)) rfl hdg kk
end XSF
theorem km_M_22 : xs_kSN "ExactScene$Matrices" 22 y_S_isWithin "ExactScene" b_S_isWithin 3 (some .boolean) 3 := ⟨xs_nw 268 (by decide +kernel) (by decide +kernel), ws_S_isWithin, wi_S, wc_S_isWithin, by decide, by decide, by decide +kernel⟩
theorem km_S_37 : xs_kS "ExactScene" 37 y_M_isLine b_M_isLine 1 (some .boolean) 1 := ⟨xs_tg 265 (by decide +kernel) (by decide +kernel), ws_M_isLine, wi_M, wc_M_isLine, by decide, by decide, by decide +kernel⟩
theorem km_S_48 : xs_kS "ExactScene" 48 y_M_isEntry b_M_isEntry 2 (some .boolean) 1 := ⟨xs_tg 338 (by decide +kernel) (by decide +kernel), ws_M_isEntry, wi_M, wc_M_isEntry, by decide, by decide, by decide +kernel⟩
theorem km_M_54 : xs_kS "ExactScene$Matrices" 54 y_M_isEntry b_M_isEntry 2 (some .boolean) 1 := ⟨xs_tg 368 (by decide +kernel) (by decide +kernel), ws_M_isEntry, wi_M, wc_M_isEntry, by decide, by decide, by decide +kernel⟩
theorem km_M_40 : xs_kV "ExactScene$Matrices" 40 y_M_setDiagonalFactor b_M_setDiagonalFactor 5 none 3 := ⟨xs_tg 360 (by decide +kernel) (by decide +kernel), ⟨ws_M_setDiagonalFactor, wl_M_setDiagonalFactor⟩, wi_M, wc_M_setDiagonalFactor, by decide, by decide, by decide +kernel⟩
theorem km_M_44 : xs_kV "ExactScene$Matrices" 44 y_M_multiply b_M_multiply 9 (some .boolean) 3 := ⟨xs_tg 364 (by decide +kernel) (by decide +kernel), ⟨ws_M_multiply, wl_M_multiply⟩, wi_M, wc_M_multiply, by decide, by decide, by decide +kernel⟩
theorem km_S_58 : xs_kV "ExactScene" 58 y_M_multiplyByMove b_M_multiplyByMove 4 (some .boolean) 3 := ⟨xs_tg 356 (by decide +kernel) (by decide +kernel), ⟨ws_M_multiplyByMove, wl_M_multiplyByMove⟩, wi_M, wc_M_multiplyByMove, by decide, by decide, by decide +kernel⟩
theorem km_S_67 : xs_kV "ExactScene" 67 y_M_multiplyByStretch b_M_multiplyByStretch 4 (some .boolean) 3 := ⟨xs_tg 395 (by decide +kernel) (by decide +kernel), ⟨ws_M_multiplyByStretch, wl_M_multiplyByStretch⟩, wi_M, wc_M_multiplyByStretch, by decide, by decide, by decide +kernel⟩
theorem km_S_70 : xs_kS "ExactScene" 70 y_S_isWithin b_S_isWithin 3 (some .boolean) 3 := ⟨xs_tg 163 (by decide +kernel) (by decide +kernel), ws_S_isWithin, wi_S, wc_S_isWithin, by decide, by decide, by decide +kernel⟩
theorem km_S_75 : xs_kV "ExactScene" 75 y_M_quarterTurn b_M_quarterTurn 5 none 2 := ⟨xs_tg 407 (by decide +kernel) (by decide +kernel), ⟨ws_M_quarterTurn, wl_M_quarterTurn⟩, wi_M, wc_M_quarterTurn, by decide, by decide, by decide +kernel⟩
theorem km_S_79 : xs_kV "ExactScene" 79 y_M_isPileEmpty b_M_isPileEmpty 1 (some .boolean) 0 := ⟨xs_tg 419 (by decide +kernel) (by decide +kernel), ⟨ws_M_isPileEmpty, wl_M_isPileEmpty⟩, wi_M, wc_M_isPileEmpty, by decide, by decide, by decide +kernel⟩
theorem km_S_88 : xs_kV "ExactScene" 88 y_M_multiplyLatestByCurrent b_M_multiplyLatestByCurrent 2 (some .boolean) 0 := ⟨xs_tg 439 (by decide +kernel) (by decide +kernel), ⟨ws_M_multiplyLatestByCurrent, wl_M_multiplyLatestByCurrent⟩, wi_M, wc_M_multiplyLatestByCurrent, by decide, by decide, by decide +kernel⟩
theorem km_S_91 : xs_kV "ExactScene" 91 y_M_isPileFull b_M_isPileFull 1 (some .boolean) 0 := ⟨xs_tg 450 (by decide +kernel) (by decide +kernel), ⟨ws_M_isPileFull, wl_M_isPileFull⟩, wi_M, wc_M_isPileFull, by decide, by decide, by decide +kernel⟩
theorem km_S_96 : xs_kV "ExactScene" 96 y_M_save b_M_save 1 none 0 := ⟨xs_tg 455 (by decide +kernel) (by decide +kernel), ⟨ws_M_save, wl_M_save⟩, wi_M, wc_M_save, by decide, by decide, by decide +kernel⟩
theorem km_S_99 : xs_kV "ExactScene" 99 y_M_restore b_M_restore 1 none 0 := ⟨xs_tg 466 (by decide +kernel) (by decide +kernel), ⟨ws_M_restore, wl_M_restore⟩, wi_M, wc_M_restore, by decide, by decide, by decide +kernel⟩
theorem km_M_36 : xs_kV "ExactScene$Matrices" 36 y_M_entryAt b_M_entryAt 3 (some .int) 2 := ⟨xs_tg 522 (by decide +kernel) (by decide +kernel), ⟨ws_M_entryAt, wl_M_entryAt⟩, wi_M, wc_M_entryAt, by decide, by decide, by decide +kernel⟩
theorem km_T_49 : xs_kV "ExactScene$Triangle" 49 y_T_placeQ b_T_placeQ 2 (some .long) 1 := ⟨xs_tg 539 (by decide +kernel) (by decide +kernel), ⟨ws_T_placeQ, wl_T_placeQ⟩, wi_T, wc_T_placeQ, by decide, by decide, by decide +kernel⟩
theorem km_T_52 : xs_kV "ExactScene$Triangle" 52 y_T_placeW b_T_placeW 2 (some .long) 1 := ⟨xs_tg 543 (by decide +kernel) (by decide +kernel), ⟨ws_T_placeW, wl_T_placeW⟩, wi_T, wc_T_placeW, by decide, by decide, by decide +kernel⟩
theorem km_T_45 : xs_kV "ExactScene$Triangle" 45 y_T_placeP b_T_placeP 2 (some .long) 1 := ⟨xs_tg 547 (by decide +kernel) (by decide +kernel), ⟨ws_T_placeP, wl_T_placeP⟩, wi_T, wc_T_placeP, by decide, by decide, by decide +kernel⟩
theorem km_T_41 : xs_kV "ExactScene$Triangle" 41 y_T_setEdge b_T_setEdge 4 none 3 := ⟨xs_tg 535 (by decide +kernel) (by decide +kernel), ⟨ws_T_setEdge, wl_T_setEdge⟩, wi_T, wc_T_setEdge, by decide, by decide, by decide +kernel⟩
theorem km_T_59 : xs_kV "ExactScene$Triangle" 59 y_T_turnToNegatives b_T_turnToNegatives 2 none 0 := ⟨xs_tg 551 (by decide +kernel) (by decide +kernel), ⟨ws_T_turnToNegatives, wl_T_turnToNegatives⟩, wi_T, wc_T_turnToNegatives, by decide, by decide, by decide +kernel⟩
theorem km_S_204 : xs_kV "ExactScene" 204 y_M_rowTimes b_M_rowTimes 5 (some .int) 4 := ⟨xs_tg 518 (by decide +kernel) (by decide +kernel), ⟨ws_M_rowTimes, wl_M_rowTimes⟩, wi_M, wc_M_rowTimes, by decide, by decide, by decide +kernel⟩
theorem km_S_208 : xs_kV "ExactScene" 208 y_T_setPlace b_T_setPlace 5 none 4 := ⟨xs_tg 523 (by decide +kernel) (by decide +kernel), ⟨ws_T_setPlace, wl_T_setPlace⟩, wi_T, wc_T_setPlace, by decide, by decide, by decide +kernel⟩
theorem km_S_212 : xs_kV "ExactScene" 212 y_T_setRest b_T_setRest 5 none 4 := ⟨xs_tg 527 (by decide +kernel) (by decide +kernel), ⟨ws_T_setRest, wl_T_setRest⟩, wi_T, wc_T_setRest, by decide, by decide, by decide +kernel⟩
theorem km_S_215 : xs_kV "ExactScene" 215 y_T_complete b_T_complete 5 none 3 := ⟨xs_tg 531 (by decide +kernel) (by decide +kernel), ⟨ws_T_complete, wl_T_complete⟩, wi_T, wc_T_complete, by decide, by decide, by decide +kernel⟩
theorem km_S_111 : xs_kS "ExactScene" 111 y_S_isPlace b_S_isPlace 1 (some .boolean) 1 := ⟨xs_tg 505 (by decide +kernel) (by decide +kernel), ws_S_isPlace, wi_S, wc_S_isPlace, by decide, by decide, by decide +kernel⟩
theorem km_X_13 : xs_kSN "ExactScene$Textures" 13 y_S_isWithin "ExactScene" b_S_isWithin 3 (some .boolean) 3 := ⟨xs_nw 160 (by decide +kernel) (by decide +kernel), ws_S_isWithin, wi_S, wc_S_isWithin, by decide, by decide, by decide +kernel⟩
theorem km_S_130 : xs_kS "ExactScene" 130 y_X_isTexture b_X_isTexture 1 (some .boolean) 1 := ⟨xs_tg 157 (by decide +kernel) (by decide +kernel), ws_X_isTexture, wi_X, wc_X_isTexture, by decide, by decide, by decide +kernel⟩
theorem km_T_62 : xs_kV "ExactScene$Triangle" 62 y_T_weightAt b_T_weightAt 4 (some .long) 3 := ⟨xs_tg 185 (by decide +kernel) (by decide +kernel), ⟨ws_T_weightAt, wl_T_weightAt⟩, wi_T, wc_T_weightAt, by decide, by decide, by decide +kernel⟩
theorem km_T_66 : xs_kV "ExactScene$Triangle" 66 y_T_ownsItsEdge b_T_ownsItsEdge 2 (some .boolean) 1 := ⟨xs_tg 189 (by decide +kernel) (by decide +kernel), ⟨ws_T_ownsItsEdge, wl_T_ownsItsEdge⟩, wi_T, wc_T_ownsItsEdge, by decide, by decide, by decide +kernel⟩
theorem km_P_63 : xs_kV "ExactScene$Picture" 63 y_P_isOwned b_P_isOwned 2 (some .boolean) 1 := ⟨xs_tg 204 (by decide +kernel) (by decide +kernel), ⟨ws_P_isOwned, wl_P_isOwned⟩, wi_P, wc_P_isOwned, by decide, by decide, by decide +kernel⟩
theorem km_P_55 : xs_kS "ExactScene$Picture" 55 y_P_compareQuotients b_P_compareQuotients 14 (some .int) 4 := ⟨xs_tg 208 (by decide +kernel) (by decide +kernel), ws_P_compareQuotients, wi_P, wc_P_compareQuotients, by decide, by decide, by decide +kernel⟩
theorem km_P_33 : xs_kV "ExactScene$Picture" 33 y_T_covers b_T_covers 6 (some .boolean) 2 := ⟨xs_tg 181 (by decide +kernel) (by decide +kernel), ⟨ws_T_covers, wl_T_covers⟩, wi_T, wc_T_covers, by decide, by decide, by decide +kernel⟩
theorem km_P_39 : xs_kS "ExactScene$Picture" 39 y_P_indexOf b_P_indexOf 2 (some .int) 2 := ⟨xs_tg 193 (by decide +kernel) (by decide +kernel), ws_P_indexOf, wi_P, wc_P_indexOf, by decide, by decide, by decide +kernel⟩
theorem km_P_43 : xs_kV "ExactScene$Picture" 43 y_T_depthOver b_T_depthOver 6 (some .long) 2 := ⟨xs_tg 196 (by decide +kernel) (by decide +kernel), ⟨ws_T_depthOver, wl_T_depthOver⟩, wi_T, wc_T_depthOver, by decide, by decide, by decide +kernel⟩
theorem km_P_51 : xs_kV "ExactScene$Picture" 51 y_P_offerPixel b_P_offerPixel 7 none 4 := ⟨xs_tg 200 (by decide +kernel) (by decide +kernel), ⟨ws_P_offerPixel, wl_P_offerPixel⟩, wi_P, wc_P_offerPixel, by decide, by decide, by decide +kernel⟩
theorem km_S_243 : xs_kS "ExactScene" 243 y_J_floorDiv b_J_floorDiv 6 (some .long) 2 := ⟨xs_tg 233 (by decide +kernel) (by decide +kernel), ws_J_floorDiv, wi_J, wc_J_floorDiv, by decide, by decide, by decide +kernel⟩
theorem km_T_74 : xs_kSN "ExactScene$Triangle" 74 y_S_cutDown "ExactScene" b_S_cutDown 4 (some .long) 2 := ⟨xs_nw 230 (by decide +kernel) (by decide +kernel), ws_S_cutDown, wi_S, wc_S_cutDown, by decide, by decide, by decide +kernel⟩
theorem km_T_70 : xs_kV "ExactScene$Triangle" 70 y_T_weigh b_T_weigh 11 (some .long) 3 := ⟨xs_tg 226 (by decide +kernel) (by decide +kernel), ⟨ws_T_weigh, wl_T_weigh⟩, wi_T, wc_T_weigh, by decide, by decide, by decide +kernel⟩
theorem km_X_29 : xs_kS "ExactScene$Textures" 29 y_J_min b_J_min 4 (some .long) 2 := ⟨xs_tg 244 (by decide +kernel) (by decide +kernel), ws_J_min, wi_J, wc_J_min, by decide, by decide, by decide +kernel⟩
theorem km_X_32 : xs_kS "ExactScene$Textures" 32 y_J_max b_J_max 4 (some .long) 2 := ⟨xs_tg 247 (by decide +kernel) (by decide +kernel), ws_J_max, wi_J, wc_J_max, by decide, by decide, by decide +kernel⟩
theorem km_X_21 : xs_kS "ExactScene$Textures" 21 y_J_floorMod b_J_floorMod 6 (some .long) 2 := ⟨xs_tg 240 (by decide +kernel) (by decide +kernel), ws_J_floorMod, wi_J, wc_J_floorMod, by decide, by decide, by decide +kernel⟩
theorem km_S_226 : xs_kV "ExactScene" 226 y_T_textureU b_T_textureU 3 (some .long) 2 := ⟨xs_tg 222 (by decide +kernel) (by decide +kernel), ⟨ws_T_textureU, wl_T_textureU⟩, wi_T, wc_T_textureU, by decide, by decide, by decide +kernel⟩
theorem km_S_230 : xs_kS "ExactScene" 230 y_X_wrap b_X_wrap 3 (some .int) 2 := ⟨xs_tg 236 (by decide +kernel) (by decide +kernel), ws_X_wrap, wi_X, wc_X_wrap, by decide, by decide, by decide +kernel⟩
theorem km_S_234 : xs_kV "ExactScene" 234 y_T_textureV b_T_textureV 3 (some .long) 2 := ⟨xs_tg 250 (by decide +kernel) (by decide +kernel), ⟨ws_T_textureV, wl_T_textureV⟩, wi_T, wc_T_textureV, by decide, by decide, by decide +kernel⟩
theorem km_S_145 : xs_kS "ExactScene" 145 y_X_indexOf b_X_indexOf 3 (some .int) 3 := ⟨xs_tg 254 (by decide +kernel) (by decide +kernel), ws_X_indexOf, wi_X, wc_X_indexOf, by decide, by decide, by decide +kernel⟩
theorem km_S_180 : xs_kS "ExactScene" 180 y_P_indexOf b_P_indexOf 2 (some .int) 2 := ⟨xs_tg 216 (by decide +kernel) (by decide +kernel), ws_P_indexOf, wi_P, wc_P_indexOf, by decide, by decide, by decide +kernel⟩
theorem km_S_185 : xs_kV "ExactScene" 185 y_P_isOwned b_P_isOwned 2 (some .boolean) 1 := ⟨xs_tg 217 (by decide +kernel) (by decide +kernel), ⟨ws_P_isOwned, wl_P_isOwned⟩, wi_P, wc_P_isOwned, by decide, by decide, by decide +kernel⟩
theorem km_S_219 : xs_kV "ExactScene" 219 y_S_textureColour b_S_textureColour 6 (some .int) 3 := ⟨xs_tg 218 (by decide +kernel) (by decide +kernel), ⟨ws_S_textureColour, wl_S_textureColour⟩, wi_S, wc_S_textureColour, by decide, by decide, by decide +kernel⟩
theorem km_S_155 : xs_kV "ExactScene" 155 y_P_wipe b_P_wipe 3 none 1 := ⟨xs_tg 172 (by decide +kernel) (by decide +kernel), ⟨ws_P_wipe, wl_P_wipe⟩, wi_P, wc_P_wipe, by decide, by decide, by decide +kernel⟩
theorem km_S_159 : xs_kV "ExactScene" 159 y_T_isShown b_T_isShown 1 (some .boolean) 0 := ⟨xs_tg 173 (by decide +kernel) (by decide +kernel), ⟨ws_T_isShown, wl_T_isShown⟩, wi_T, wc_T_isShown, by decide, by decide, by decide +kernel⟩
theorem km_S_162 : xs_kV "ExactScene" 162 y_P_offerTriangle b_P_offerTriangle 5 none 2 := ⟨xs_tg 177 (by decide +kernel) (by decide +kernel), ⟨ws_P_offerTriangle, wl_P_offerTriangle⟩, wi_P, wc_P_offerTriangle, by decide, by decide, by decide +kernel⟩
theorem km_S_166 : xs_kV "ExactScene" 166 y_S_paintOwnedPixels b_S_paintOwnedPixels 5 (some .int) 0 := ⟨xs_tg 212 (by decide +kernel) (by decide +kernel), ⟨ws_S_paintOwnedPixels, wl_S_paintOwnedPixels⟩, wi_S, wc_S_paintOwnedPixels, by decide, by decide, by decide +kernel⟩
theorem km_P_29 : xs_kSN "ExactScene$Picture" 29 y_S_isWithin "ExactScene" b_S_isWithin 3 (some .boolean) 3 := ⟨xs_nw 580 (by decide +kernel) (by decide +kernel), ws_S_isWithin, wi_S, wc_S_isWithin, by decide, by decide, by decide +kernel⟩
theorem km_S_170 : xs_kS "ExactScene" 170 y_P_isPixel b_P_isPixel 2 (some .boolean) 2 := ⟨xs_tg 577 (by decide +kernel) (by decide +kernel), ws_P_isPixel, wi_P, wc_P_isPixel, by decide, by decide, by decide +kernel⟩
theorem km_P_59 : xs_kSN "ExactScene$Picture" 59 y_S_cutDown "ExactScene" b_S_cutDown 4 (some .long) 2 := ⟨xs_nw 613 (by decide +kernel) (by decide +kernel), ws_S_cutDown, wi_S, wc_S_cutDown, by decide, by decide, by decide +kernel⟩
theorem km_S_195 : xs_kV "ExactScene" 195 y_P_wholeDepth b_P_wholeDepth 2 (some .long) 1 := ⟨xs_tg 609 (by decide +kernel) (by decide +kernel), ⟨ws_P_wholeDepth, wl_P_wholeDepth⟩, wi_P, wc_P_wholeDepth, by decide, by decide, by decide +kernel⟩
theorem km_R_67 : xs_kS "ExactSceneModel" 67 y_R_fits b_R_fits 2 (some .boolean) 1 := ⟨xs_tg 710 (by decide +kernel) (by decide +kernel), ws_R_fits, wi_R, wc_R_fits, by decide, by decide, by decide +kernel⟩
theorem km_R_74 : xs_kS "ExactSceneModel" 74 y_R_within b_R_within 2 (some .boolean) 2 := ⟨xs_tg 747 (by decide +kernel) (by decide +kernel), ws_R_within, wi_R, wc_R_within, by decide, by decide, by decide +kernel⟩
theorem km_R_81 : xs_kV "ExactSceneModel" 81 y_R_line b_R_line 5 (some .int) 4 := ⟨xs_tg 750 (by decide +kernel) (by decide +kernel), ⟨ws_R_line, wl_R_line⟩, wi_R, wc_R_line, by decide, by decide, by decide +kernel⟩
theorem km_R_94 : xs_kV "ExactSceneModel" 94 y_R_placeOf b_R_placeOf 4 (some .long) 3 := ⟨xs_tg 774 (by decide +kernel) (by decide +kernel), ⟨ws_R_placeOf, wl_R_placeOf⟩, wi_R, wc_R_placeOf, by decide, by decide, by decide +kernel⟩
theorem km_R_102 : xs_kS "ExactSceneModel" 102 y_R_floor b_R_floor 6 (some .long) 2 := ⟨xs_tg 786 (by decide +kernel) (by decide +kernel), ws_R_floor, wi_R, wc_R_floor, by decide, by decide, by decide +kernel⟩
theorem km_R_108 : xs_kV "ExactSceneModel" 108 y_R_prepare b_R_prepare 5 none 1 := ⟨xs_tg 770 (by decide +kernel) (by decide +kernel), ⟨ws_R_prepare, wl_R_prepare⟩, wi_R, wc_R_prepare, by decide, by decide, by decide +kernel⟩
theorem km_R_114 : xs_kV "ExactSceneModel" 114 y_R_covers b_R_covers 12 (some .boolean) 4 := ⟨xs_tg 779 (by decide +kernel) (by decide +kernel), ⟨ws_R_covers, wl_R_covers⟩, wi_R, wc_R_covers, by decide, by decide, by decide +kernel⟩
theorem km_R_122 : xs_kV "ExactSceneModel" 122 y_R_texelOf b_R_texelOf 10 (some .int) 1 := ⟨xs_tg 789 (by decide +kernel) (by decide +kernel), ⟨ws_R_texelOf, wl_R_texelOf⟩, wi_R, wc_R_texelOf, by decide, by decide, by decide +kernel⟩
theorem km_R_118 : xs_kS "ExactSceneModel" 118 y_R_order b_R_order 25 (some .int) 4 := ⟨xs_tg 783 (by decide +kernel) (by decide +kernel), ws_R_order, wi_R, wc_R_order, by decide, by decide, by decide +kernel⟩
theorem km_R_126 : xs_kS "ExactSceneModel" 126 y_R_isPixel b_R_isPixel 2 (some .boolean) 2 := ⟨xs_tg 798 (by decide +kernel) (by decide +kernel), ws_R_isPixel, wi_R, wc_R_isPixel, by decide, by decide, by decide +kernel⟩
theorem cl_M_28 : Cond.constantLong "ExactScene$Matrices" 28 (-511 : Int64) ∈ xs_TG := xs_tg 341 (by decide +kernel) (by decide +kernel)
theorem cl_M_30 : Cond.constantLong "ExactScene$Matrices" 30 (511 : Int64) ∈ xs_TG := xs_tg 342 (by decide +kernel) (by decide +kernel)
theorem cl_P_67 : Cond.constantLong "ExactScene$Picture" 67 (1073741823 : Int64) ∈ xs_TG := xs_tg 211 (by decide +kernel) (by decide +kernel)
theorem cl_X_27 : Cond.constantLong "ExactScene$Textures" 27 (7 : Int64) ∈ xs_TG := xs_tg 243 (by decide +kernel) (by decide +kernel)
theorem cl_X_19 : Cond.constantLong "ExactScene$Textures" 19 (8 : Int64) ∈ xs_TG := xs_tg 239 (by decide +kernel) (by decide +kernel)
theorem cl_R_63 : Cond.constantLong "ExactSceneModel" 63 (-511 : Int64) ∈ xs_TG := xs_tg 713 (by decide +kernel) (by decide +kernel)
theorem cl_R_65 : Cond.constantLong "ExactSceneModel" 65 (511 : Int64) ∈ xs_TG := xs_tg 714 (by decide +kernel) (by decide +kernel)
theorem cl_R_106 : Cond.constantLong "ExactSceneModel" 106 (7 : Int64) ∈ xs_TG := xs_tg 793 (by decide +kernel) (by decide +kernel)
theorem cl_R_112 : Cond.constantLong "ExactSceneModel" 112 (-1 : Int64) ∈ xs_TG := xs_tg 778 (by decide +kernel) (by decide +kernel)
theorem cp_M_48 : Cond.methodLink "ExactScene$Matrices" 48 arraycopyName ∈ xs_TG ∧ Cond.native arraycopyName ∈ xs_TG ∧ Cond.static arraycopyName ∈ xs_TG ∧ Cond.initialized "java/lang/System" ∈ xs_TG := ⟨xs_tg 369 (by decide +kernel) (by decide +kernel), xs_tg 371 (by decide +kernel) (by decide +kernel), xs_tg 370 (by decide +kernel) (by decide +kernel), xs_tg 11 (by decide +kernel) (by decide +kernel)⟩
end
section
theorem xs_er1 {α β : Type} {f : α → Option β} {z : α ⊕ β} {r b : β} (h : Sum.elim f (fun er => some er) z = some r) (e : z = .inr b) : b = r := by
  rw [e] at h; exact Option.some.inj h
theorem xs_er2 {α β γ : Type} {f : α → Option (γ ⊕ β)} {z : α ⊕ β} {r : γ ⊕ β} {b : β} (h : Sum.elim f (fun er => some (.inr er)) z = some r) (e : z = .inr b) : r = .inr b := by
  rw [e] at h; exact (Option.some.inj h).symm
end
section
/-! a method of a class of the JDK's that the machine has entries for -/
theorem xs_entryF {l : Launch} {D : va_G} {ad : Nat → Nat} {cs : xs_cs} {y : MethodName} {bc : ByteArray} {mL : Nat} {rt : Option FieldType} {d w : Nat} {as : List Value} {μ : xs_M} {r : Option Value} {μ2 : xs_M} (hJ : xs_J ad) (hy : plainFor y = true) (hn : (lg_sl as).length ≤ mL)
    (body : ∀ (p : Program) (e : Env) (s : State) (m : MethodId) (below : List Frame) (meth : Method) (c : Code) (ls : Array Slot), xs_C p s m c bc mL as.toArray y.cls → meth.sig.returnType = rt → meth.locks = false → xs_G D ad cs s (xs_A ad s.heap.size) s.heap μ s.heap [] → lv_has ls mL (lv_args 0 as) →
      W p l e (xs_rm d w) s m as.toArray below meth c s.heap [] 0 0 (xs_E below D ad cs as s r μ2) (F0 m 0 ls [])) : xs_I l D ad cs y bc mL rt d w as μ r μ2 := by
  intro sz
  refine va_MetF (cc := bc) (maxL := mL) (ret := rt) hy rfl ?_
  intro p e s m args below meth c s₁ B hml hv
  obtain ⟨rfl, hsz, hP, hK, hN⟩ := hv
  subst hsz
  have hts := atoms_spec (ws := .code y bc mL rt :: xs_TG) B.pre
  have hown : s.vm.findClass y.cls = some m.cls := findClass_of_methodNamed B.named
  have hl := lv_entry as (n := mL) hn
  rw [lg_entry_eq]
  exact body p e s m below meth c _ ⟨B.exec, B.bytes, hml, hown, fun w h => hts w (List.mem_cons_of_mem _ h), hN⟩ B.returns B.notSynchronized ⟨hK, hP, ⟨hJ, fun i hi => Or.inl ⟨i, hi, rfl⟩⟩, va_S.rf, fun q h => Or.inr h⟩ hl
theorem d_J_floorDiv_0 : decode b_J_floorDiv 0 = .ok (.lload_n 0, 1) := by decide +kernel
theorem d_J_floorDiv_1 : decode b_J_floorDiv 1 = .ok (.lload_n 2, 1) := by decide +kernel
theorem d_J_floorDiv_2 : decode b_J_floorDiv 2 = .ok (.ldiv, 1) := by decide +kernel
theorem d_J_floorDiv_3 : decode b_J_floorDiv 3 = .ok (.lstore 4, 2) := by decide +kernel
theorem d_J_floorDiv_5 : decode b_J_floorDiv 5 = .ok (.lload_n 0, 1) := by decide +kernel
theorem d_J_floorDiv_6 : decode b_J_floorDiv 6 = .ok (.lload_n 2, 1) := by decide +kernel
theorem d_J_floorDiv_7 : decode b_J_floorDiv 7 = .ok (.lxor, 1) := by decide +kernel
theorem d_J_floorDiv_8 : decode b_J_floorDiv 8 = .ok (.lconst 0, 1) := by decide +kernel
theorem d_J_floorDiv_9 : decode b_J_floorDiv 9 = .ok (.lcmp, 1) := by decide +kernel
theorem d_J_floorDiv_10 : decode b_J_floorDiv 10 = .ok (.ifCond .ge (17), 3) := by decide +kernel
theorem d_J_floorDiv_13 : decode b_J_floorDiv 13 = .ok (.lload 4, 2) := by decide +kernel
theorem d_J_floorDiv_15 : decode b_J_floorDiv 15 = .ok (.lload_n 2, 1) := by decide +kernel
theorem d_J_floorDiv_16 : decode b_J_floorDiv 16 = .ok (.lmul, 1) := by decide +kernel
theorem d_J_floorDiv_17 : decode b_J_floorDiv 17 = .ok (.lload_n 0, 1) := by decide +kernel
theorem d_J_floorDiv_18 : decode b_J_floorDiv 18 = .ok (.lcmp, 1) := by decide +kernel
theorem d_J_floorDiv_19 : decode b_J_floorDiv 19 = .ok (.ifCond .eq (8), 3) := by decide +kernel
theorem d_J_floorDiv_22 : decode b_J_floorDiv 22 = .ok (.lload 4, 2) := by decide +kernel
theorem d_J_floorDiv_24 : decode b_J_floorDiv 24 = .ok (.lconst 1, 1) := by decide +kernel
theorem d_J_floorDiv_25 : decode b_J_floorDiv 25 = .ok (.lsub, 1) := by decide +kernel
theorem d_J_floorDiv_26 : decode b_J_floorDiv 26 = .ok (.lreturn, 1) := by decide +kernel
theorem d_J_floorDiv_27 : decode b_J_floorDiv 27 = .ok (.lload 4, 2) := by decide +kernel
theorem d_J_floorDiv_29 : decode b_J_floorDiv 29 = .ok (.lreturn, 1) := by decide +kernel
theorem d_J_floorMod_0 : decode b_J_floorMod 0 = .ok (.lload_n 0, 1) := by decide +kernel
theorem d_J_floorMod_1 : decode b_J_floorMod 1 = .ok (.lload_n 2, 1) := by decide +kernel
theorem d_J_floorMod_2 : decode b_J_floorMod 2 = .ok (.lrem, 1) := by decide +kernel
theorem d_J_floorMod_3 : decode b_J_floorMod 3 = .ok (.lstore 4, 2) := by decide +kernel
theorem d_J_floorMod_5 : decode b_J_floorMod 5 = .ok (.lload_n 0, 1) := by decide +kernel
theorem d_J_floorMod_6 : decode b_J_floorMod 6 = .ok (.lload_n 2, 1) := by decide +kernel
theorem d_J_floorMod_7 : decode b_J_floorMod 7 = .ok (.lxor, 1) := by decide +kernel
theorem d_J_floorMod_8 : decode b_J_floorMod 8 = .ok (.lconst 0, 1) := by decide +kernel
theorem d_J_floorMod_9 : decode b_J_floorMod 9 = .ok (.lcmp, 1) := by decide +kernel
theorem d_J_floorMod_10 : decode b_J_floorMod 10 = .ok (.ifCond .ge (15), 3) := by decide +kernel
theorem d_J_floorMod_13 : decode b_J_floorMod 13 = .ok (.lload 4, 2) := by decide +kernel
theorem d_J_floorMod_15 : decode b_J_floorMod 15 = .ok (.lconst 0, 1) := by decide +kernel
theorem d_J_floorMod_16 : decode b_J_floorMod 16 = .ok (.lcmp, 1) := by decide +kernel
theorem d_J_floorMod_17 : decode b_J_floorMod 17 = .ok (.ifCond .eq (8), 3) := by decide +kernel
theorem d_J_floorMod_20 : decode b_J_floorMod 20 = .ok (.lload 4, 2) := by decide +kernel
theorem d_J_floorMod_22 : decode b_J_floorMod 22 = .ok (.lload_n 2, 1) := by decide +kernel
theorem d_J_floorMod_23 : decode b_J_floorMod 23 = .ok (.ladd, 1) := by decide +kernel
theorem d_J_floorMod_24 : decode b_J_floorMod 24 = .ok (.lreturn, 1) := by decide +kernel
theorem d_J_floorMod_25 : decode b_J_floorMod 25 = .ok (.lload 4, 2) := by decide +kernel
theorem d_J_floorMod_27 : decode b_J_floorMod 27 = .ok (.lreturn, 1) := by decide +kernel
theorem d_J_max_0 : decode b_J_max 0 = .ok (.lload_n 0, 1) := by decide +kernel
theorem d_J_max_1 : decode b_J_max 1 = .ok (.lload_n 2, 1) := by decide +kernel
theorem d_J_max_2 : decode b_J_max 2 = .ok (.lcmp, 1) := by decide +kernel
theorem d_J_max_3 : decode b_J_max 3 = .ok (.ifCond .lt (7), 3) := by decide +kernel
theorem d_J_max_6 : decode b_J_max 6 = .ok (.lload_n 0, 1) := by decide +kernel
theorem d_J_max_7 : decode b_J_max 7 = .ok (.goto (4), 3) := by decide +kernel
theorem d_J_max_10 : decode b_J_max 10 = .ok (.lload_n 2, 1) := by decide +kernel
theorem d_J_max_11 : decode b_J_max 11 = .ok (.lreturn, 1) := by decide +kernel
theorem d_J_min_0 : decode b_J_min 0 = .ok (.lload_n 0, 1) := by decide +kernel
theorem d_J_min_1 : decode b_J_min 1 = .ok (.lload_n 2, 1) := by decide +kernel
theorem d_J_min_2 : decode b_J_min 2 = .ok (.lcmp, 1) := by decide +kernel
theorem d_J_min_3 : decode b_J_min 3 = .ok (.ifCond .gt (7), 3) := by decide +kernel
theorem d_J_min_6 : decode b_J_min 6 = .ok (.lload_n 0, 1) := by decide +kernel
theorem d_J_min_7 : decode b_J_min 7 = .ok (.goto (4), 3) := by decide +kernel
theorem d_J_min_10 : decode b_J_min 10 = .ok (.lload_n 2, 1) := by decide +kernel
theorem d_J_min_11 : decode b_J_min 11 = .ok (.lreturn, 1) := by decide +kernel
theorem d_S_isWithin_0 : decode b_S_isWithin 0 = .ok (.iload_n 0, 1) := by decide +kernel
theorem d_S_isWithin_1 : decode b_S_isWithin 1 = .ok (.iload_n 1, 1) := by decide +kernel
theorem d_S_isWithin_2 : decode b_S_isWithin 2 = .ok (.if_icmp .lt (12), 3) := by decide +kernel
theorem d_S_isWithin_5 : decode b_S_isWithin 5 = .ok (.iload_n 0, 1) := by decide +kernel
theorem d_S_isWithin_6 : decode b_S_isWithin 6 = .ok (.iload_n 2, 1) := by decide +kernel
theorem d_S_isWithin_7 : decode b_S_isWithin 7 = .ok (.if_icmp .gt (7), 3) := by decide +kernel
theorem d_S_isWithin_10 : decode b_S_isWithin 10 = .ok (.iconst 1, 1) := by decide +kernel
theorem d_S_isWithin_11 : decode b_S_isWithin 11 = .ok (.goto (4), 3) := by decide +kernel
theorem d_S_isWithin_14 : decode b_S_isWithin 14 = .ok (.iconst 0, 1) := by decide +kernel
theorem d_S_isWithin_15 : decode b_S_isWithin 15 = .ok (.ireturn, 1) := by decide +kernel
theorem d_S_isPlace_0 : decode b_S_isPlace 0 = .ok (.iload_n 0, 1) := by decide +kernel
theorem d_S_isPlace_1 : decode b_S_isPlace 1 = .ok (.bipush (-31), 2) := by decide +kernel
theorem d_S_isPlace_3 : decode b_S_isPlace 3 = .ok (.bipush (31), 2) := by decide +kernel
theorem d_S_isPlace_5 : decode b_S_isPlace 5 = .ok (.invokestatic 70, 3) := by decide +kernel
theorem d_S_isPlace_8 : decode b_S_isPlace 8 = .ok (.ireturn, 1) := by decide +kernel
theorem d_S_isTexturePlace_0 : decode b_S_isTexturePlace 0 = .ok (.iload_n 0, 1) := by decide +kernel
theorem d_S_isTexturePlace_1 : decode b_S_isTexturePlace 1 = .ok (.bipush (-127), 2) := by decide +kernel
theorem d_S_isTexturePlace_3 : decode b_S_isTexturePlace 3 = .ok (.bipush (127), 2) := by decide +kernel
theorem d_S_isTexturePlace_5 : decode b_S_isTexturePlace 5 = .ok (.invokestatic 70, 3) := by decide +kernel
theorem d_S_isTexturePlace_8 : decode b_S_isTexturePlace 8 = .ok (.ireturn, 1) := by decide +kernel
theorem d_S_cutDown_0 : decode b_S_cutDown 0 = .ok (.lload_n 2, 1) := by decide +kernel
theorem d_S_cutDown_1 : decode b_S_cutDown 1 = .ok (.lconst 0, 1) := by decide +kernel
theorem d_S_cutDown_2 : decode b_S_cutDown 2 = .ok (.lcmp, 1) := by decide +kernel
theorem d_S_cutDown_3 : decode b_S_cutDown 3 = .ok (.ifCond .le (11), 3) := by decide +kernel
theorem d_S_cutDown_6 : decode b_S_cutDown 6 = .ok (.lload_n 0, 1) := by decide +kernel
theorem d_S_cutDown_7 : decode b_S_cutDown 7 = .ok (.lload_n 2, 1) := by decide +kernel
theorem d_S_cutDown_8 : decode b_S_cutDown 8 = .ok (.invokestatic 243, 3) := by decide +kernel
theorem d_S_cutDown_11 : decode b_S_cutDown 11 = .ok (.goto (4), 3) := by decide +kernel
theorem d_S_cutDown_14 : decode b_S_cutDown 14 = .ok (.lconst 0, 1) := by decide +kernel
theorem d_S_cutDown_15 : decode b_S_cutDown 15 = .ok (.lreturn, 1) := by decide +kernel
def fn_J_floorDiv (μ0 : xs_M) (x0 : Int64) (x1 : Int64) : Option Int64 :=
  (if ¬ x1 = 0 then ((some (x0 / x1)).bind fun a2 => (if 0 ≤ (lg_cmp (x0 ^^^ x1) (0 : Int64)) then some (a2) else (if (lg_cmp (a2 * x1) x0) = 0 then some (a2) else some ((a2 - (1 : Int64)))))) else none)
set_option maxHeartbeats 4000000 in
set_option maxRecDepth 100000 in
theorem ok_J_floorDiv (l : Launch) (D : va_G) (ad : Nat → Nat) (cs : xs_cs) (hJ : xs_J ad) {μ0 : xs_M} {x0 : Int64} {x1 : Int64}  {rz : Int64} (hE : fn_J_floorDiv μ0 x0 x1 = some rz) : xs_I l D ad cs y_J_floorDiv b_J_floorDiv 6 (some .long) 0 0 [.long (x0), .long (x1)] μ0 (some (.long rz)) μ0 := by
  refine xs_entryF hJ (by decide +kernel) (Nat.le_of_ble_eq_true rfl) ?_
  intro p e s m below meth c ls X hr hlk G hl
  have X : xs_C p s m c b_J_floorDiv 6 _ "java/lang/Math" := X
  have hx := X.1
  have hb := X.2.1
  have hl : lv_has ls 6 [(0, .long (x0)), (2, .long (x1))] := hl
  unfold fn_J_floorDiv at hE
  refine lv_lload_n (pc := 0) hx hb d_J_floorDiv_0 rfl (lv_at hl 0 rfl) ?_
  refine lv_lload_n (pc := 1) hx hb d_J_floorDiv_1 rfl (lv_at hl 1 rfl) ?_
  obtain ⟨hz1, hE⟩ := xs_n hE
  refine lv_ldiv (pc := 2) hx hb d_J_floorDiv_2 hz1 ?_
  obtain ⟨a2, ha2, hE⟩ := xs_b hE
  refine xs_tl ha2 ?_
  clear ha2
  refine lv_lstore (pc := 3) hx hb d_J_floorDiv_3 hl (by decide) (lv' := [(4, .long (a2)), (0, .long (x0)), (2, .long (x1))]) rfl (fun ls hl => ?_)
  refine lv_lload_n (pc := 5) hx hb d_J_floorDiv_5 rfl (lv_at hl 1 rfl) ?_
  refine lv_lload_n (pc := 6) hx hb d_J_floorDiv_6 rfl (lv_at hl 2 rfl) ?_
  refine lv_lxor (pc := 7) hx hb d_J_floorDiv_7 ?_
  refine lv_lconst (pc := 8) (v := (0 : Int64)) hx hb d_J_floorDiv_8 (by decide) ?_
  refine W.lcmp (pc := 9) hx hb d_J_floorDiv_9 ?_
  refine lv_if_ge (pc := 10) (tgt := 27) hx hb d_J_floorDiv_10 (by decide) (fun hc => ?_) (fun hc => ?_)
  · have hE := xs_t hE hc
    refine lv_lload (pc := 27) hx hb d_J_floorDiv_27 (lv_at hl 0 rfl) ?_
    cases hE
    exact xs_lret (pc := 29) hx hb hr hlk G d_J_floorDiv_29
  · have hE := xs_f hE hc
    refine lv_lload (pc := 13) hx hb d_J_floorDiv_13 (lv_at hl 0 rfl) ?_
    refine lv_lload_n (pc := 15) hx hb d_J_floorDiv_15 rfl (lv_at hl 2 rfl) ?_
    refine lv_lmul (pc := 16) hx hb d_J_floorDiv_16 ?_
    refine lv_lload_n (pc := 17) hx hb d_J_floorDiv_17 rfl (lv_at hl 1 rfl) ?_
    refine W.lcmp (pc := 18) hx hb d_J_floorDiv_18 ?_
    refine lv_if_eq (pc := 19) (tgt := 27) hx hb d_J_floorDiv_19 (by decide) (fun hc => ?_) (fun hc => ?_)
    · have hE := xs_t hE hc
      refine lv_lload (pc := 27) hx hb d_J_floorDiv_27 (lv_at hl 0 rfl) ?_
      cases hE
      exact xs_lret (pc := 29) hx hb hr hlk G d_J_floorDiv_29
    · have hE := xs_f hE hc
      refine lv_lload (pc := 22) hx hb d_J_floorDiv_22 (lv_at hl 0 rfl) ?_
      refine lv_lconst (pc := 24) (v := (1 : Int64)) hx hb d_J_floorDiv_24 (by decide) ?_
      refine lv_lsub (pc := 25) hx hb d_J_floorDiv_25 ?_
      cases hE
      exact xs_lret (pc := 26) hx hb hr hlk G d_J_floorDiv_26
def fn_J_floorMod (μ0 : xs_M) (x0 : Int64) (x1 : Int64) : Option Int64 :=
  (if ¬ x1 = 0 then ((some (x0 - x0 / x1 * x1)).bind fun a2 => (if 0 ≤ (lg_cmp (x0 ^^^ x1) (0 : Int64)) then some (a2) else (if (lg_cmp a2 (0 : Int64)) = 0 then some (a2) else some ((a2 + x1))))) else none)
set_option maxHeartbeats 4000000 in
set_option maxRecDepth 100000 in
theorem ok_J_floorMod (l : Launch) (D : va_G) (ad : Nat → Nat) (cs : xs_cs) (hJ : xs_J ad) {μ0 : xs_M} {x0 : Int64} {x1 : Int64}  {rz : Int64} (hE : fn_J_floorMod μ0 x0 x1 = some rz) : xs_I l D ad cs y_J_floorMod b_J_floorMod 6 (some .long) 0 0 [.long (x0), .long (x1)] μ0 (some (.long rz)) μ0 := by
  refine xs_entryF hJ (by decide +kernel) (Nat.le_of_ble_eq_true rfl) ?_
  intro p e s m below meth c ls X hr hlk G hl
  have X : xs_C p s m c b_J_floorMod 6 _ "java/lang/Math" := X
  have hx := X.1
  have hb := X.2.1
  have hl : lv_has ls 6 [(0, .long (x0)), (2, .long (x1))] := hl
  unfold fn_J_floorMod at hE
  refine lv_lload_n (pc := 0) hx hb d_J_floorMod_0 rfl (lv_at hl 0 rfl) ?_
  refine lv_lload_n (pc := 1) hx hb d_J_floorMod_1 rfl (lv_at hl 1 rfl) ?_
  obtain ⟨hz1, hE⟩ := xs_n hE
  refine lv_lrem (pc := 2) hx hb d_J_floorMod_2 hz1 ?_
  obtain ⟨a2, ha2, hE⟩ := xs_b hE
  refine xs_tl ha2 ?_
  clear ha2
  refine lv_lstore (pc := 3) hx hb d_J_floorMod_3 hl (by decide) (lv' := [(4, .long (a2)), (0, .long (x0)), (2, .long (x1))]) rfl (fun ls hl => ?_)
  refine lv_lload_n (pc := 5) hx hb d_J_floorMod_5 rfl (lv_at hl 1 rfl) ?_
  refine lv_lload_n (pc := 6) hx hb d_J_floorMod_6 rfl (lv_at hl 2 rfl) ?_
  refine lv_lxor (pc := 7) hx hb d_J_floorMod_7 ?_
  refine lv_lconst (pc := 8) (v := (0 : Int64)) hx hb d_J_floorMod_8 (by decide) ?_
  refine W.lcmp (pc := 9) hx hb d_J_floorMod_9 ?_
  refine lv_if_ge (pc := 10) (tgt := 25) hx hb d_J_floorMod_10 (by decide) (fun hc => ?_) (fun hc => ?_)
  · have hE := xs_t hE hc
    refine lv_lload (pc := 25) hx hb d_J_floorMod_25 (lv_at hl 0 rfl) ?_
    cases hE
    exact xs_lret (pc := 27) hx hb hr hlk G d_J_floorMod_27
  · have hE := xs_f hE hc
    refine lv_lload (pc := 13) hx hb d_J_floorMod_13 (lv_at hl 0 rfl) ?_
    refine lv_lconst (pc := 15) (v := (0 : Int64)) hx hb d_J_floorMod_15 (by decide) ?_
    refine W.lcmp (pc := 16) hx hb d_J_floorMod_16 ?_
    refine lv_if_eq (pc := 17) (tgt := 25) hx hb d_J_floorMod_17 (by decide) (fun hc => ?_) (fun hc => ?_)
    · have hE := xs_t hE hc
      refine lv_lload (pc := 25) hx hb d_J_floorMod_25 (lv_at hl 0 rfl) ?_
      cases hE
      exact xs_lret (pc := 27) hx hb hr hlk G d_J_floorMod_27
    · have hE := xs_f hE hc
      refine lv_lload (pc := 20) hx hb d_J_floorMod_20 (lv_at hl 0 rfl) ?_
      refine lv_lload_n (pc := 22) hx hb d_J_floorMod_22 rfl (lv_at hl 2 rfl) ?_
      refine lv_ladd (pc := 23) hx hb d_J_floorMod_23 ?_
      cases hE
      exact xs_lret (pc := 24) hx hb hr hlk G d_J_floorMod_24
def fn_J_max (μ0 : xs_M) (x0 : Int64) (x1 : Int64) : Option Int64 :=
  (if (lg_cmp x0 x1) < 0 then some (x1) else some (x0))
set_option maxHeartbeats 4000000 in
set_option maxRecDepth 100000 in
theorem ok_J_max (l : Launch) (D : va_G) (ad : Nat → Nat) (cs : xs_cs) (hJ : xs_J ad) {μ0 : xs_M} {x0 : Int64} {x1 : Int64}  {rz : Int64} (hE : fn_J_max μ0 x0 x1 = some rz) : xs_I l D ad cs y_J_max b_J_max 4 (some .long) 0 0 [.long (x0), .long (x1)] μ0 (some (.long rz)) μ0 := by
  refine xs_entryF hJ (by decide +kernel) (Nat.le_of_ble_eq_true rfl) ?_
  intro p e s m below meth c ls X hr hlk G hl
  have X : xs_C p s m c b_J_max 4 _ "java/lang/Math" := X
  have hx := X.1
  have hb := X.2.1
  have hl : lv_has ls 4 [(0, .long (x0)), (2, .long (x1))] := hl
  unfold fn_J_max at hE
  refine lv_lload_n (pc := 0) hx hb d_J_max_0 rfl (lv_at hl 0 rfl) ?_
  refine lv_lload_n (pc := 1) hx hb d_J_max_1 rfl (lv_at hl 1 rfl) ?_
  refine W.lcmp (pc := 2) hx hb d_J_max_2 ?_
  refine lv_if_lt (pc := 3) (tgt := 10) hx hb d_J_max_3 (by decide) (fun hc => ?_) (fun hc => ?_)
  · have hE := xs_t hE hc
    refine lv_lload_n (pc := 10) hx hb d_J_max_10 rfl (lv_at hl 1 rfl) ?_
    cases hE
    exact xs_lret (pc := 11) hx hb hr hlk G d_J_max_11
  · have hE := xs_f hE hc
    refine lv_lload_n (pc := 6) hx hb d_J_max_6 rfl (lv_at hl 0 rfl) ?_
    refine lv_goto (pc := 7) (tgt := 11) hx hb d_J_max_7 (by decide) ?_
    cases hE
    exact xs_lret (pc := 11) hx hb hr hlk G d_J_max_11
def fn_J_min (μ0 : xs_M) (x0 : Int64) (x1 : Int64) : Option Int64 :=
  (if 0 < (lg_cmp x0 x1) then some (x1) else some (x0))
set_option maxHeartbeats 4000000 in
set_option maxRecDepth 100000 in
theorem ok_J_min (l : Launch) (D : va_G) (ad : Nat → Nat) (cs : xs_cs) (hJ : xs_J ad) {μ0 : xs_M} {x0 : Int64} {x1 : Int64}  {rz : Int64} (hE : fn_J_min μ0 x0 x1 = some rz) : xs_I l D ad cs y_J_min b_J_min 4 (some .long) 0 0 [.long (x0), .long (x1)] μ0 (some (.long rz)) μ0 := by
  refine xs_entryF hJ (by decide +kernel) (Nat.le_of_ble_eq_true rfl) ?_
  intro p e s m below meth c ls X hr hlk G hl
  have X : xs_C p s m c b_J_min 4 _ "java/lang/Math" := X
  have hx := X.1
  have hb := X.2.1
  have hl : lv_has ls 4 [(0, .long (x0)), (2, .long (x1))] := hl
  unfold fn_J_min at hE
  refine lv_lload_n (pc := 0) hx hb d_J_min_0 rfl (lv_at hl 0 rfl) ?_
  refine lv_lload_n (pc := 1) hx hb d_J_min_1 rfl (lv_at hl 1 rfl) ?_
  refine W.lcmp (pc := 2) hx hb d_J_min_2 ?_
  refine lv_if_gt (pc := 3) (tgt := 10) hx hb d_J_min_3 (by decide) (fun hc => ?_) (fun hc => ?_)
  · have hE := xs_t hE hc
    refine lv_lload_n (pc := 10) hx hb d_J_min_10 rfl (lv_at hl 1 rfl) ?_
    cases hE
    exact xs_lret (pc := 11) hx hb hr hlk G d_J_min_11
  · have hE := xs_f hE hc
    refine lv_lload_n (pc := 6) hx hb d_J_min_6 rfl (lv_at hl 0 rfl) ?_
    refine lv_goto (pc := 7) (tgt := 11) hx hb d_J_min_7 (by decide) ?_
    cases hE
    exact xs_lret (pc := 11) hx hb hr hlk G d_J_min_11
def fn_S_isWithin (μ0 : xs_M) (x0 : Int32) (x1 : Int32) (x2 : Int32) : Option Int32 :=
  (if x0 < x1 then some ((0 : Int32)) else (if x2 < x0 then some ((0 : Int32)) else some ((1 : Int32))))
set_option maxHeartbeats 4000000 in
set_option maxRecDepth 100000 in
theorem ok_S_isWithin (l : Launch) (D : va_G) (ad : Nat → Nat) (cs : xs_cs) (hJ : xs_J ad) {μ0 : xs_M} {x0 : Int32} {x1 : Int32} {x2 : Int32}  {rz : Int32} (hE : fn_S_isWithin μ0 x0 x1 x2 = some rz) : xs_I l D ad cs y_S_isWithin b_S_isWithin 3 (some .boolean) 0 0 [.int (x0), .int (x1), .int (x2)] μ0 (some (.int rz)) μ0 := by
  refine xs_entry hJ (by decide) (Nat.le_of_ble_eq_true rfl) ?_
  intro p e s m below meth c ls X hr hlk G hl
  have X : xs_C p s m c b_S_isWithin 3 _ "ExactScene" := X
  have hx := X.1
  have hb := X.2.1
  have hl : lv_has ls 3 [(0, .int (x0)), (1, .int (x1)), (2, .int (x2))] := hl
  unfold fn_S_isWithin at hE
  refine lv_iload_n (pc := 0) hx hb d_S_isWithin_0 rfl (lv_at hl 0 rfl) ?_
  refine lv_iload_n (pc := 1) hx hb d_S_isWithin_1 rfl (lv_at hl 1 rfl) ?_
  refine lv_icmp_lt (pc := 2) (tgt := 14) hx hb d_S_isWithin_2 (by decide) (fun hc => ?_) (fun hc => ?_)
  · have hE := xs_t hE hc
    refine lv_iconst (pc := 14) (v := (0 : Int32)) hx hb d_S_isWithin_14 (by decide) ?_
    cases hE
    exact xs_zret (pc := 15) hx hb hr hlk G (Or.inl rfl) d_S_isWithin_15
  · have hE := xs_f hE hc
    refine lv_iload_n (pc := 5) hx hb d_S_isWithin_5 rfl (lv_at hl 0 rfl) ?_
    refine lv_iload_n (pc := 6) hx hb d_S_isWithin_6 rfl (lv_at hl 2 rfl) ?_
    refine lv_icmp_gt (pc := 7) (tgt := 14) hx hb d_S_isWithin_7 (by decide) (fun hc => ?_) (fun hc => ?_)
    · have hE := xs_t hE hc
      refine lv_iconst (pc := 14) (v := (0 : Int32)) hx hb d_S_isWithin_14 (by decide) ?_
      cases hE
      exact xs_zret (pc := 15) hx hb hr hlk G (Or.inl rfl) d_S_isWithin_15
    · have hE := xs_f hE hc
      refine lv_iconst (pc := 10) (v := (1 : Int32)) hx hb d_S_isWithin_10 (by decide) ?_
      refine lv_goto (pc := 11) (tgt := 15) hx hb d_S_isWithin_11 (by decide) ?_
      cases hE
      exact xs_zret (pc := 15) hx hb hr hlk G (Or.inr rfl) d_S_isWithin_15
def fn_S_isPlace (μ0 : xs_M) (x0 : Int32) : Option Int32 :=
  ((fn_S_isWithin μ0 x0 (-31 : Int32) (31 : Int32)).bind fun w1 => (if w1 = 0 ∨ w1 = 1 then some (w1) else none))
set_option maxHeartbeats 4000000 in
set_option maxRecDepth 100000 in
theorem ok_S_isPlace (l : Launch) (D : va_G) (ad : Nat → Nat) (cs : xs_cs) (hJ : xs_J ad) {μ0 : xs_M} {x0 : Int32}  {rz : Int32} (hE : fn_S_isPlace μ0 x0 = some rz) : xs_I l D ad cs y_S_isPlace b_S_isPlace 1 (some .boolean) 1 22 [.int (x0)] μ0 (some (.int rz)) μ0 := by
  refine xs_entry hJ (by decide) (Nat.le_of_ble_eq_true rfl) ?_
  intro p e s m below meth c ls X hr hlk G hl
  have X : xs_C p s m c b_S_isPlace 1 _ "ExactScene" := X
  have hx := X.1
  have hb := X.2.1
  have hl : lv_has ls 1 [(0, .int (x0))] := hl
  unfold fn_S_isPlace at hE
  refine lv_iload_n (pc := 0) hx hb d_S_isPlace_0 rfl (lv_at hl 0 rfl) ?_
  refine lv_bipush (pc := 1) (v := (-31 : Int32)) hx hb d_S_isPlace_1 (by decide) ?_
  refine lv_bipush (pc := 3) (v := (31 : Int32)) hx hb d_S_isPlace_3 (by decide) ?_
  obtain ⟨w1, hw1, hE⟩ := xs_b hE
  refine xs_callSr (pc := 5) (as := [.int (x0), .int ((-31 : Int32)), .int ((31 : Int32))]) X (ok_S_isWithin l D ad cs hJ hw1) km_S_70 G ⟨by decide, by decide⟩ ⟨Nat.zero_le _, Nat.zero_le _⟩ rfl hl.1 rfl (Nat.le_of_ble_eq_true rfl) d_S_isPlace_5 (fun H locs G => ?_)
  obtain ⟨hz2, hE⟩ := xs_n hE
  cases hE
  exact xs_zret (pc := 8) hx hb hr hlk G hz2 d_S_isPlace_8
def fn_S_isTexturePlace (μ0 : xs_M) (x0 : Int32) : Option Int32 :=
  ((fn_S_isWithin μ0 x0 (-127 : Int32) (127 : Int32)).bind fun w1 => (if w1 = 0 ∨ w1 = 1 then some (w1) else none))
set_option maxHeartbeats 4000000 in
set_option maxRecDepth 100000 in
theorem ok_S_isTexturePlace (l : Launch) (D : va_G) (ad : Nat → Nat) (cs : xs_cs) (hJ : xs_J ad) {μ0 : xs_M} {x0 : Int32}  {rz : Int32} (hE : fn_S_isTexturePlace μ0 x0 = some rz) : xs_I l D ad cs y_S_isTexturePlace b_S_isTexturePlace 1 (some .boolean) 1 22 [.int (x0)] μ0 (some (.int rz)) μ0 := by
  refine xs_entry hJ (by decide) (Nat.le_of_ble_eq_true rfl) ?_
  intro p e s m below meth c ls X hr hlk G hl
  have X : xs_C p s m c b_S_isTexturePlace 1 _ "ExactScene" := X
  have hx := X.1
  have hb := X.2.1
  have hl : lv_has ls 1 [(0, .int (x0))] := hl
  unfold fn_S_isTexturePlace at hE
  refine lv_iload_n (pc := 0) hx hb d_S_isTexturePlace_0 rfl (lv_at hl 0 rfl) ?_
  refine lv_bipush (pc := 1) (v := (-127 : Int32)) hx hb d_S_isTexturePlace_1 (by decide) ?_
  refine lv_bipush (pc := 3) (v := (127 : Int32)) hx hb d_S_isTexturePlace_3 (by decide) ?_
  obtain ⟨w1, hw1, hE⟩ := xs_b hE
  refine xs_callSr (pc := 5) (as := [.int (x0), .int ((-127 : Int32)), .int ((127 : Int32))]) X (ok_S_isWithin l D ad cs hJ hw1) km_S_70 G ⟨by decide, by decide⟩ ⟨Nat.zero_le _, Nat.zero_le _⟩ rfl hl.1 rfl (Nat.le_of_ble_eq_true rfl) d_S_isTexturePlace_5 (fun H locs G => ?_)
  obtain ⟨hz2, hE⟩ := xs_n hE
  cases hE
  exact xs_zret (pc := 8) hx hb hr hlk G hz2 d_S_isTexturePlace_8
def fn_S_cutDown (μ0 : xs_M) (x0 : Int64) (x1 : Int64) : Option Int64 :=
  (if (lg_cmp x1 (0 : Int64)) ≤ 0 then some ((0 : Int64)) else ((fn_J_floorDiv μ0 x0 x1).bind fun w1 => some (w1)))
set_option maxHeartbeats 4000000 in
set_option maxRecDepth 100000 in
theorem ok_S_cutDown (l : Launch) (D : va_G) (ad : Nat → Nat) (cs : xs_cs) (hJ : xs_J ad) {μ0 : xs_M} {x0 : Int64} {x1 : Int64}  {rz : Int64} (hE : fn_S_cutDown μ0 x0 x1 = some rz) : xs_I l D ad cs y_S_cutDown b_S_cutDown 4 (some .long) 1 25 [.long (x0), .long (x1)] μ0 (some (.long rz)) μ0 := by
  refine xs_entry hJ (by decide) (Nat.le_of_ble_eq_true rfl) ?_
  intro p e s m below meth c ls X hr hlk G hl
  have X : xs_C p s m c b_S_cutDown 4 _ "ExactScene" := X
  have hx := X.1
  have hb := X.2.1
  have hl : lv_has ls 4 [(0, .long (x0)), (2, .long (x1))] := hl
  unfold fn_S_cutDown at hE
  refine lv_lload_n (pc := 0) hx hb d_S_cutDown_0 rfl (lv_at hl 1 rfl) ?_
  refine lv_lconst (pc := 1) (v := (0 : Int64)) hx hb d_S_cutDown_1 (by decide) ?_
  refine W.lcmp (pc := 2) hx hb d_S_cutDown_2 ?_
  refine lv_if_le (pc := 3) (tgt := 14) hx hb d_S_cutDown_3 (by decide) (fun hc => ?_) (fun hc => ?_)
  · have hE := xs_t hE hc
    refine lv_lconst (pc := 14) (v := (0 : Int64)) hx hb d_S_cutDown_14 (by decide) ?_
    cases hE
    exact xs_lret (pc := 15) hx hb hr hlk G d_S_cutDown_15
  · have hE := xs_f hE hc
    refine lv_lload_n (pc := 6) hx hb d_S_cutDown_6 rfl (lv_at hl 0 rfl) ?_
    refine lv_lload_n (pc := 7) hx hb d_S_cutDown_7 rfl (lv_at hl 1 rfl) ?_
    obtain ⟨w1, hw1, hE⟩ := xs_b hE
    refine xs_callSr (pc := 8) (as := [.long (x0), .long (x1)]) X (ok_J_floorDiv l D ad cs hJ hw1) km_S_243 G ⟨by decide, by decide⟩ ⟨Nat.zero_le _, Nat.zero_le _⟩ rfl hl.1 rfl (Nat.le_of_ble_eq_true rfl) d_S_cutDown_8 (fun H locs G => ?_)
    refine lv_goto (pc := 11) (tgt := 15) hx hb d_S_cutDown_11 (by decide) ?_
    cases hE
    exact xs_lret (pc := 15) hx hb hr hlk G d_S_cutDown_15
end
section
theorem d_X_isTexture_0 : decode b_X_isTexture 0 = .ok (.iload_n 0, 1) := by decide +kernel
theorem d_X_isTexture_1 : decode b_X_isTexture 1 = .ok (.iconst 0, 1) := by decide +kernel
theorem d_X_isTexture_2 : decode b_X_isTexture 2 = .ok (.iconst 1, 1) := by decide +kernel
theorem d_X_isTexture_3 : decode b_X_isTexture 3 = .ok (.invokestatic 13, 3) := by decide +kernel
theorem d_X_isTexture_6 : decode b_X_isTexture 6 = .ok (.ireturn, 1) := by decide +kernel
theorem d_X_isLine_0 : decode b_X_isLine 0 = .ok (.iload_n 0, 1) := by decide +kernel
theorem d_X_isLine_1 : decode b_X_isLine 1 = .ok (.iconst 0, 1) := by decide +kernel
theorem d_X_isLine_2 : decode b_X_isLine 2 = .ok (.bipush (7), 2) := by decide +kernel
theorem d_X_isLine_4 : decode b_X_isLine 4 = .ok (.invokestatic 13, 3) := by decide +kernel
theorem d_X_isLine_7 : decode b_X_isLine 7 = .ok (.ireturn, 1) := by decide +kernel
theorem d_X_indexOf_0 : decode b_X_indexOf 0 = .ok (.iload_n 0, 1) := by decide +kernel
theorem d_X_indexOf_1 : decode b_X_indexOf 1 = .ok (.bipush (8), 2) := by decide +kernel
theorem d_X_indexOf_3 : decode b_X_indexOf 3 = .ok (.imul, 1) := by decide +kernel
theorem d_X_indexOf_4 : decode b_X_indexOf 4 = .ok (.iload_n 2, 1) := by decide +kernel
theorem d_X_indexOf_5 : decode b_X_indexOf 5 = .ok (.iadd, 1) := by decide +kernel
theorem d_X_indexOf_6 : decode b_X_indexOf 6 = .ok (.bipush (8), 2) := by decide +kernel
theorem d_X_indexOf_8 : decode b_X_indexOf 8 = .ok (.imul, 1) := by decide +kernel
theorem d_X_indexOf_9 : decode b_X_indexOf 9 = .ok (.iload_n 1, 1) := by decide +kernel
theorem d_X_indexOf_10 : decode b_X_indexOf 10 = .ok (.iadd, 1) := by decide +kernel
theorem d_X_indexOf_11 : decode b_X_indexOf 11 = .ok (.ireturn, 1) := by decide +kernel
theorem d_X_exchange_0 : decode b_X_exchange 0 = .ok (.aload_n 0, 1) := by decide +kernel
theorem d_X_exchange_1 : decode b_X_exchange 1 = .ok (.getfield 9, 3) := by decide +kernel
theorem d_X_exchange_4 : decode b_X_exchange 4 = .ok (.iload_n 1, 1) := by decide +kernel
theorem d_X_exchange_5 : decode b_X_exchange 5 = .ok (.iaload, 1) := by decide +kernel
theorem d_X_exchange_6 : decode b_X_exchange 6 = .ok (.istore_n 3, 1) := by decide +kernel
theorem d_X_exchange_7 : decode b_X_exchange 7 = .ok (.aload_n 0, 1) := by decide +kernel
theorem d_X_exchange_8 : decode b_X_exchange 8 = .ok (.getfield 9, 3) := by decide +kernel
theorem d_X_exchange_11 : decode b_X_exchange 11 = .ok (.iload_n 1, 1) := by decide +kernel
theorem d_X_exchange_12 : decode b_X_exchange 12 = .ok (.iload_n 2, 1) := by decide +kernel
theorem d_X_exchange_13 : decode b_X_exchange 13 = .ok (.iastore, 1) := by decide +kernel
theorem d_X_exchange_14 : decode b_X_exchange 14 = .ok (.iload_n 3, 1) := by decide +kernel
theorem d_X_exchange_15 : decode b_X_exchange 15 = .ok (.ireturn, 1) := by decide +kernel
theorem d_X_wrap_0 : decode b_X_wrap 0 = .ok (.iload_n 0, 1) := by decide +kernel
theorem d_X_wrap_1 : decode b_X_wrap 1 = .ok (.ifCond .ne (12), 3) := by decide +kernel
theorem d_X_wrap_4 : decode b_X_wrap 4 = .ok (.lload_n 1, 1) := by decide +kernel
theorem d_X_wrap_5 : decode b_X_wrap 5 = .ok (.ldc2_w 19, 3) := by decide +kernel
theorem d_X_wrap_8 : decode b_X_wrap 8 = .ok (.invokestatic 21, 3) := by decide +kernel
theorem d_X_wrap_11 : decode b_X_wrap 11 = .ok (.l2i, 1) := by decide +kernel
theorem d_X_wrap_12 : decode b_X_wrap 12 = .ok (.ireturn, 1) := by decide +kernel
theorem d_X_wrap_13 : decode b_X_wrap 13 = .ok (.lconst 0, 1) := by decide +kernel
theorem d_X_wrap_14 : decode b_X_wrap 14 = .ok (.lload_n 1, 1) := by decide +kernel
theorem d_X_wrap_15 : decode b_X_wrap 15 = .ok (.ldc2_w 27, 3) := by decide +kernel
theorem d_X_wrap_18 : decode b_X_wrap 18 = .ok (.invokestatic 29, 3) := by decide +kernel
theorem d_X_wrap_21 : decode b_X_wrap 21 = .ok (.invokestatic 32, 3) := by decide +kernel
theorem d_X_wrap_24 : decode b_X_wrap 24 = .ok (.l2i, 1) := by decide +kernel
theorem d_X_wrap_25 : decode b_X_wrap 25 = .ok (.ireturn, 1) := by decide +kernel
def fn_X_isTexture (μ0 : xs_M) (x0 : Int32) : Option Int32 :=
  ((fn_S_isWithin μ0 x0 (0 : Int32) (1 : Int32)).bind fun w1 => (if w1 = 0 ∨ w1 = 1 then some (w1) else none))
set_option maxHeartbeats 4000000 in
set_option maxRecDepth 100000 in
theorem ok_X_isTexture (l : Launch) (D : va_G) (ad : Nat → Nat) (cs : xs_cs) (hJ : xs_J ad) {μ0 : xs_M} {x0 : Int32}  {rz : Int32} (hE : fn_X_isTexture μ0 x0 = some rz) : xs_I l D ad cs y_X_isTexture b_X_isTexture 1 (some .boolean) 1 22 [.int (x0)] μ0 (some (.int rz)) μ0 := by
  refine xs_entry hJ (by decide) (Nat.le_of_ble_eq_true rfl) ?_
  intro p e s m below meth c ls X hr hlk G hl
  have X : xs_C p s m c b_X_isTexture 1 _ "ExactScene$Textures" := X
  have hx := X.1
  have hb := X.2.1
  have hl : lv_has ls 1 [(0, .int (x0))] := hl
  unfold fn_X_isTexture at hE
  refine lv_iload_n (pc := 0) hx hb d_X_isTexture_0 rfl (lv_at hl 0 rfl) ?_
  refine lv_iconst (pc := 1) (v := (0 : Int32)) hx hb d_X_isTexture_1 (by decide) ?_
  refine lv_iconst (pc := 2) (v := (1 : Int32)) hx hb d_X_isTexture_2 (by decide) ?_
  obtain ⟨w1, hw1, hE⟩ := xs_b hE
  refine xs_callSNr (pc := 3) (as := [.int (x0), .int ((0 : Int32)), .int ((1 : Int32))]) X (ok_S_isWithin l D ad cs hJ hw1) km_X_13 G ⟨by decide, by decide⟩ ⟨Nat.zero_le _, Nat.zero_le _⟩ rfl hl.1 rfl (Nat.le_of_ble_eq_true rfl) d_X_isTexture_3 (fun H locs G => ?_)
  obtain ⟨hz2, hE⟩ := xs_n hE
  cases hE
  exact xs_zret (pc := 6) hx hb hr hlk G hz2 d_X_isTexture_6
def fn_X_isLine (μ0 : xs_M) (x0 : Int32) : Option Int32 :=
  ((fn_S_isWithin μ0 x0 (0 : Int32) (7 : Int32)).bind fun w1 => (if w1 = 0 ∨ w1 = 1 then some (w1) else none))
set_option maxHeartbeats 4000000 in
set_option maxRecDepth 100000 in
theorem ok_X_isLine (l : Launch) (D : va_G) (ad : Nat → Nat) (cs : xs_cs) (hJ : xs_J ad) {μ0 : xs_M} {x0 : Int32}  {rz : Int32} (hE : fn_X_isLine μ0 x0 = some rz) : xs_I l D ad cs y_X_isLine b_X_isLine 1 (some .boolean) 1 22 [.int (x0)] μ0 (some (.int rz)) μ0 := by
  refine xs_entry hJ (by decide) (Nat.le_of_ble_eq_true rfl) ?_
  intro p e s m below meth c ls X hr hlk G hl
  have X : xs_C p s m c b_X_isLine 1 _ "ExactScene$Textures" := X
  have hx := X.1
  have hb := X.2.1
  have hl : lv_has ls 1 [(0, .int (x0))] := hl
  unfold fn_X_isLine at hE
  refine lv_iload_n (pc := 0) hx hb d_X_isLine_0 rfl (lv_at hl 0 rfl) ?_
  refine lv_iconst (pc := 1) (v := (0 : Int32)) hx hb d_X_isLine_1 (by decide) ?_
  refine lv_bipush (pc := 2) (v := (7 : Int32)) hx hb d_X_isLine_2 (by decide) ?_
  obtain ⟨w1, hw1, hE⟩ := xs_b hE
  refine xs_callSNr (pc := 4) (as := [.int (x0), .int ((0 : Int32)), .int ((7 : Int32))]) X (ok_S_isWithin l D ad cs hJ hw1) km_X_13 G ⟨by decide, by decide⟩ ⟨Nat.zero_le _, Nat.zero_le _⟩ rfl hl.1 rfl (Nat.le_of_ble_eq_true rfl) d_X_isLine_4 (fun H locs G => ?_)
  obtain ⟨hz2, hE⟩ := xs_n hE
  cases hE
  exact xs_zret (pc := 7) hx hb hr hlk G hz2 d_X_isLine_7
def fn_X_indexOf (μ0 : xs_M) (x0 : Int32) (x1 : Int32) (x2 : Int32) : Option Int32 :=
  some (((((x0 * (8 : Int32)) + x2) * (8 : Int32)) + x1))
set_option maxHeartbeats 4000000 in
set_option maxRecDepth 100000 in
theorem ok_X_indexOf (l : Launch) (D : va_G) (ad : Nat → Nat) (cs : xs_cs) (hJ : xs_J ad) {μ0 : xs_M} {x0 : Int32} {x1 : Int32} {x2 : Int32}  {rz : Int32} (hE : fn_X_indexOf μ0 x0 x1 x2 = some rz) : xs_I l D ad cs y_X_indexOf b_X_indexOf 3 (some .int) 0 0 [.int (x0), .int (x1), .int (x2)] μ0 (some (.int rz)) μ0 := by
  refine xs_entry hJ (by decide) (Nat.le_of_ble_eq_true rfl) ?_
  intro p e s m below meth c ls X hr hlk G hl
  have X : xs_C p s m c b_X_indexOf 3 _ "ExactScene$Textures" := X
  have hx := X.1
  have hb := X.2.1
  have hl : lv_has ls 3 [(0, .int (x0)), (1, .int (x1)), (2, .int (x2))] := hl
  unfold fn_X_indexOf at hE
  refine lv_iload_n (pc := 0) hx hb d_X_indexOf_0 rfl (lv_at hl 0 rfl) ?_
  refine lv_bipush (pc := 1) (v := (8 : Int32)) hx hb d_X_indexOf_1 (by decide) ?_
  refine lv_imul (pc := 3) hx hb d_X_indexOf_3 ?_
  refine lv_iload_n (pc := 4) hx hb d_X_indexOf_4 rfl (lv_at hl 2 rfl) ?_
  refine lv_iadd (pc := 5) hx hb d_X_indexOf_5 ?_
  refine lv_bipush (pc := 6) (v := (8 : Int32)) hx hb d_X_indexOf_6 (by decide) ?_
  refine lv_imul (pc := 8) hx hb d_X_indexOf_8 ?_
  refine lv_iload_n (pc := 9) hx hb d_X_indexOf_9 rfl (lv_at hl 1 rfl) ?_
  refine lv_iadd (pc := 10) hx hb d_X_indexOf_10 ?_
  cases hE
  exact xs_iret (pc := 11) hx hb hr hlk G d_X_indexOf_11
def fn_X_exchange (μ0 : xs_M) (x0 : Int32) (x1 : Int32) : Option (Int32 × xs_M) :=
  (if xs_in x0 128 = true then ((some (μ0.1 7 x0.toNatClampNeg)).bind fun a2 => (if xs_in x0 128 = true then ((some (xs_si μ0 7 x0.toNatClampNeg (x1))).bind fun μ4 => some ((a2, μ4))) else none)) else none)
set_option maxHeartbeats 4000000 in
set_option maxRecDepth 100000 in
theorem ok_X_exchange (l : Launch) (D : va_G) (ad : Nat → Nat) (cs : xs_cs) (hJ : xs_J ad) {μ0 : xs_M} {x0 : Int32} {x1 : Int32}  {rz : (Int32 × xs_M)} (hE : fn_X_exchange μ0 x0 x1 = some rz) : xs_I l D ad cs y_X_exchange b_X_exchange 4 (some .int) 0 0 [.ref (ad 6), .int (x0), .int (x1)] μ0 (some (.int rz.1)) rz.2 := by
  refine xs_entry hJ (by decide) (Nat.le_of_ble_eq_true rfl) ?_
  intro p e s m below meth c ls X hr hlk G hl
  have X : xs_C p s m c b_X_exchange 4 _ "ExactScene$Textures" := X
  have hx := X.1
  have hb := X.2.1
  have hl : lv_has ls 4 [(0, .ref (ad 6)), (1, .int (x0)), (2, .int (x1))] := hl
  unfold fn_X_exchange at hE
  refine lv_aload_n (pc := 0) hx hb d_X_exchange_0 rfl (lv_at hl 0 rfl) ?_
  refine gf_X_9 (pc := 1) X G d_X_exchange_1 ?_
  refine lv_iload_n (pc := 4) hx hb d_X_exchange_4 rfl (lv_at hl 1 rfl) ?_
  obtain ⟨hi1, hE⟩ := xs_n hE
  refine xs_iald (pc := 5) hx hb G ia_7 (xs_inP hi1) d_X_exchange_5 ?_
  obtain ⟨a2, ha2, hE⟩ := xs_b hE
  refine xs_ti ha2 ?_
  clear ha2
  refine lv_istore_n (pc := 6) hx hb d_X_exchange_6 rfl hl (by decide) (lv' := [(3, .int (a2)), (0, .ref (ad 6)), (1, .int (x0)), (2, .int (x1))]) rfl (fun ls hl => ?_)
  refine lv_aload_n (pc := 7) hx hb d_X_exchange_7 rfl (lv_at hl 1 rfl) ?_
  refine gf_X_9 (pc := 8) X G d_X_exchange_8 ?_
  refine lv_iload_n (pc := 11) hx hb d_X_exchange_11 rfl (lv_at hl 2 rfl) ?_
  refine lv_iload_n (pc := 12) hx hb d_X_exchange_12 rfl (lv_at hl 3 rfl) ?_
  obtain ⟨hi3, hE⟩ := xs_n hE
  refine xs_iast (pc := 13) hx hb G ia_7 (xs_inP hi3) d_X_exchange_13 (fun H locs G => ?_)
  obtain ⟨μ4, hμ4, hE⟩ := xs_b hE
  have G := xs_mv G hμ4
  clear hμ4
  refine lv_iload_n (pc := 14) hx hb d_X_exchange_14 rfl (lv_at hl 0 rfl) ?_
  cases hE
  exact xs_iret (pc := 15) hx hb hr hlk G d_X_exchange_15
def fn_X_wrap (μ0 : xs_M) (x0 : Int32) (x1 : Int64) : Option Int32 :=
  (if x0 = 0 then ((fn_J_floorMod μ0 x1 (8 : Int64)).bind fun w3 => some ((w3).toInt32)) else ((fn_J_min μ0 x1 (7 : Int64)).bind fun w1 => ((fn_J_max μ0 (0 : Int64) w1).bind fun w2 => some ((w2).toInt32))))
set_option maxHeartbeats 4000000 in
set_option maxRecDepth 100000 in
theorem ok_X_wrap (l : Launch) (D : va_G) (ad : Nat → Nat) (cs : xs_cs) (hJ : xs_J ad) {μ0 : xs_M} {x0 : Int32} {x1 : Int64}  {rz : Int32} (hE : fn_X_wrap μ0 x0 x1 = some rz) : xs_I l D ad cs y_X_wrap b_X_wrap 3 (some .int) 1 25 [.int (x0), .long (x1)] μ0 (some (.int rz)) μ0 := by
  refine xs_entry hJ (by decide) (Nat.le_of_ble_eq_true rfl) ?_
  intro p e s m below meth c ls X hr hlk G hl
  have X : xs_C p s m c b_X_wrap 3 _ "ExactScene$Textures" := X
  have hx := X.1
  have hb := X.2.1
  have hl : lv_has ls 3 [(0, .int (x0)), (1, .long (x1))] := hl
  unfold fn_X_wrap at hE
  refine lv_iload_n (pc := 0) hx hb d_X_wrap_0 rfl (lv_at hl 0 rfl) ?_
  refine lv_if_ne (pc := 1) (tgt := 13) hx hb d_X_wrap_1 (by decide) (fun hc => ?_) (fun hc => ?_)
  · have hE := xs_f hE hc
    refine lv_lconst (pc := 13) (v := (0 : Int64)) hx hb d_X_wrap_13 (by decide) ?_
    refine lv_lload_n (pc := 14) hx hb d_X_wrap_14 rfl (lv_at hl 1 rfl) ?_
    refine lv_ldc2 (pc := 15) (v := (7 : Int64)) hx hb X.2.2.2.1 (X.2.2.2.2.1 _ cl_X_27) d_X_wrap_15 ?_
    obtain ⟨w1, hw1, hE⟩ := xs_b hE
    refine xs_callSr (pc := 18) (as := [.long (x1), .long ((7 : Int64))]) X (ok_J_min l D ad cs hJ hw1) km_X_29 G ⟨by decide, by decide⟩ ⟨Nat.zero_le _, Nat.zero_le _⟩ rfl hl.1 rfl (Nat.le_of_ble_eq_true rfl) d_X_wrap_18 (fun H locs G => ?_)
    obtain ⟨w2, hw2, hE⟩ := xs_b hE
    refine xs_callSr (pc := 21) (as := [.long ((0 : Int64)), .long (w1)]) X (ok_J_max l D ad cs hJ hw2) km_X_32 G ⟨by decide, by decide⟩ ⟨Nat.zero_le _, Nat.zero_le _⟩ rfl hl.1 rfl (Nat.le_of_ble_eq_true rfl) d_X_wrap_21 (fun H locs G => ?_)
    refine lv_l2i (pc := 24) hx hb d_X_wrap_24 rfl ?_
    cases hE
    exact xs_iret (pc := 25) hx hb hr hlk G d_X_wrap_25
  · have hE := xs_t hE hc
    refine lv_lload_n (pc := 4) hx hb d_X_wrap_4 rfl (lv_at hl 1 rfl) ?_
    refine lv_ldc2 (pc := 5) (v := (8 : Int64)) hx hb X.2.2.2.1 (X.2.2.2.2.1 _ cl_X_19) d_X_wrap_5 ?_
    obtain ⟨w3, hw3, hE⟩ := xs_b hE
    refine xs_callSr (pc := 8) (as := [.long (x1), .long ((8 : Int64))]) X (ok_J_floorMod l D ad cs hJ hw3) km_X_21 G ⟨by decide, by decide⟩ ⟨Nat.zero_le _, Nat.zero_le _⟩ rfl hl.1 rfl (Nat.le_of_ble_eq_true rfl) d_X_wrap_8 (fun H locs G => ?_)
    refine lv_l2i (pc := 11) hx hb d_X_wrap_11 rfl ?_
    cases hE
    exact xs_iret (pc := 12) hx hb hr hlk G d_X_wrap_12
end
section
theorem d_M_isLine_0 : decode b_M_isLine 0 = .ok (.iload_n 0, 1) := by decide +kernel
theorem d_M_isLine_1 : decode b_M_isLine 1 = .ok (.iconst 0, 1) := by decide +kernel
theorem d_M_isLine_2 : decode b_M_isLine 2 = .ok (.iconst 3, 1) := by decide +kernel
theorem d_M_isLine_3 : decode b_M_isLine 3 = .ok (.invokestatic 22, 3) := by decide +kernel
theorem d_M_isLine_6 : decode b_M_isLine 6 = .ok (.ireturn, 1) := by decide +kernel
theorem d_M_isEntry_0 : decode b_M_isEntry 0 = .ok (.lload_n 0, 1) := by decide +kernel
theorem d_M_isEntry_1 : decode b_M_isEntry 1 = .ok (.ldc2_w 28, 3) := by decide +kernel
theorem d_M_isEntry_4 : decode b_M_isEntry 4 = .ok (.lcmp, 1) := by decide +kernel
theorem d_M_isEntry_5 : decode b_M_isEntry 5 = .ok (.ifCond .lt (15), 3) := by decide +kernel
theorem d_M_isEntry_8 : decode b_M_isEntry 8 = .ok (.lload_n 0, 1) := by decide +kernel
theorem d_M_isEntry_9 : decode b_M_isEntry 9 = .ok (.ldc2_w 30, 3) := by decide +kernel
theorem d_M_isEntry_12 : decode b_M_isEntry 12 = .ok (.lcmp, 1) := by decide +kernel
theorem d_M_isEntry_13 : decode b_M_isEntry 13 = .ok (.ifCond .gt (7), 3) := by decide +kernel
theorem d_M_isEntry_16 : decode b_M_isEntry 16 = .ok (.iconst 1, 1) := by decide +kernel
theorem d_M_isEntry_17 : decode b_M_isEntry 17 = .ok (.goto (4), 3) := by decide +kernel
theorem d_M_isEntry_20 : decode b_M_isEntry 20 = .ok (.iconst 0, 1) := by decide +kernel
theorem d_M_isEntry_21 : decode b_M_isEntry 21 = .ok (.ireturn, 1) := by decide +kernel
theorem d_M_setRow_0 : decode b_M_setRow 0 = .ok (.aload_n 0, 1) := by decide +kernel
theorem d_M_setRow_1 : decode b_M_setRow 1 = .ok (.getfield 9, 3) := by decide +kernel
theorem d_M_setRow_4 : decode b_M_setRow 4 = .ok (.iload_n 1, 1) := by decide +kernel
theorem d_M_setRow_5 : decode b_M_setRow 5 = .ok (.iconst 4, 1) := by decide +kernel
theorem d_M_setRow_6 : decode b_M_setRow 6 = .ok (.imul, 1) := by decide +kernel
theorem d_M_setRow_7 : decode b_M_setRow 7 = .ok (.iload_n 2, 1) := by decide +kernel
theorem d_M_setRow_8 : decode b_M_setRow 8 = .ok (.iastore, 1) := by decide +kernel
theorem d_M_setRow_9 : decode b_M_setRow 9 = .ok (.aload_n 0, 1) := by decide +kernel
theorem d_M_setRow_10 : decode b_M_setRow 10 = .ok (.getfield 9, 3) := by decide +kernel
theorem d_M_setRow_13 : decode b_M_setRow 13 = .ok (.iload_n 1, 1) := by decide +kernel
theorem d_M_setRow_14 : decode b_M_setRow 14 = .ok (.iconst 4, 1) := by decide +kernel
theorem d_M_setRow_15 : decode b_M_setRow 15 = .ok (.imul, 1) := by decide +kernel
theorem d_M_setRow_16 : decode b_M_setRow 16 = .ok (.iconst 1, 1) := by decide +kernel
theorem d_M_setRow_17 : decode b_M_setRow 17 = .ok (.iadd, 1) := by decide +kernel
theorem d_M_setRow_18 : decode b_M_setRow 18 = .ok (.iload_n 3, 1) := by decide +kernel
theorem d_M_setRow_19 : decode b_M_setRow 19 = .ok (.iastore, 1) := by decide +kernel
theorem d_M_setRow_20 : decode b_M_setRow 20 = .ok (.aload_n 0, 1) := by decide +kernel
theorem d_M_setRow_21 : decode b_M_setRow 21 = .ok (.getfield 9, 3) := by decide +kernel
theorem d_M_setRow_24 : decode b_M_setRow 24 = .ok (.iload_n 1, 1) := by decide +kernel
theorem d_M_setRow_25 : decode b_M_setRow 25 = .ok (.iconst 4, 1) := by decide +kernel
theorem d_M_setRow_26 : decode b_M_setRow 26 = .ok (.imul, 1) := by decide +kernel
theorem d_M_setRow_27 : decode b_M_setRow 27 = .ok (.iconst 2, 1) := by decide +kernel
theorem d_M_setRow_28 : decode b_M_setRow 28 = .ok (.iadd, 1) := by decide +kernel
theorem d_M_setRow_29 : decode b_M_setRow 29 = .ok (.iload 4, 2) := by decide +kernel
theorem d_M_setRow_31 : decode b_M_setRow 31 = .ok (.iastore, 1) := by decide +kernel
theorem d_M_setRow_32 : decode b_M_setRow 32 = .ok (.aload_n 0, 1) := by decide +kernel
theorem d_M_setRow_33 : decode b_M_setRow 33 = .ok (.getfield 9, 3) := by decide +kernel
theorem d_M_setRow_36 : decode b_M_setRow 36 = .ok (.iload_n 1, 1) := by decide +kernel
theorem d_M_setRow_37 : decode b_M_setRow 37 = .ok (.iconst 4, 1) := by decide +kernel
theorem d_M_setRow_38 : decode b_M_setRow 38 = .ok (.imul, 1) := by decide +kernel
theorem d_M_setRow_39 : decode b_M_setRow 39 = .ok (.iconst 3, 1) := by decide +kernel
theorem d_M_setRow_40 : decode b_M_setRow 40 = .ok (.iadd, 1) := by decide +kernel
theorem d_M_setRow_41 : decode b_M_setRow 41 = .ok (.iload 5, 2) := by decide +kernel
theorem d_M_setRow_43 : decode b_M_setRow 43 = .ok (.iastore, 1) := by decide +kernel
theorem d_M_setRow_44 : decode b_M_setRow 44 = .ok (.return_, 1) := by decide +kernel
theorem d_M_setDiagonalFactor_0 : decode b_M_setDiagonalFactor 0 = .ok (.iconst 0, 1) := by decide +kernel
theorem d_M_setDiagonalFactor_1 : decode b_M_setDiagonalFactor 1 = .ok (.istore 4, 2) := by decide +kernel
theorem d_M_setDiagonalFactor_3 : decode b_M_setDiagonalFactor 3 = .ok (.iload 4, 2) := by decide +kernel
theorem d_M_setDiagonalFactor_5 : decode b_M_setDiagonalFactor 5 = .ok (.bipush (16), 2) := by decide +kernel
theorem d_M_setDiagonalFactor_7 : decode b_M_setDiagonalFactor 7 = .ok (.if_icmp .ge (17), 3) := by decide +kernel
theorem d_M_setDiagonalFactor_10 : decode b_M_setDiagonalFactor 10 = .ok (.aload_n 0, 1) := by decide +kernel
theorem d_M_setDiagonalFactor_11 : decode b_M_setDiagonalFactor 11 = .ok (.getfield 16, 3) := by decide +kernel
theorem d_M_setDiagonalFactor_14 : decode b_M_setDiagonalFactor 14 = .ok (.iload 4, 2) := by decide +kernel
theorem d_M_setDiagonalFactor_16 : decode b_M_setDiagonalFactor 16 = .ok (.iconst 0, 1) := by decide +kernel
theorem d_M_setDiagonalFactor_17 : decode b_M_setDiagonalFactor 17 = .ok (.iastore, 1) := by decide +kernel
theorem d_M_setDiagonalFactor_18 : decode b_M_setDiagonalFactor 18 = .ok (.iinc 4 (1), 3) := by decide +kernel
theorem d_M_setDiagonalFactor_21 : decode b_M_setDiagonalFactor 21 = .ok (.goto (-18), 3) := by decide +kernel
theorem d_M_setDiagonalFactor_24 : decode b_M_setDiagonalFactor 24 = .ok (.aload_n 0, 1) := by decide +kernel
theorem d_M_setDiagonalFactor_25 : decode b_M_setDiagonalFactor 25 = .ok (.getfield 16, 3) := by decide +kernel
theorem d_M_setDiagonalFactor_28 : decode b_M_setDiagonalFactor 28 = .ok (.iconst 0, 1) := by decide +kernel
theorem d_M_setDiagonalFactor_29 : decode b_M_setDiagonalFactor 29 = .ok (.iload_n 1, 1) := by decide +kernel
theorem d_M_setDiagonalFactor_30 : decode b_M_setDiagonalFactor 30 = .ok (.iastore, 1) := by decide +kernel
theorem d_M_setDiagonalFactor_31 : decode b_M_setDiagonalFactor 31 = .ok (.aload_n 0, 1) := by decide +kernel
theorem d_M_setDiagonalFactor_32 : decode b_M_setDiagonalFactor 32 = .ok (.getfield 16, 3) := by decide +kernel
theorem d_M_setDiagonalFactor_35 : decode b_M_setDiagonalFactor 35 = .ok (.iconst 5, 1) := by decide +kernel
theorem d_M_setDiagonalFactor_36 : decode b_M_setDiagonalFactor 36 = .ok (.iload_n 2, 1) := by decide +kernel
theorem d_M_setDiagonalFactor_37 : decode b_M_setDiagonalFactor 37 = .ok (.iastore, 1) := by decide +kernel
theorem d_M_setDiagonalFactor_38 : decode b_M_setDiagonalFactor 38 = .ok (.aload_n 0, 1) := by decide +kernel
theorem d_M_setDiagonalFactor_39 : decode b_M_setDiagonalFactor 39 = .ok (.getfield 16, 3) := by decide +kernel
theorem d_M_setDiagonalFactor_42 : decode b_M_setDiagonalFactor 42 = .ok (.bipush (10), 2) := by decide +kernel
theorem d_M_setDiagonalFactor_44 : decode b_M_setDiagonalFactor 44 = .ok (.iload_n 3, 1) := by decide +kernel
theorem d_M_setDiagonalFactor_45 : decode b_M_setDiagonalFactor 45 = .ok (.iastore, 1) := by decide +kernel
theorem d_M_setDiagonalFactor_46 : decode b_M_setDiagonalFactor 46 = .ok (.aload_n 0, 1) := by decide +kernel
theorem d_M_setDiagonalFactor_47 : decode b_M_setDiagonalFactor 47 = .ok (.getfield 16, 3) := by decide +kernel
theorem d_M_setDiagonalFactor_50 : decode b_M_setDiagonalFactor 50 = .ok (.bipush (15), 2) := by decide +kernel
theorem d_M_setDiagonalFactor_52 : decode b_M_setDiagonalFactor 52 = .ok (.iconst 1, 1) := by decide +kernel
theorem d_M_setDiagonalFactor_53 : decode b_M_setDiagonalFactor 53 = .ok (.iastore, 1) := by decide +kernel
theorem d_M_setDiagonalFactor_54 : decode b_M_setDiagonalFactor 54 = .ok (.return_, 1) := by decide +kernel
theorem d_M_multiply_0 : decode b_M_multiply 0 = .ok (.iconst 0, 1) := by decide +kernel
theorem d_M_multiply_1 : decode b_M_multiply 1 = .ok (.istore 4, 2) := by decide +kernel
theorem d_M_multiply_3 : decode b_M_multiply 3 = .ok (.iload 4, 2) := by decide +kernel
theorem d_M_multiply_5 : decode b_M_multiply 5 = .ok (.iconst 4, 1) := by decide +kernel
theorem d_M_multiply_6 : decode b_M_multiply 6 = .ok (.if_icmp .ge (95), 3) := by decide +kernel
theorem d_M_multiply_9 : decode b_M_multiply 9 = .ok (.iconst 0, 1) := by decide +kernel
theorem d_M_multiply_10 : decode b_M_multiply 10 = .ok (.istore 5, 2) := by decide +kernel
theorem d_M_multiply_12 : decode b_M_multiply 12 = .ok (.iload 5, 2) := by decide +kernel
theorem d_M_multiply_14 : decode b_M_multiply 14 = .ok (.iconst 4, 1) := by decide +kernel
theorem d_M_multiply_15 : decode b_M_multiply 15 = .ok (.if_icmp .ge (80), 3) := by decide +kernel
theorem d_M_multiply_18 : decode b_M_multiply 18 = .ok (.lconst 0, 1) := by decide +kernel
theorem d_M_multiply_19 : decode b_M_multiply 19 = .ok (.lstore 6, 2) := by decide +kernel
theorem d_M_multiply_21 : decode b_M_multiply 21 = .ok (.iconst 0, 1) := by decide +kernel
theorem d_M_multiply_22 : decode b_M_multiply 22 = .ok (.istore 8, 2) := by decide +kernel
theorem d_M_multiply_24 : decode b_M_multiply 24 = .ok (.iload 8, 2) := by decide +kernel
theorem d_M_multiply_26 : decode b_M_multiply 26 = .ok (.iconst 4, 1) := by decide +kernel
theorem d_M_multiply_27 : decode b_M_multiply 27 = .ok (.if_icmp .ge (37), 3) := by decide +kernel
theorem d_M_multiply_30 : decode b_M_multiply 30 = .ok (.lload 6, 2) := by decide +kernel
theorem d_M_multiply_32 : decode b_M_multiply 32 = .ok (.aload_n 1, 1) := by decide +kernel
theorem d_M_multiply_33 : decode b_M_multiply 33 = .ok (.iload_n 2, 1) := by decide +kernel
theorem d_M_multiply_34 : decode b_M_multiply 34 = .ok (.iload 4, 2) := by decide +kernel
theorem d_M_multiply_36 : decode b_M_multiply 36 = .ok (.iconst 4, 1) := by decide +kernel
theorem d_M_multiply_37 : decode b_M_multiply 37 = .ok (.imul, 1) := by decide +kernel
theorem d_M_multiply_38 : decode b_M_multiply 38 = .ok (.iadd, 1) := by decide +kernel
theorem d_M_multiply_39 : decode b_M_multiply 39 = .ok (.iload 8, 2) := by decide +kernel
theorem d_M_multiply_41 : decode b_M_multiply 41 = .ok (.iadd, 1) := by decide +kernel
theorem d_M_multiply_42 : decode b_M_multiply 42 = .ok (.iaload, 1) := by decide +kernel
theorem d_M_multiply_43 : decode b_M_multiply 43 = .ok (.i2l, 1) := by decide +kernel
theorem d_M_multiply_44 : decode b_M_multiply 44 = .ok (.aload_n 3, 1) := by decide +kernel
theorem d_M_multiply_45 : decode b_M_multiply 45 = .ok (.iload 8, 2) := by decide +kernel
theorem d_M_multiply_47 : decode b_M_multiply 47 = .ok (.iconst 4, 1) := by decide +kernel
theorem d_M_multiply_48 : decode b_M_multiply 48 = .ok (.imul, 1) := by decide +kernel
theorem d_M_multiply_49 : decode b_M_multiply 49 = .ok (.iload 5, 2) := by decide +kernel
theorem d_M_multiply_51 : decode b_M_multiply 51 = .ok (.iadd, 1) := by decide +kernel
theorem d_M_multiply_52 : decode b_M_multiply 52 = .ok (.iaload, 1) := by decide +kernel
theorem d_M_multiply_53 : decode b_M_multiply 53 = .ok (.i2l, 1) := by decide +kernel
theorem d_M_multiply_54 : decode b_M_multiply 54 = .ok (.lmul, 1) := by decide +kernel
theorem d_M_multiply_55 : decode b_M_multiply 55 = .ok (.ladd, 1) := by decide +kernel
theorem d_M_multiply_56 : decode b_M_multiply 56 = .ok (.lstore 6, 2) := by decide +kernel
theorem d_M_multiply_58 : decode b_M_multiply 58 = .ok (.iinc 8 (1), 3) := by decide +kernel
theorem d_M_multiply_61 : decode b_M_multiply 61 = .ok (.goto (-37), 3) := by decide +kernel
theorem d_M_multiply_64 : decode b_M_multiply 64 = .ok (.lload 6, 2) := by decide +kernel
theorem d_M_multiply_66 : decode b_M_multiply 66 = .ok (.invokestatic 54, 3) := by decide +kernel
theorem d_M_multiply_69 : decode b_M_multiply 69 = .ok (.ifCond .ne (5), 3) := by decide +kernel
theorem d_M_multiply_72 : decode b_M_multiply 72 = .ok (.iconst 0, 1) := by decide +kernel
theorem d_M_multiply_73 : decode b_M_multiply 73 = .ok (.ireturn, 1) := by decide +kernel
theorem d_M_multiply_74 : decode b_M_multiply 74 = .ok (.aload_n 0, 1) := by decide +kernel
theorem d_M_multiply_75 : decode b_M_multiply 75 = .ok (.getfield 19, 3) := by decide +kernel
theorem d_M_multiply_78 : decode b_M_multiply 78 = .ok (.iload 4, 2) := by decide +kernel
theorem d_M_multiply_80 : decode b_M_multiply 80 = .ok (.iconst 4, 1) := by decide +kernel
theorem d_M_multiply_81 : decode b_M_multiply 81 = .ok (.imul, 1) := by decide +kernel
theorem d_M_multiply_82 : decode b_M_multiply 82 = .ok (.iload 5, 2) := by decide +kernel
theorem d_M_multiply_84 : decode b_M_multiply 84 = .ok (.iadd, 1) := by decide +kernel
theorem d_M_multiply_85 : decode b_M_multiply 85 = .ok (.lload 6, 2) := by decide +kernel
theorem d_M_multiply_87 : decode b_M_multiply 87 = .ok (.l2i, 1) := by decide +kernel
theorem d_M_multiply_88 : decode b_M_multiply 88 = .ok (.iastore, 1) := by decide +kernel
theorem d_M_multiply_89 : decode b_M_multiply 89 = .ok (.iinc 5 (1), 3) := by decide +kernel
theorem d_M_multiply_92 : decode b_M_multiply 92 = .ok (.goto (-80), 3) := by decide +kernel
theorem d_M_multiply_95 : decode b_M_multiply 95 = .ok (.iinc 4 (1), 3) := by decide +kernel
theorem d_M_multiply_98 : decode b_M_multiply 98 = .ok (.goto (-95), 3) := by decide +kernel
theorem d_M_multiply_101 : decode b_M_multiply 101 = .ok (.aload_n 0, 1) := by decide +kernel
theorem d_M_multiply_102 : decode b_M_multiply 102 = .ok (.getfield 19, 3) := by decide +kernel
theorem d_M_multiply_105 : decode b_M_multiply 105 = .ok (.iconst 0, 1) := by decide +kernel
theorem d_M_multiply_106 : decode b_M_multiply 106 = .ok (.aload_n 0, 1) := by decide +kernel
theorem d_M_multiply_107 : decode b_M_multiply 107 = .ok (.getfield 9, 3) := by decide +kernel
theorem d_M_multiply_110 : decode b_M_multiply 110 = .ok (.iconst 0, 1) := by decide +kernel
theorem d_M_multiply_111 : decode b_M_multiply 111 = .ok (.bipush (16), 2) := by decide +kernel
theorem d_M_multiply_113 : decode b_M_multiply 113 = .ok (.invokestatic 48, 3) := by decide +kernel
theorem d_M_multiply_116 : decode b_M_multiply 116 = .ok (.iconst 1, 1) := by decide +kernel
theorem d_M_multiply_117 : decode b_M_multiply 117 = .ok (.ireturn, 1) := by decide +kernel
theorem d_M_multiplyByMove_0 : decode b_M_multiplyByMove 0 = .ok (.aload_n 0, 1) := by decide +kernel
theorem d_M_multiplyByMove_1 : decode b_M_multiplyByMove 1 = .ok (.iconst 1, 1) := by decide +kernel
theorem d_M_multiplyByMove_2 : decode b_M_multiplyByMove 2 = .ok (.iconst 1, 1) := by decide +kernel
theorem d_M_multiplyByMove_3 : decode b_M_multiplyByMove 3 = .ok (.iconst 1, 1) := by decide +kernel
theorem d_M_multiplyByMove_4 : decode b_M_multiplyByMove 4 = .ok (.invokevirtual 40, 3) := by decide +kernel
theorem d_M_multiplyByMove_7 : decode b_M_multiplyByMove 7 = .ok (.aload_n 0, 1) := by decide +kernel
theorem d_M_multiplyByMove_8 : decode b_M_multiplyByMove 8 = .ok (.getfield 16, 3) := by decide +kernel
theorem d_M_multiplyByMove_11 : decode b_M_multiplyByMove 11 = .ok (.iconst 3, 1) := by decide +kernel
theorem d_M_multiplyByMove_12 : decode b_M_multiplyByMove 12 = .ok (.iload_n 1, 1) := by decide +kernel
theorem d_M_multiplyByMove_13 : decode b_M_multiplyByMove 13 = .ok (.iastore, 1) := by decide +kernel
theorem d_M_multiplyByMove_14 : decode b_M_multiplyByMove 14 = .ok (.aload_n 0, 1) := by decide +kernel
theorem d_M_multiplyByMove_15 : decode b_M_multiplyByMove 15 = .ok (.getfield 16, 3) := by decide +kernel
theorem d_M_multiplyByMove_18 : decode b_M_multiplyByMove 18 = .ok (.bipush (7), 2) := by decide +kernel
theorem d_M_multiplyByMove_20 : decode b_M_multiplyByMove 20 = .ok (.iload_n 2, 1) := by decide +kernel
theorem d_M_multiplyByMove_21 : decode b_M_multiplyByMove 21 = .ok (.iastore, 1) := by decide +kernel
theorem d_M_multiplyByMove_22 : decode b_M_multiplyByMove 22 = .ok (.aload_n 0, 1) := by decide +kernel
theorem d_M_multiplyByMove_23 : decode b_M_multiplyByMove 23 = .ok (.getfield 16, 3) := by decide +kernel
theorem d_M_multiplyByMove_26 : decode b_M_multiplyByMove 26 = .ok (.bipush (11), 2) := by decide +kernel
theorem d_M_multiplyByMove_28 : decode b_M_multiplyByMove 28 = .ok (.iload_n 3, 1) := by decide +kernel
theorem d_M_multiplyByMove_29 : decode b_M_multiplyByMove 29 = .ok (.iastore, 1) := by decide +kernel
theorem d_M_multiplyByMove_30 : decode b_M_multiplyByMove 30 = .ok (.aload_n 0, 1) := by decide +kernel
theorem d_M_multiplyByMove_31 : decode b_M_multiplyByMove 31 = .ok (.aload_n 0, 1) := by decide +kernel
theorem d_M_multiplyByMove_32 : decode b_M_multiplyByMove 32 = .ok (.getfield 9, 3) := by decide +kernel
theorem d_M_multiplyByMove_35 : decode b_M_multiplyByMove 35 = .ok (.iconst 0, 1) := by decide +kernel
theorem d_M_multiplyByMove_36 : decode b_M_multiplyByMove 36 = .ok (.aload_n 0, 1) := by decide +kernel
theorem d_M_multiplyByMove_37 : decode b_M_multiplyByMove 37 = .ok (.getfield 16, 3) := by decide +kernel
theorem d_M_multiplyByMove_40 : decode b_M_multiplyByMove 40 = .ok (.invokevirtual 44, 3) := by decide +kernel
theorem d_M_multiplyByMove_43 : decode b_M_multiplyByMove 43 = .ok (.ireturn, 1) := by decide +kernel
theorem d_M_multiplyByStretch_0 : decode b_M_multiplyByStretch 0 = .ok (.aload_n 0, 1) := by decide +kernel
theorem d_M_multiplyByStretch_1 : decode b_M_multiplyByStretch 1 = .ok (.iload_n 1, 1) := by decide +kernel
theorem d_M_multiplyByStretch_2 : decode b_M_multiplyByStretch 2 = .ok (.iload_n 2, 1) := by decide +kernel
theorem d_M_multiplyByStretch_3 : decode b_M_multiplyByStretch 3 = .ok (.iload_n 3, 1) := by decide +kernel
theorem d_M_multiplyByStretch_4 : decode b_M_multiplyByStretch 4 = .ok (.invokevirtual 40, 3) := by decide +kernel
theorem d_M_multiplyByStretch_7 : decode b_M_multiplyByStretch 7 = .ok (.aload_n 0, 1) := by decide +kernel
theorem d_M_multiplyByStretch_8 : decode b_M_multiplyByStretch 8 = .ok (.aload_n 0, 1) := by decide +kernel
theorem d_M_multiplyByStretch_9 : decode b_M_multiplyByStretch 9 = .ok (.getfield 9, 3) := by decide +kernel
theorem d_M_multiplyByStretch_12 : decode b_M_multiplyByStretch 12 = .ok (.iconst 0, 1) := by decide +kernel
theorem d_M_multiplyByStretch_13 : decode b_M_multiplyByStretch 13 = .ok (.aload_n 0, 1) := by decide +kernel
theorem d_M_multiplyByStretch_14 : decode b_M_multiplyByStretch 14 = .ok (.getfield 16, 3) := by decide +kernel
theorem d_M_multiplyByStretch_17 : decode b_M_multiplyByStretch 17 = .ok (.invokevirtual 44, 3) := by decide +kernel
theorem d_M_multiplyByStretch_20 : decode b_M_multiplyByStretch 20 = .ok (.ireturn, 1) := by decide +kernel
theorem d_M_quarterTurn_0 : decode b_M_quarterTurn 0 = .ok (.iconst 0, 1) := by decide +kernel
theorem d_M_quarterTurn_1 : decode b_M_quarterTurn 1 = .ok (.istore_n 3, 1) := by decide +kernel
theorem d_M_quarterTurn_2 : decode b_M_quarterTurn 2 = .ok (.iload_n 3, 1) := by decide +kernel
theorem d_M_quarterTurn_3 : decode b_M_quarterTurn 3 = .ok (.iconst 4, 1) := by decide +kernel
theorem d_M_quarterTurn_4 : decode b_M_quarterTurn 4 = .ok (.if_icmp .ge (54), 3) := by decide +kernel
theorem d_M_quarterTurn_7 : decode b_M_quarterTurn 7 = .ok (.aload_n 0, 1) := by decide +kernel
theorem d_M_quarterTurn_8 : decode b_M_quarterTurn 8 = .ok (.getfield 9, 3) := by decide +kernel
theorem d_M_quarterTurn_11 : decode b_M_quarterTurn 11 = .ok (.iload_n 3, 1) := by decide +kernel
theorem d_M_quarterTurn_12 : decode b_M_quarterTurn 12 = .ok (.iconst 4, 1) := by decide +kernel
theorem d_M_quarterTurn_13 : decode b_M_quarterTurn 13 = .ok (.imul, 1) := by decide +kernel
theorem d_M_quarterTurn_14 : decode b_M_quarterTurn 14 = .ok (.iload_n 1, 1) := by decide +kernel
theorem d_M_quarterTurn_15 : decode b_M_quarterTurn 15 = .ok (.iadd, 1) := by decide +kernel
theorem d_M_quarterTurn_16 : decode b_M_quarterTurn 16 = .ok (.iaload, 1) := by decide +kernel
theorem d_M_quarterTurn_17 : decode b_M_quarterTurn 17 = .ok (.istore 4, 2) := by decide +kernel
theorem d_M_quarterTurn_19 : decode b_M_quarterTurn 19 = .ok (.aload_n 0, 1) := by decide +kernel
theorem d_M_quarterTurn_20 : decode b_M_quarterTurn 20 = .ok (.getfield 9, 3) := by decide +kernel
theorem d_M_quarterTurn_23 : decode b_M_quarterTurn 23 = .ok (.iload_n 3, 1) := by decide +kernel
theorem d_M_quarterTurn_24 : decode b_M_quarterTurn 24 = .ok (.iconst 4, 1) := by decide +kernel
theorem d_M_quarterTurn_25 : decode b_M_quarterTurn 25 = .ok (.imul, 1) := by decide +kernel
theorem d_M_quarterTurn_26 : decode b_M_quarterTurn 26 = .ok (.iload_n 1, 1) := by decide +kernel
theorem d_M_quarterTurn_27 : decode b_M_quarterTurn 27 = .ok (.iadd, 1) := by decide +kernel
theorem d_M_quarterTurn_28 : decode b_M_quarterTurn 28 = .ok (.aload_n 0, 1) := by decide +kernel
theorem d_M_quarterTurn_29 : decode b_M_quarterTurn 29 = .ok (.getfield 9, 3) := by decide +kernel
theorem d_M_quarterTurn_32 : decode b_M_quarterTurn 32 = .ok (.iload_n 3, 1) := by decide +kernel
theorem d_M_quarterTurn_33 : decode b_M_quarterTurn 33 = .ok (.iconst 4, 1) := by decide +kernel
theorem d_M_quarterTurn_34 : decode b_M_quarterTurn 34 = .ok (.imul, 1) := by decide +kernel
theorem d_M_quarterTurn_35 : decode b_M_quarterTurn 35 = .ok (.iload_n 2, 1) := by decide +kernel
theorem d_M_quarterTurn_36 : decode b_M_quarterTurn 36 = .ok (.iadd, 1) := by decide +kernel
theorem d_M_quarterTurn_37 : decode b_M_quarterTurn 37 = .ok (.iaload, 1) := by decide +kernel
theorem d_M_quarterTurn_38 : decode b_M_quarterTurn 38 = .ok (.iastore, 1) := by decide +kernel
theorem d_M_quarterTurn_39 : decode b_M_quarterTurn 39 = .ok (.aload_n 0, 1) := by decide +kernel
theorem d_M_quarterTurn_40 : decode b_M_quarterTurn 40 = .ok (.getfield 9, 3) := by decide +kernel
theorem d_M_quarterTurn_43 : decode b_M_quarterTurn 43 = .ok (.iload_n 3, 1) := by decide +kernel
theorem d_M_quarterTurn_44 : decode b_M_quarterTurn 44 = .ok (.iconst 4, 1) := by decide +kernel
theorem d_M_quarterTurn_45 : decode b_M_quarterTurn 45 = .ok (.imul, 1) := by decide +kernel
theorem d_M_quarterTurn_46 : decode b_M_quarterTurn 46 = .ok (.iload_n 2, 1) := by decide +kernel
theorem d_M_quarterTurn_47 : decode b_M_quarterTurn 47 = .ok (.iadd, 1) := by decide +kernel
theorem d_M_quarterTurn_48 : decode b_M_quarterTurn 48 = .ok (.iload 4, 2) := by decide +kernel
theorem d_M_quarterTurn_50 : decode b_M_quarterTurn 50 = .ok (.ineg, 1) := by decide +kernel
theorem d_M_quarterTurn_51 : decode b_M_quarterTurn 51 = .ok (.iastore, 1) := by decide +kernel
theorem d_M_quarterTurn_52 : decode b_M_quarterTurn 52 = .ok (.iinc 3 (1), 3) := by decide +kernel
theorem d_M_quarterTurn_55 : decode b_M_quarterTurn 55 = .ok (.goto (-53), 3) := by decide +kernel
theorem d_M_quarterTurn_58 : decode b_M_quarterTurn 58 = .ok (.return_, 1) := by decide +kernel
theorem d_M_isPileEmpty_0 : decode b_M_isPileEmpty 0 = .ok (.aload_n 0, 1) := by decide +kernel
theorem d_M_isPileEmpty_1 : decode b_M_isPileEmpty 1 = .ok (.getfield 32, 3) := by decide +kernel
theorem d_M_isPileEmpty_4 : decode b_M_isPileEmpty 4 = .ok (.ifCond .ne (7), 3) := by decide +kernel
theorem d_M_isPileEmpty_7 : decode b_M_isPileEmpty 7 = .ok (.iconst 1, 1) := by decide +kernel
theorem d_M_isPileEmpty_8 : decode b_M_isPileEmpty 8 = .ok (.goto (4), 3) := by decide +kernel
theorem d_M_isPileEmpty_11 : decode b_M_isPileEmpty 11 = .ok (.iconst 0, 1) := by decide +kernel
theorem d_M_isPileEmpty_12 : decode b_M_isPileEmpty 12 = .ok (.ireturn, 1) := by decide +kernel
theorem d_M_multiplyLatestByCurrent_0 : decode b_M_multiplyLatestByCurrent 0 = .ok (.aload_n 0, 1) := by decide +kernel
theorem d_M_multiplyLatestByCurrent_1 : decode b_M_multiplyLatestByCurrent 1 = .ok (.aload_n 0, 1) := by decide +kernel
theorem d_M_multiplyLatestByCurrent_2 : decode b_M_multiplyLatestByCurrent 2 = .ok (.getfield 13, 3) := by decide +kernel
theorem d_M_multiplyLatestByCurrent_5 : decode b_M_multiplyLatestByCurrent 5 = .ok (.aload_n 0, 1) := by decide +kernel
theorem d_M_multiplyLatestByCurrent_6 : decode b_M_multiplyLatestByCurrent 6 = .ok (.getfield 32, 3) := by decide +kernel
theorem d_M_multiplyLatestByCurrent_9 : decode b_M_multiplyLatestByCurrent 9 = .ok (.iconst 1, 1) := by decide +kernel
theorem d_M_multiplyLatestByCurrent_10 : decode b_M_multiplyLatestByCurrent 10 = .ok (.isub, 1) := by decide +kernel
theorem d_M_multiplyLatestByCurrent_11 : decode b_M_multiplyLatestByCurrent 11 = .ok (.bipush (16), 2) := by decide +kernel
theorem d_M_multiplyLatestByCurrent_13 : decode b_M_multiplyLatestByCurrent 13 = .ok (.imul, 1) := by decide +kernel
theorem d_M_multiplyLatestByCurrent_14 : decode b_M_multiplyLatestByCurrent 14 = .ok (.aload_n 0, 1) := by decide +kernel
theorem d_M_multiplyLatestByCurrent_15 : decode b_M_multiplyLatestByCurrent 15 = .ok (.getfield 9, 3) := by decide +kernel
theorem d_M_multiplyLatestByCurrent_18 : decode b_M_multiplyLatestByCurrent 18 = .ok (.invokevirtual 44, 3) := by decide +kernel
theorem d_M_multiplyLatestByCurrent_21 : decode b_M_multiplyLatestByCurrent 21 = .ok (.istore_n 1, 1) := by decide +kernel
theorem d_M_multiplyLatestByCurrent_22 : decode b_M_multiplyLatestByCurrent 22 = .ok (.iload_n 1, 1) := by decide +kernel
theorem d_M_multiplyLatestByCurrent_23 : decode b_M_multiplyLatestByCurrent 23 = .ok (.ifCond .eq (13), 3) := by decide +kernel
theorem d_M_multiplyLatestByCurrent_26 : decode b_M_multiplyLatestByCurrent 26 = .ok (.aload_n 0, 1) := by decide +kernel
theorem d_M_multiplyLatestByCurrent_27 : decode b_M_multiplyLatestByCurrent 27 = .ok (.dup, 1) := by decide +kernel
theorem d_M_multiplyLatestByCurrent_28 : decode b_M_multiplyLatestByCurrent 28 = .ok (.getfield 32, 3) := by decide +kernel
theorem d_M_multiplyLatestByCurrent_31 : decode b_M_multiplyLatestByCurrent 31 = .ok (.iconst 1, 1) := by decide +kernel
theorem d_M_multiplyLatestByCurrent_32 : decode b_M_multiplyLatestByCurrent 32 = .ok (.isub, 1) := by decide +kernel
theorem d_M_multiplyLatestByCurrent_33 : decode b_M_multiplyLatestByCurrent 33 = .ok (.putfield 32, 3) := by decide +kernel
theorem d_M_multiplyLatestByCurrent_36 : decode b_M_multiplyLatestByCurrent 36 = .ok (.iload_n 1, 1) := by decide +kernel
theorem d_M_multiplyLatestByCurrent_37 : decode b_M_multiplyLatestByCurrent 37 = .ok (.ireturn, 1) := by decide +kernel
theorem d_M_isPileFull_0 : decode b_M_isPileFull 0 = .ok (.aload_n 0, 1) := by decide +kernel
theorem d_M_isPileFull_1 : decode b_M_isPileFull 1 = .ok (.getfield 32, 3) := by decide +kernel
theorem d_M_isPileFull_4 : decode b_M_isPileFull 4 = .ok (.iconst 4, 1) := by decide +kernel
theorem d_M_isPileFull_5 : decode b_M_isPileFull 5 = .ok (.if_icmp .ne (7), 3) := by decide +kernel
theorem d_M_isPileFull_8 : decode b_M_isPileFull 8 = .ok (.iconst 1, 1) := by decide +kernel
theorem d_M_isPileFull_9 : decode b_M_isPileFull 9 = .ok (.goto (4), 3) := by decide +kernel
theorem d_M_isPileFull_12 : decode b_M_isPileFull 12 = .ok (.iconst 0, 1) := by decide +kernel
theorem d_M_isPileFull_13 : decode b_M_isPileFull 13 = .ok (.ireturn, 1) := by decide +kernel
theorem d_M_save_0 : decode b_M_save 0 = .ok (.aload_n 0, 1) := by decide +kernel
theorem d_M_save_1 : decode b_M_save 1 = .ok (.getfield 9, 3) := by decide +kernel
theorem d_M_save_4 : decode b_M_save 4 = .ok (.iconst 0, 1) := by decide +kernel
theorem d_M_save_5 : decode b_M_save 5 = .ok (.aload_n 0, 1) := by decide +kernel
theorem d_M_save_6 : decode b_M_save 6 = .ok (.getfield 13, 3) := by decide +kernel
theorem d_M_save_9 : decode b_M_save 9 = .ok (.aload_n 0, 1) := by decide +kernel
theorem d_M_save_10 : decode b_M_save 10 = .ok (.getfield 32, 3) := by decide +kernel
theorem d_M_save_13 : decode b_M_save 13 = .ok (.bipush (16), 2) := by decide +kernel
theorem d_M_save_15 : decode b_M_save 15 = .ok (.imul, 1) := by decide +kernel
theorem d_M_save_16 : decode b_M_save 16 = .ok (.bipush (16), 2) := by decide +kernel
theorem d_M_save_18 : decode b_M_save 18 = .ok (.invokestatic 48, 3) := by decide +kernel
theorem d_M_save_21 : decode b_M_save 21 = .ok (.aload_n 0, 1) := by decide +kernel
theorem d_M_save_22 : decode b_M_save 22 = .ok (.dup, 1) := by decide +kernel
theorem d_M_save_23 : decode b_M_save 23 = .ok (.getfield 32, 3) := by decide +kernel
theorem d_M_save_26 : decode b_M_save 26 = .ok (.iconst 1, 1) := by decide +kernel
theorem d_M_save_27 : decode b_M_save 27 = .ok (.iadd, 1) := by decide +kernel
theorem d_M_save_28 : decode b_M_save 28 = .ok (.putfield 32, 3) := by decide +kernel
theorem d_M_save_31 : decode b_M_save 31 = .ok (.return_, 1) := by decide +kernel
theorem d_M_restore_0 : decode b_M_restore 0 = .ok (.aload_n 0, 1) := by decide +kernel
theorem d_M_restore_1 : decode b_M_restore 1 = .ok (.dup, 1) := by decide +kernel
theorem d_M_restore_2 : decode b_M_restore 2 = .ok (.getfield 32, 3) := by decide +kernel
theorem d_M_restore_5 : decode b_M_restore 5 = .ok (.iconst 1, 1) := by decide +kernel
theorem d_M_restore_6 : decode b_M_restore 6 = .ok (.isub, 1) := by decide +kernel
theorem d_M_restore_7 : decode b_M_restore 7 = .ok (.putfield 32, 3) := by decide +kernel
theorem d_M_restore_10 : decode b_M_restore 10 = .ok (.aload_n 0, 1) := by decide +kernel
theorem d_M_restore_11 : decode b_M_restore 11 = .ok (.getfield 13, 3) := by decide +kernel
theorem d_M_restore_14 : decode b_M_restore 14 = .ok (.aload_n 0, 1) := by decide +kernel
theorem d_M_restore_15 : decode b_M_restore 15 = .ok (.getfield 32, 3) := by decide +kernel
theorem d_M_restore_18 : decode b_M_restore 18 = .ok (.bipush (16), 2) := by decide +kernel
theorem d_M_restore_20 : decode b_M_restore 20 = .ok (.imul, 1) := by decide +kernel
theorem d_M_restore_21 : decode b_M_restore 21 = .ok (.aload_n 0, 1) := by decide +kernel
theorem d_M_restore_22 : decode b_M_restore 22 = .ok (.getfield 9, 3) := by decide +kernel
theorem d_M_restore_25 : decode b_M_restore 25 = .ok (.iconst 0, 1) := by decide +kernel
theorem d_M_restore_26 : decode b_M_restore 26 = .ok (.bipush (16), 2) := by decide +kernel
theorem d_M_restore_28 : decode b_M_restore 28 = .ok (.invokestatic 48, 3) := by decide +kernel
theorem d_M_restore_31 : decode b_M_restore 31 = .ok (.return_, 1) := by decide +kernel
theorem d_M_entryAt_0 : decode b_M_entryAt 0 = .ok (.aload_n 0, 1) := by decide +kernel
theorem d_M_entryAt_1 : decode b_M_entryAt 1 = .ok (.getfield 9, 3) := by decide +kernel
theorem d_M_entryAt_4 : decode b_M_entryAt 4 = .ok (.iload_n 1, 1) := by decide +kernel
theorem d_M_entryAt_5 : decode b_M_entryAt 5 = .ok (.iconst 4, 1) := by decide +kernel
theorem d_M_entryAt_6 : decode b_M_entryAt 6 = .ok (.imul, 1) := by decide +kernel
theorem d_M_entryAt_7 : decode b_M_entryAt 7 = .ok (.iload_n 2, 1) := by decide +kernel
theorem d_M_entryAt_8 : decode b_M_entryAt 8 = .ok (.iadd, 1) := by decide +kernel
theorem d_M_entryAt_9 : decode b_M_entryAt 9 = .ok (.iaload, 1) := by decide +kernel
theorem d_M_entryAt_10 : decode b_M_entryAt 10 = .ok (.ireturn, 1) := by decide +kernel
theorem d_M_rowTimes_0 : decode b_M_rowTimes 0 = .ok (.aload_n 0, 1) := by decide +kernel
theorem d_M_rowTimes_1 : decode b_M_rowTimes 1 = .ok (.iload_n 1, 1) := by decide +kernel
theorem d_M_rowTimes_2 : decode b_M_rowTimes 2 = .ok (.iconst 0, 1) := by decide +kernel
theorem d_M_rowTimes_3 : decode b_M_rowTimes 3 = .ok (.invokevirtual 36, 3) := by decide +kernel
theorem d_M_rowTimes_6 : decode b_M_rowTimes 6 = .ok (.iload_n 2, 1) := by decide +kernel
theorem d_M_rowTimes_7 : decode b_M_rowTimes 7 = .ok (.imul, 1) := by decide +kernel
theorem d_M_rowTimes_8 : decode b_M_rowTimes 8 = .ok (.aload_n 0, 1) := by decide +kernel
theorem d_M_rowTimes_9 : decode b_M_rowTimes 9 = .ok (.iload_n 1, 1) := by decide +kernel
theorem d_M_rowTimes_10 : decode b_M_rowTimes 10 = .ok (.iconst 1, 1) := by decide +kernel
theorem d_M_rowTimes_11 : decode b_M_rowTimes 11 = .ok (.invokevirtual 36, 3) := by decide +kernel
theorem d_M_rowTimes_14 : decode b_M_rowTimes 14 = .ok (.iload_n 3, 1) := by decide +kernel
theorem d_M_rowTimes_15 : decode b_M_rowTimes 15 = .ok (.imul, 1) := by decide +kernel
theorem d_M_rowTimes_16 : decode b_M_rowTimes 16 = .ok (.iadd, 1) := by decide +kernel
theorem d_M_rowTimes_17 : decode b_M_rowTimes 17 = .ok (.aload_n 0, 1) := by decide +kernel
theorem d_M_rowTimes_18 : decode b_M_rowTimes 18 = .ok (.iload_n 1, 1) := by decide +kernel
theorem d_M_rowTimes_19 : decode b_M_rowTimes 19 = .ok (.iconst 2, 1) := by decide +kernel
theorem d_M_rowTimes_20 : decode b_M_rowTimes 20 = .ok (.invokevirtual 36, 3) := by decide +kernel
theorem d_M_rowTimes_23 : decode b_M_rowTimes 23 = .ok (.iload 4, 2) := by decide +kernel
theorem d_M_rowTimes_25 : decode b_M_rowTimes 25 = .ok (.imul, 1) := by decide +kernel
theorem d_M_rowTimes_26 : decode b_M_rowTimes 26 = .ok (.iadd, 1) := by decide +kernel
theorem d_M_rowTimes_27 : decode b_M_rowTimes 27 = .ok (.aload_n 0, 1) := by decide +kernel
theorem d_M_rowTimes_28 : decode b_M_rowTimes 28 = .ok (.iload_n 1, 1) := by decide +kernel
theorem d_M_rowTimes_29 : decode b_M_rowTimes 29 = .ok (.iconst 3, 1) := by decide +kernel
theorem d_M_rowTimes_30 : decode b_M_rowTimes 30 = .ok (.invokevirtual 36, 3) := by decide +kernel
theorem d_M_rowTimes_33 : decode b_M_rowTimes 33 = .ok (.iadd, 1) := by decide +kernel
theorem d_M_rowTimes_34 : decode b_M_rowTimes 34 = .ok (.ireturn, 1) := by decide +kernel
def fn_M_isLine (μ0 : xs_M) (x0 : Int32) : Option Int32 :=
  ((fn_S_isWithin μ0 x0 (0 : Int32) (3 : Int32)).bind fun w1 => (if w1 = 0 ∨ w1 = 1 then some (w1) else none))
set_option maxHeartbeats 4000000 in
set_option maxRecDepth 100000 in
theorem ok_M_isLine (l : Launch) (D : va_G) (ad : Nat → Nat) (cs : xs_cs) (hJ : xs_J ad) {μ0 : xs_M} {x0 : Int32}  {rz : Int32} (hE : fn_M_isLine μ0 x0 = some rz) : xs_I l D ad cs y_M_isLine b_M_isLine 1 (some .boolean) 1 22 [.int (x0)] μ0 (some (.int rz)) μ0 := by
  refine xs_entry hJ (by decide) (Nat.le_of_ble_eq_true rfl) ?_
  intro p e s m below meth c ls X hr hlk G hl
  have X : xs_C p s m c b_M_isLine 1 _ "ExactScene$Matrices" := X
  have hx := X.1
  have hb := X.2.1
  have hl : lv_has ls 1 [(0, .int (x0))] := hl
  unfold fn_M_isLine at hE
  refine lv_iload_n (pc := 0) hx hb d_M_isLine_0 rfl (lv_at hl 0 rfl) ?_
  refine lv_iconst (pc := 1) (v := (0 : Int32)) hx hb d_M_isLine_1 (by decide) ?_
  refine lv_iconst (pc := 2) (v := (3 : Int32)) hx hb d_M_isLine_2 (by decide) ?_
  obtain ⟨w1, hw1, hE⟩ := xs_b hE
  refine xs_callSNr (pc := 3) (as := [.int (x0), .int ((0 : Int32)), .int ((3 : Int32))]) X (ok_S_isWithin l D ad cs hJ hw1) km_M_22 G ⟨by decide, by decide⟩ ⟨Nat.zero_le _, Nat.zero_le _⟩ rfl hl.1 rfl (Nat.le_of_ble_eq_true rfl) d_M_isLine_3 (fun H locs G => ?_)
  obtain ⟨hz2, hE⟩ := xs_n hE
  cases hE
  exact xs_zret (pc := 6) hx hb hr hlk G hz2 d_M_isLine_6
def fn_M_isEntry (μ0 : xs_M) (x0 : Int64) : Option Int32 :=
  (if (lg_cmp x0 (-511 : Int64)) < 0 then some ((0 : Int32)) else (if 0 < (lg_cmp x0 (511 : Int64)) then some ((0 : Int32)) else some ((1 : Int32))))
set_option maxHeartbeats 4000000 in
set_option maxRecDepth 100000 in
theorem ok_M_isEntry (l : Launch) (D : va_G) (ad : Nat → Nat) (cs : xs_cs) (hJ : xs_J ad) {μ0 : xs_M} {x0 : Int64}  {rz : Int32} (hE : fn_M_isEntry μ0 x0 = some rz) : xs_I l D ad cs y_M_isEntry b_M_isEntry 2 (some .boolean) 0 0 [.long (x0)] μ0 (some (.int rz)) μ0 := by
  refine xs_entry hJ (by decide) (Nat.le_of_ble_eq_true rfl) ?_
  intro p e s m below meth c ls X hr hlk G hl
  have X : xs_C p s m c b_M_isEntry 2 _ "ExactScene$Matrices" := X
  have hx := X.1
  have hb := X.2.1
  have hl : lv_has ls 2 [(0, .long (x0))] := hl
  unfold fn_M_isEntry at hE
  refine lv_lload_n (pc := 0) hx hb d_M_isEntry_0 rfl (lv_at hl 0 rfl) ?_
  refine lv_ldc2 (pc := 1) (v := (-511 : Int64)) hx hb X.2.2.2.1 (X.2.2.2.2.1 _ cl_M_28) d_M_isEntry_1 ?_
  refine W.lcmp (pc := 4) hx hb d_M_isEntry_4 ?_
  refine lv_if_lt (pc := 5) (tgt := 20) hx hb d_M_isEntry_5 (by decide) (fun hc => ?_) (fun hc => ?_)
  · have hE := xs_t hE hc
    refine lv_iconst (pc := 20) (v := (0 : Int32)) hx hb d_M_isEntry_20 (by decide) ?_
    cases hE
    exact xs_zret (pc := 21) hx hb hr hlk G (Or.inl rfl) d_M_isEntry_21
  · have hE := xs_f hE hc
    refine lv_lload_n (pc := 8) hx hb d_M_isEntry_8 rfl (lv_at hl 0 rfl) ?_
    refine lv_ldc2 (pc := 9) (v := (511 : Int64)) hx hb X.2.2.2.1 (X.2.2.2.2.1 _ cl_M_30) d_M_isEntry_9 ?_
    refine W.lcmp (pc := 12) hx hb d_M_isEntry_12 ?_
    refine lv_if_gt (pc := 13) (tgt := 20) hx hb d_M_isEntry_13 (by decide) (fun hc => ?_) (fun hc => ?_)
    · have hE := xs_t hE hc
      refine lv_iconst (pc := 20) (v := (0 : Int32)) hx hb d_M_isEntry_20 (by decide) ?_
      cases hE
      exact xs_zret (pc := 21) hx hb hr hlk G (Or.inl rfl) d_M_isEntry_21
    · have hE := xs_f hE hc
      refine lv_iconst (pc := 16) (v := (1 : Int32)) hx hb d_M_isEntry_16 (by decide) ?_
      refine lv_goto (pc := 17) (tgt := 21) hx hb d_M_isEntry_17 (by decide) ?_
      cases hE
      exact xs_zret (pc := 21) hx hb hr hlk G (Or.inr rfl) d_M_isEntry_21
def fn_M_setRow (μ0 : xs_M) (x0 : Int32) (x1 : Int32) (x2 : Int32) (x3 : Int32) (x4 : Int32) : Option xs_M :=
  (if xs_in (x0 * (4 : Int32)) 16 = true then ((some (xs_si μ0 2 (x0 * (4 : Int32)).toNatClampNeg (x1))).bind fun μ2 => (if xs_in ((x0 * (4 : Int32)) + (1 : Int32)) 16 = true then ((some (xs_si μ2 2 ((x0 * (4 : Int32)) + (1 : Int32)).toNatClampNeg (x2))).bind fun μ4 => (if xs_in ((x0 * (4 : Int32)) + (2 : Int32)) 16 = true then ((some (xs_si μ4 2 ((x0 * (4 : Int32)) + (2 : Int32)).toNatClampNeg (x3))).bind fun μ6 => (if xs_in ((x0 * (4 : Int32)) + (3 : Int32)) 16 = true then ((some (xs_si μ6 2 ((x0 * (4 : Int32)) + (3 : Int32)).toNatClampNeg (x4))).bind fun μ8 => some (μ8)) else none)) else none)) else none)) else none)
set_option maxHeartbeats 4000000 in
set_option maxRecDepth 100000 in
theorem ok_M_setRow (l : Launch) (D : va_G) (ad : Nat → Nat) (cs : xs_cs) (hJ : xs_J ad) {μ0 : xs_M} {x0 : Int32} {x1 : Int32} {x2 : Int32} {x3 : Int32} {x4 : Int32}  {rz : xs_M} (hE : fn_M_setRow μ0 x0 x1 x2 x3 x4 = some rz) : xs_I l D ad cs y_M_setRow b_M_setRow 6 none 0 0 [.ref (ad 1), .int (x0), .int (x1), .int (x2), .int (x3), .int (x4)] μ0 none rz := by
  refine xs_entry hJ (by decide) (Nat.le_of_ble_eq_true rfl) ?_
  intro p e s m below meth c ls X hr hlk G hl
  have X : xs_C p s m c b_M_setRow 6 _ "ExactScene$Matrices" := X
  have hx := X.1
  have hb := X.2.1
  have hl : lv_has ls 6 [(0, .ref (ad 1)), (1, .int (x0)), (2, .int (x1)), (3, .int (x2)), (4, .int (x3)), (5, .int (x4))] := hl
  unfold fn_M_setRow at hE
  refine lv_aload_n (pc := 0) hx hb d_M_setRow_0 rfl (lv_at hl 0 rfl) ?_
  refine gf_M_9 (pc := 1) X G d_M_setRow_1 ?_
  refine lv_iload_n (pc := 4) hx hb d_M_setRow_4 rfl (lv_at hl 1 rfl) ?_
  refine lv_iconst (pc := 5) (v := (4 : Int32)) hx hb d_M_setRow_5 (by decide) ?_
  refine lv_imul (pc := 6) hx hb d_M_setRow_6 ?_
  refine lv_iload_n (pc := 7) hx hb d_M_setRow_7 rfl (lv_at hl 2 rfl) ?_
  obtain ⟨hi1, hE⟩ := xs_n hE
  refine xs_iast (pc := 8) hx hb G ia_2 (xs_inP hi1) d_M_setRow_8 (fun H locs G => ?_)
  obtain ⟨μ2, hμ2, hE⟩ := xs_b hE
  have G := xs_mv G hμ2
  clear hμ2
  refine lv_aload_n (pc := 9) hx hb d_M_setRow_9 rfl (lv_at hl 0 rfl) ?_
  refine gf_M_9 (pc := 10) X G d_M_setRow_10 ?_
  refine lv_iload_n (pc := 13) hx hb d_M_setRow_13 rfl (lv_at hl 1 rfl) ?_
  refine lv_iconst (pc := 14) (v := (4 : Int32)) hx hb d_M_setRow_14 (by decide) ?_
  refine lv_imul (pc := 15) hx hb d_M_setRow_15 ?_
  refine lv_iconst (pc := 16) (v := (1 : Int32)) hx hb d_M_setRow_16 (by decide) ?_
  refine lv_iadd (pc := 17) hx hb d_M_setRow_17 ?_
  refine lv_iload_n (pc := 18) hx hb d_M_setRow_18 rfl (lv_at hl 3 rfl) ?_
  obtain ⟨hi3, hE⟩ := xs_n hE
  refine xs_iast (pc := 19) hx hb G ia_2 (xs_inP hi3) d_M_setRow_19 (fun H locs G => ?_)
  obtain ⟨μ4, hμ4, hE⟩ := xs_b hE
  have G := xs_mv G hμ4
  clear hμ4
  refine lv_aload_n (pc := 20) hx hb d_M_setRow_20 rfl (lv_at hl 0 rfl) ?_
  refine gf_M_9 (pc := 21) X G d_M_setRow_21 ?_
  refine lv_iload_n (pc := 24) hx hb d_M_setRow_24 rfl (lv_at hl 1 rfl) ?_
  refine lv_iconst (pc := 25) (v := (4 : Int32)) hx hb d_M_setRow_25 (by decide) ?_
  refine lv_imul (pc := 26) hx hb d_M_setRow_26 ?_
  refine lv_iconst (pc := 27) (v := (2 : Int32)) hx hb d_M_setRow_27 (by decide) ?_
  refine lv_iadd (pc := 28) hx hb d_M_setRow_28 ?_
  refine lv_iload (pc := 29) hx hb d_M_setRow_29 (lv_at hl 4 rfl) ?_
  obtain ⟨hi5, hE⟩ := xs_n hE
  refine xs_iast (pc := 31) hx hb G ia_2 (xs_inP hi5) d_M_setRow_31 (fun H locs G => ?_)
  obtain ⟨μ6, hμ6, hE⟩ := xs_b hE
  have G := xs_mv G hμ6
  clear hμ6
  refine lv_aload_n (pc := 32) hx hb d_M_setRow_32 rfl (lv_at hl 0 rfl) ?_
  refine gf_M_9 (pc := 33) X G d_M_setRow_33 ?_
  refine lv_iload_n (pc := 36) hx hb d_M_setRow_36 rfl (lv_at hl 1 rfl) ?_
  refine lv_iconst (pc := 37) (v := (4 : Int32)) hx hb d_M_setRow_37 (by decide) ?_
  refine lv_imul (pc := 38) hx hb d_M_setRow_38 ?_
  refine lv_iconst (pc := 39) (v := (3 : Int32)) hx hb d_M_setRow_39 (by decide) ?_
  refine lv_iadd (pc := 40) hx hb d_M_setRow_40 ?_
  refine lv_iload (pc := 41) hx hb d_M_setRow_41 (lv_at hl 5 rfl) ?_
  obtain ⟨hi7, hE⟩ := xs_n hE
  refine xs_iast (pc := 43) hx hb G ia_2 (xs_inP hi7) d_M_setRow_43 (fun H locs G => ?_)
  obtain ⟨μ8, hμ8, hE⟩ := xs_b hE
  have G := xs_mv G hμ8
  clear hμ8
  cases hE
  exact xs_vret (pc := 44) hx hb hr hlk G d_M_setRow_44
def fn_M_setDiagonalFactor_L3 : Nat → xs_M → Int32 → Int32 → Int32 → Int32 →  Option (Int32 × xs_M)
  | 0, _, _, _, _, _ => none
  | fu + 1, μ, v1, v2, v3, v4 => (if (16 : Int32) ≤ v4 then some ((v4, μ)) else (if xs_in v4 16 = true then ((some (xs_si μ 4 v4.toNatClampNeg (0 : Int32))).bind fun μ2 => fn_M_setDiagonalFactor_L3 fu μ2 v1 v2 v3 (v4 + 1)) else none))
def fn_M_setDiagonalFactor (μ0 : xs_M) (x0 : Int32) (x1 : Int32) (x2 : Int32) : Option xs_M :=
  ((fn_M_setDiagonalFactor_L3 xs_FU μ0 x0 x1 x2 (0 : Int32)).bind fun z3 => ((some (xs_si z3.2 4 (0 : Int32).toNatClampNeg (x0))).bind fun μ4 => ((some (xs_si μ4 4 (5 : Int32).toNatClampNeg (x1))).bind fun μ5 => ((some (xs_si μ5 4 (10 : Int32).toNatClampNeg (x2))).bind fun μ6 => ((some (xs_si μ6 4 (15 : Int32).toNatClampNeg (1 : Int32))).bind fun μ7 => some (μ7))))))
set_option maxHeartbeats 4000000 in
set_option maxRecDepth 100000 in
theorem ok_M_setDiagonalFactor (l : Launch) (D : va_G) (ad : Nat → Nat) (cs : xs_cs) (hJ : xs_J ad) {μ0 : xs_M} {x0 : Int32} {x1 : Int32} {x2 : Int32}  {rz : xs_M} (hE : fn_M_setDiagonalFactor μ0 x0 x1 x2 = some rz) : xs_I l D ad cs y_M_setDiagonalFactor b_M_setDiagonalFactor 5 none 0 0 [.ref (ad 1), .int (x0), .int (x1), .int (x2)] μ0 none rz := by
  refine xs_entry hJ (by decide) (Nat.le_of_ble_eq_true rfl) ?_
  intro p e s m below meth c ls X hr hlk G hl
  have X : xs_C p s m c b_M_setDiagonalFactor 5 _ "ExactScene$Matrices" := X
  have hx := X.1
  have hb := X.2.1
  have hl : lv_has ls 5 [(0, .ref (ad 1)), (1, .int (x0)), (2, .int (x1)), (3, .int (x2))] := hl
  have L3 : ∀ (fu : Nat) (μ : xs_M) (v1 : Int32) (v2 : Int32) (v3 : Int32) (v4 : Int32) (H : Heap) (locs : List Loc) (ls : Array Slot) (z : (Int32 × xs_M)), fn_M_setDiagonalFactor_L3 fu μ v1 v2 v3 v4 = some z → xs_G D ad cs s (xs_A ad s.heap.size) s.heap μ H locs → lv_has ls 5 [(0, .ref (ad 1)), (1, .int (v1)), (2, .int (v2)), (3, .int (v3)), (4, .int (v4))] → (∀ (H : Heap) (locs : List Loc) (ls : Array Slot), xs_G D ad cs s (xs_A ad s.heap.size) s.heap z.2 H locs → lv_has ls 5 [(0, .ref (ad 1)), (1, .int (v1)), (2, .int (v2)), (3, .int (v3)), (4, .int (z.1))] → W p l e (xs_rm 0 0) s m ([.ref (ad 1), .int (x0), .int (x1), .int (x2)] : List Value).toArray below meth c H locs 0 0 (xs_E below D ad cs [.ref (ad 1), .int (x0), .int (x1), .int (x2)] s none rz) (F0 m 24 ls [])) → W p l e (xs_rm 0 0) s m ([.ref (ad 1), .int (x0), .int (x1), .int (x2)] : List Value).toArray below meth c H locs 0 0 (xs_E below D ad cs [.ref (ad 1), .int (x0), .int (x1), .int (x2)] s none rz) (F0 m 3 ls []) := by
    clear hE hl G
    intro fu
    induction fu with
    | zero =>
      intro μ v1 v2 v3 v4 H locs ls z hE
      rw [fn_M_setDiagonalFactor_L3] at hE
      cases hE
    | succ fu ih =>
      intro μ v1 v2 v3 v4 H locs ls z hE G hl kk
      rw [fn_M_setDiagonalFactor_L3] at hE
      refine lv_iload (pc := 3) hx hb d_M_setDiagonalFactor_3 (lv_at hl 4 rfl) ?_
      refine lv_bipush (pc := 5) (v := (16 : Int32)) hx hb d_M_setDiagonalFactor_5 (by decide) ?_
      refine lv_icmp_ge (pc := 7) (tgt := 24) hx hb d_M_setDiagonalFactor_7 (by decide) (fun hc => ?_) (fun hc => ?_)
      · have hE := xs_t hE hc
        cases hE
        exact kk _ _ _ G (lv_sub hl [0, 1, 2, 3, 4] rfl)
      · have hE := xs_f hE hc
        refine lv_aload_n (pc := 10) hx hb d_M_setDiagonalFactor_10 rfl (lv_at hl 0 rfl) ?_
        refine gf_M_16 (pc := 11) X G d_M_setDiagonalFactor_11 ?_
        refine lv_iload (pc := 14) hx hb d_M_setDiagonalFactor_14 (lv_at hl 4 rfl) ?_
        refine lv_iconst (pc := 16) (v := (0 : Int32)) hx hb d_M_setDiagonalFactor_16 (by decide) ?_
        obtain ⟨hi1, hE⟩ := xs_n hE
        refine xs_iast (pc := 17) hx hb G ia_4 (xs_inP hi1) d_M_setDiagonalFactor_17 (fun H locs G => ?_)
        obtain ⟨μ2, hμ2, hE⟩ := xs_b hE
        have G := xs_mv G hμ2
        clear hμ2
        refine lv_iinc (pc := 18) (v := (v4 + 1)) (k := 4) hx hb d_M_setDiagonalFactor_18 hl rfl (xs_inc _) (by decide) (lv' := [(4, .int ((v4 + 1))), (0, .ref (ad 1)), (1, .int (v1)), (2, .int (v2)), (3, .int (v3))]) rfl (fun ls hl => ?_)
        refine lv_goto (pc := 21) (tgt := 3) hx hb d_M_setDiagonalFactor_21 (by decide) ?_
        exact ih _ _ _ _ _ _ _ _ _ hE G (lv_sub hl [1, 2, 3, 4, 0] rfl) kk
  unfold fn_M_setDiagonalFactor at hE
  refine lv_iconst (pc := 0) (v := (0 : Int32)) hx hb d_M_setDiagonalFactor_0 (by decide) ?_
  refine lv_istore (pc := 1) hx hb d_M_setDiagonalFactor_1 hl (by decide) (lv' := [(4, .int ((0 : Int32))), (0, .ref (ad 1)), (1, .int (x0)), (2, .int (x1)), (3, .int (x2))]) rfl (fun ls hl => ?_)
  obtain ⟨z3, hz3, hE⟩ := xs_b hE
  refine L3 _ _ _ _ _ _ _ _ _ _ hz3 G (lv_sub hl [1, 2, 3, 4, 0] rfl) (fun H locs ls G hl => ?_)
  refine lv_aload_n (pc := 24) hx hb d_M_setDiagonalFactor_24 rfl (lv_at hl 0 rfl) ?_
  refine gf_M_16 (pc := 25) X G d_M_setDiagonalFactor_25 ?_
  refine lv_iconst (pc := 28) (v := (0 : Int32)) hx hb d_M_setDiagonalFactor_28 (by decide) ?_
  refine lv_iload_n (pc := 29) hx hb d_M_setDiagonalFactor_29 rfl (lv_at hl 1 rfl) ?_
  refine xs_iast (pc := 30) hx hb G ia_4 (xs_inP (by decide)) d_M_setDiagonalFactor_30 (fun H locs G => ?_)
  obtain ⟨μ4, hμ4, hE⟩ := xs_b hE
  have G := xs_mv G hμ4
  clear hμ4
  refine lv_aload_n (pc := 31) hx hb d_M_setDiagonalFactor_31 rfl (lv_at hl 0 rfl) ?_
  refine gf_M_16 (pc := 32) X G d_M_setDiagonalFactor_32 ?_
  refine lv_iconst (pc := 35) (v := (5 : Int32)) hx hb d_M_setDiagonalFactor_35 (by decide) ?_
  refine lv_iload_n (pc := 36) hx hb d_M_setDiagonalFactor_36 rfl (lv_at hl 2 rfl) ?_
  refine xs_iast (pc := 37) hx hb G ia_4 (xs_inP (by decide)) d_M_setDiagonalFactor_37 (fun H locs G => ?_)
  obtain ⟨μ5, hμ5, hE⟩ := xs_b hE
  have G := xs_mv G hμ5
  clear hμ5
  refine lv_aload_n (pc := 38) hx hb d_M_setDiagonalFactor_38 rfl (lv_at hl 0 rfl) ?_
  refine gf_M_16 (pc := 39) X G d_M_setDiagonalFactor_39 ?_
  refine lv_bipush (pc := 42) (v := (10 : Int32)) hx hb d_M_setDiagonalFactor_42 (by decide) ?_
  refine lv_iload_n (pc := 44) hx hb d_M_setDiagonalFactor_44 rfl (lv_at hl 3 rfl) ?_
  refine xs_iast (pc := 45) hx hb G ia_4 (xs_inP (by decide)) d_M_setDiagonalFactor_45 (fun H locs G => ?_)
  obtain ⟨μ6, hμ6, hE⟩ := xs_b hE
  have G := xs_mv G hμ6
  clear hμ6
  refine lv_aload_n (pc := 46) hx hb d_M_setDiagonalFactor_46 rfl (lv_at hl 0 rfl) ?_
  refine gf_M_16 (pc := 47) X G d_M_setDiagonalFactor_47 ?_
  refine lv_bipush (pc := 50) (v := (15 : Int32)) hx hb d_M_setDiagonalFactor_50 (by decide) ?_
  refine lv_iconst (pc := 52) (v := (1 : Int32)) hx hb d_M_setDiagonalFactor_52 (by decide) ?_
  refine xs_iast (pc := 53) hx hb G ia_4 (xs_inP (by decide)) d_M_setDiagonalFactor_53 (fun H locs G => ?_)
  obtain ⟨μ7, hμ7, hE⟩ := xs_b hE
  have G := xs_mv G hμ7
  clear hμ7
  cases hE
  exact xs_vret (pc := 54) hx hb hr hlk G d_M_setDiagonalFactor_54
def fn_M_multiply_L24 : Nat → xs_M → Nat → Nat → Nat → Int32 → Int32 → Int32 → Int64 → Int32 →  Option (Int64 × Int32)
  | 0, _, _, _, _, _, _, _, _, _ => none
  | fu + 1, μ, q0, n0, q2, v2, v4, v5, v6, v8 => (if (4 : Int32) ≤ v8 then some ((v6, v8)) else (if xs_in ((v2 + (v4 * (4 : Int32))) + v8) n0 = true then (if xs_in ((v8 * (4 : Int32)) + v5) 16 = true then ((some (v6 + (((μ.1 q0 ((v2 + (v4 * (4 : Int32))) + v8).toNatClampNeg)).toInt64 * ((μ.1 q2 ((v8 * (4 : Int32)) + v5).toNatClampNeg)).toInt64))).bind fun a3 => fn_M_multiply_L24 fu μ q0 n0 q2 v2 v4 v5 a3 (v8 + 1)) else none) else none))
def fn_M_multiply_L12 : Nat → xs_M → Nat → Nat → Nat → Int32 → Int32 → Int32 →  Option ((Int32 × xs_M) ⊕ (Int32 × xs_M))
  | 0, _, _, _, _, _, _, _ => none
  | fu + 1, μ, q0, n0, q2, v2, v4, v5 => (if (4 : Int32) ≤ v5 then some (.inl (v5, μ)) else ((fn_M_multiply_L24 xs_FU μ q0 n0 q2 v2 v4 v5 (0 : Int64) (0 : Int32)).bind fun z4 => ((fn_M_isEntry μ z4.1).bind fun w5 => (if w5 = 0 then some (.inr (((0 : Int32), μ))) else (if xs_in ((v4 * (4 : Int32)) + v5) 16 = true then ((some (xs_si μ 5 ((v4 * (4 : Int32)) + v5).toNatClampNeg (z4.1).toInt32)).bind fun μ7 => fn_M_multiply_L12 fu μ7 q0 n0 q2 v2 v4 (v5 + 1)) else none)))))
def fn_M_multiply_L3 : Nat → xs_M → Nat → Nat → Nat → Int32 → Int32 →  Option ((Int32 × xs_M) ⊕ (Int32 × xs_M))
  | 0, _, _, _, _, _, _ => none
  | fu + 1, μ, q0, n0, q2, v2, v4 => (if (4 : Int32) ≤ v4 then some (.inl (v4, μ)) else ((fn_M_multiply_L12 xs_FU μ q0 n0 q2 v2 v4 (0 : Int32)).bind fun z8 => Sum.elim (fun ez8 => fn_M_multiply_L3 fu ez8.2 q0 n0 q2 v2 (v4 + 1)) (fun er => some (.inr er)) z8))
def fn_M_multiply (μ0 : xs_M) (q0 : Nat) (n0 : Nat) (x1 : Int32) (q2 : Nat) : Option (Int32 × xs_M) :=
  ((fn_M_multiply_L3 xs_FU μ0 q0 n0 q2 x1 (0 : Int32)).bind fun z9 => Sum.elim (fun ez9 => (if ¬ (0 : Int32) < 0 ∧ ¬ (0 : Int32) < 0 ∧ ¬ (16 : Int32) < 0 ∧ (0 : Int32).toNatClampNeg + (16 : Int32).toNatClampNeg ≤ 16 ∧ (0 : Int32).toNatClampNeg + (16 : Int32).toNatClampNeg ≤ 16 then ((some (xs_sa ez9.2 2 (va_cpy (ez9.2.1 5) (ez9.2.1 2) (0 : Int32).toNatClampNeg (0 : Int32).toNatClampNeg (16 : Int32).toNatClampNeg))).bind fun μ11 => some (((1 : Int32), μ11))) else none)) (fun er => some er) z9)
set_option maxHeartbeats 4000000 in
set_option maxRecDepth 100000 in
theorem ok_M_multiply (l : Launch) (D : va_G) (ad : Nat → Nat) (cs : xs_cs) (hJ : xs_J ad) {μ0 : xs_M} {q0 : Nat} {n0 : Nat} {x1 : Int32} {q2 : Nat} (hq0 : xs_IA ad cs q0 n0) (hq2 : xs_IA ad cs q2 16) {rz : (Int32 × xs_M)} (hE : fn_M_multiply μ0 q0 n0 x1 q2 = some rz) : xs_I l D ad cs y_M_multiply b_M_multiply 9 (some .boolean) 1 26 [.ref (ad 1), .ref (ad q0), .int (x1), .ref (ad q2)] μ0 (some (.int rz.1)) rz.2 := by
  refine xs_entry hJ (by decide) (Nat.le_of_ble_eq_true rfl) ?_
  intro p e s m below meth c ls X hr hlk G hl
  have X : xs_C p s m c b_M_multiply 9 _ "ExactScene$Matrices" := X
  have hx := X.1
  have hb := X.2.1
  have hl : lv_has ls 9 [(0, .ref (ad 1)), (1, .ref (ad q0)), (2, .int (x1)), (3, .ref (ad q2))] := hl
  have L24 : ∀ (fu : Nat) (μ : xs_M) (v2 : Int32) (v4 : Int32) (v5 : Int32) (v6 : Int64) (v8 : Int32) (H : Heap) (locs : List Loc) (ls : Array Slot) (z : (Int64 × Int32)), fn_M_multiply_L24 fu μ q0 n0 q2 v2 v4 v5 v6 v8 = some z → xs_G D ad cs s (xs_A ad s.heap.size) s.heap μ H locs → lv_has ls 9 [(0, .ref (ad 1)), (1, .ref (ad q0)), (2, .int (v2)), (3, .ref (ad q2)), (4, .int (v4)), (5, .int (v5)), (6, .long (v6)), (8, .int (v8))] → (∀ (H : Heap) (locs : List Loc) (ls : Array Slot), xs_G D ad cs s (xs_A ad s.heap.size) s.heap μ H locs → lv_has ls 9 [(0, .ref (ad 1)), (1, .ref (ad q0)), (2, .int (v2)), (3, .ref (ad q2)), (4, .int (v4)), (5, .int (v5)), (6, .long (z.1)), (8, .int (z.2))] → W p l e (xs_rm 1 26) s m ([.ref (ad 1), .ref (ad q0), .int (x1), .ref (ad q2)] : List Value).toArray below meth c H locs 0 0 (xs_E below D ad cs [.ref (ad 1), .ref (ad q0), .int (x1), .ref (ad q2)] s (some (.int rz.1)) rz.2) (F0 m 64 ls [])) → W p l e (xs_rm 1 26) s m ([.ref (ad 1), .ref (ad q0), .int (x1), .ref (ad q2)] : List Value).toArray below meth c H locs 0 0 (xs_E below D ad cs [.ref (ad 1), .ref (ad q0), .int (x1), .ref (ad q2)] s (some (.int rz.1)) rz.2) (F0 m 24 ls []) := by
    clear hE hl G
    intro fu
    induction fu with
    | zero =>
      intro μ v2 v4 v5 v6 v8 H locs ls z hE
      rw [fn_M_multiply_L24] at hE
      cases hE
    | succ fu ih =>
      intro μ v2 v4 v5 v6 v8 H locs ls z hE G hl kk
      rw [fn_M_multiply_L24] at hE
      refine lv_iload (pc := 24) hx hb d_M_multiply_24 (lv_at hl 7 rfl) ?_
      refine lv_iconst (pc := 26) (v := (4 : Int32)) hx hb d_M_multiply_26 (by decide) ?_
      refine lv_icmp_ge (pc := 27) (tgt := 64) hx hb d_M_multiply_27 (by decide) (fun hc => ?_) (fun hc => ?_)
      · have hE := xs_t hE hc
        cases hE
        exact kk _ _ _ G (lv_sub hl [0, 1, 2, 3, 4, 5, 6, 7] rfl)
      · have hE := xs_f hE hc
        refine lv_lload (pc := 30) hx hb d_M_multiply_30 (lv_at hl 6 rfl) ?_
        refine lv_aload_n (pc := 32) hx hb d_M_multiply_32 rfl (lv_at hl 1 rfl) ?_
        refine lv_iload_n (pc := 33) hx hb d_M_multiply_33 rfl (lv_at hl 2 rfl) ?_
        refine lv_iload (pc := 34) hx hb d_M_multiply_34 (lv_at hl 4 rfl) ?_
        refine lv_iconst (pc := 36) (v := (4 : Int32)) hx hb d_M_multiply_36 (by decide) ?_
        refine lv_imul (pc := 37) hx hb d_M_multiply_37 ?_
        refine lv_iadd (pc := 38) hx hb d_M_multiply_38 ?_
        refine lv_iload (pc := 39) hx hb d_M_multiply_39 (lv_at hl 7 rfl) ?_
        refine lv_iadd (pc := 41) hx hb d_M_multiply_41 ?_
        obtain ⟨hi1, hE⟩ := xs_n hE
        refine xs_iald (pc := 42) hx hb G hq0 (xs_inP hi1) d_M_multiply_42 ?_
        refine lv_i2l (pc := 43) hx hb d_M_multiply_43 rfl ?_
        refine lv_aload_n (pc := 44) hx hb d_M_multiply_44 rfl (lv_at hl 3 rfl) ?_
        refine lv_iload (pc := 45) hx hb d_M_multiply_45 (lv_at hl 7 rfl) ?_
        refine lv_iconst (pc := 47) (v := (4 : Int32)) hx hb d_M_multiply_47 (by decide) ?_
        refine lv_imul (pc := 48) hx hb d_M_multiply_48 ?_
        refine lv_iload (pc := 49) hx hb d_M_multiply_49 (lv_at hl 5 rfl) ?_
        refine lv_iadd (pc := 51) hx hb d_M_multiply_51 ?_
        obtain ⟨hi2, hE⟩ := xs_n hE
        refine xs_iald (pc := 52) hx hb G hq2 (xs_inP hi2) d_M_multiply_52 ?_
        refine lv_i2l (pc := 53) hx hb d_M_multiply_53 rfl ?_
        refine lv_lmul (pc := 54) hx hb d_M_multiply_54 ?_
        refine lv_ladd (pc := 55) hx hb d_M_multiply_55 ?_
        obtain ⟨a3, ha3, hE⟩ := xs_b hE
        refine xs_tl ha3 ?_
        clear ha3
        refine lv_lstore (pc := 56) hx hb d_M_multiply_56 hl (by decide) (lv' := [(6, .long (a3)), (0, .ref (ad 1)), (1, .ref (ad q0)), (2, .int (v2)), (3, .ref (ad q2)), (4, .int (v4)), (5, .int (v5)), (8, .int (v8))]) rfl (fun ls hl => ?_)
        refine lv_iinc (pc := 58) (v := (v8 + 1)) (k := 7) hx hb d_M_multiply_58 hl rfl (xs_inc _) (by decide) (lv' := [(8, .int ((v8 + 1))), (6, .long (a3)), (0, .ref (ad 1)), (1, .ref (ad q0)), (2, .int (v2)), (3, .ref (ad q2)), (4, .int (v4)), (5, .int (v5))]) rfl (fun ls hl => ?_)
        refine lv_goto (pc := 61) (tgt := 24) hx hb d_M_multiply_61 (by decide) ?_
        exact ih _ _ _ _ _ _ _ _ _ _ hE G (lv_sub hl [2, 3, 4, 5, 6, 7, 1, 0] rfl) kk
  have L12 : ∀ (fu : Nat) (μ : xs_M) (v2 : Int32) (v4 : Int32) (v5 : Int32) (H : Heap) (locs : List Loc) (ls : Array Slot) (z : ((Int32 × xs_M) ⊕ (Int32 × xs_M))), fn_M_multiply_L12 fu μ q0 n0 q2 v2 v4 v5 = some z → xs_G D ad cs s (xs_A ad s.heap.size) s.heap μ H locs → lv_has ls 9 [(0, .ref (ad 1)), (1, .ref (ad q0)), (2, .int (v2)), (3, .ref (ad q2)), (4, .int (v4)), (5, .int (v5))] → (∀ er, z = .inr er → er = rz) → (∀ ez, z = .inl ez → ∀ (H : Heap) (locs : List Loc) (ls : Array Slot), xs_G D ad cs s (xs_A ad s.heap.size) s.heap ez.2 H locs → lv_has ls 9 [(0, .ref (ad 1)), (1, .ref (ad q0)), (2, .int (v2)), (3, .ref (ad q2)), (4, .int (v4)), (5, .int (ez.1))] → W p l e (xs_rm 1 26) s m ([.ref (ad 1), .ref (ad q0), .int (x1), .ref (ad q2)] : List Value).toArray below meth c H locs 0 0 (xs_E below D ad cs [.ref (ad 1), .ref (ad q0), .int (x1), .ref (ad q2)] s (some (.int rz.1)) rz.2) (F0 m 95 ls [])) → W p l e (xs_rm 1 26) s m ([.ref (ad 1), .ref (ad q0), .int (x1), .ref (ad q2)] : List Value).toArray below meth c H locs 0 0 (xs_E below D ad cs [.ref (ad 1), .ref (ad q0), .int (x1), .ref (ad q2)] s (some (.int rz.1)) rz.2) (F0 m 12 ls []) := by
    clear hE hl G
    intro fu
    induction fu with
    | zero =>
      intro μ v2 v4 v5 H locs ls z hE
      rw [fn_M_multiply_L12] at hE
      cases hE
    | succ fu ih =>
      intro μ v2 v4 v5 H locs ls z hE G hl kr kk
      rw [fn_M_multiply_L12] at hE
      refine lv_iload (pc := 12) hx hb d_M_multiply_12 (lv_at hl 5 rfl) ?_
      refine lv_iconst (pc := 14) (v := (4 : Int32)) hx hb d_M_multiply_14 (by decide) ?_
      refine lv_icmp_ge (pc := 15) (tgt := 95) hx hb d_M_multiply_15 (by decide) (fun hc => ?_) (fun hc => ?_)
      · have hE := xs_t hE hc
        exact kk _ (Option.some.inj hE).symm _ _ _ G (lv_sub hl [0, 1, 2, 3, 4, 5] rfl)
      · have hE := xs_f hE hc
        refine lv_lconst (pc := 18) (v := (0 : Int64)) hx hb d_M_multiply_18 (by decide) ?_
        refine lv_lstore (pc := 19) hx hb d_M_multiply_19 hl (by decide) (lv' := [(6, .long ((0 : Int64))), (0, .ref (ad 1)), (1, .ref (ad q0)), (2, .int (v2)), (3, .ref (ad q2)), (4, .int (v4)), (5, .int (v5))]) rfl (fun ls hl => ?_)
        refine lv_iconst (pc := 21) (v := (0 : Int32)) hx hb d_M_multiply_21 (by decide) ?_
        refine lv_istore (pc := 22) hx hb d_M_multiply_22 hl (by decide) (lv' := [(8, .int ((0 : Int32))), (6, .long ((0 : Int64))), (0, .ref (ad 1)), (1, .ref (ad q0)), (2, .int (v2)), (3, .ref (ad q2)), (4, .int (v4)), (5, .int (v5))]) rfl (fun ls hl => ?_)
        obtain ⟨z4, hz4, hE⟩ := xs_b hE
        refine L24 _ _ _ _ _ _ _ _ _ _ _ hz4 G (lv_sub hl [2, 3, 4, 5, 6, 7, 1, 0] rfl) (fun H locs ls G hl => ?_)
        refine lv_lload (pc := 64) hx hb d_M_multiply_64 (lv_at hl 6 rfl) ?_
        obtain ⟨w5, hw5, hE⟩ := xs_b hE
        refine xs_callSr (pc := 66) (as := [.long (z4.1)]) X (ok_M_isEntry l D ad cs hJ hw5) km_M_54 G ⟨by decide, by decide⟩ ⟨Nat.zero_le _, Nat.zero_le _⟩ rfl hl.1 rfl (Nat.le_of_ble_eq_true rfl) d_M_multiply_66 (fun H locs G => ?_)
        refine lv_if_ne (pc := 69) (tgt := 74) hx hb d_M_multiply_69 (by decide) (fun hc => ?_) (fun hc => ?_)
        · have hE := xs_f hE hc
          refine lv_aload_n (pc := 74) hx hb d_M_multiply_74 rfl (lv_at hl 0 rfl) ?_
          refine gf_M_19 (pc := 75) X G d_M_multiply_75 ?_
          refine lv_iload (pc := 78) hx hb d_M_multiply_78 (lv_at hl 4 rfl) ?_
          refine lv_iconst (pc := 80) (v := (4 : Int32)) hx hb d_M_multiply_80 (by decide) ?_
          refine lv_imul (pc := 81) hx hb d_M_multiply_81 ?_
          refine lv_iload (pc := 82) hx hb d_M_multiply_82 (lv_at hl 5 rfl) ?_
          refine lv_iadd (pc := 84) hx hb d_M_multiply_84 ?_
          refine lv_lload (pc := 85) hx hb d_M_multiply_85 (lv_at hl 6 rfl) ?_
          refine lv_l2i (pc := 87) hx hb d_M_multiply_87 rfl ?_
          obtain ⟨hi6, hE⟩ := xs_n hE
          refine xs_iast (pc := 88) hx hb G ia_5 (xs_inP hi6) d_M_multiply_88 (fun H locs G => ?_)
          obtain ⟨μ7, hμ7, hE⟩ := xs_b hE
          have G := xs_mv G hμ7
          clear hμ7
          refine lv_iinc (pc := 89) (v := (v5 + 1)) (k := 5) hx hb d_M_multiply_89 hl rfl (xs_inc _) (by decide) (lv' := [(5, .int ((v5 + 1))), (0, .ref (ad 1)), (1, .ref (ad q0)), (2, .int (v2)), (3, .ref (ad q2)), (4, .int (v4)), (6, .long (z4.1)), (8, .int (z4.2))]) rfl (fun ls hl => ?_)
          refine lv_goto (pc := 92) (tgt := 12) hx hb d_M_multiply_92 (by decide) ?_
          exact ih _ _ _ _ _ _ _ _ hE G (lv_sub hl [1, 2, 3, 4, 5, 0] rfl) kr kk
        · have hE := xs_t hE hc
          refine lv_iconst (pc := 72) (v := (0 : Int32)) hx hb d_M_multiply_72 (by decide) ?_
          have er := kr _ (Option.some.inj hE).symm
          rw [← er]
          exact xs_zret (pc := 73) hx hb hr hlk G (Or.inl rfl) d_M_multiply_73
  have L3 : ∀ (fu : Nat) (μ : xs_M) (v2 : Int32) (v4 : Int32) (H : Heap) (locs : List Loc) (ls : Array Slot) (z : ((Int32 × xs_M) ⊕ (Int32 × xs_M))), fn_M_multiply_L3 fu μ q0 n0 q2 v2 v4 = some z → xs_G D ad cs s (xs_A ad s.heap.size) s.heap μ H locs → lv_has ls 9 [(0, .ref (ad 1)), (1, .ref (ad q0)), (2, .int (v2)), (3, .ref (ad q2)), (4, .int (v4))] → (∀ er, z = .inr er → er = rz) → (∀ ez, z = .inl ez → ∀ (H : Heap) (locs : List Loc) (ls : Array Slot), xs_G D ad cs s (xs_A ad s.heap.size) s.heap ez.2 H locs → lv_has ls 9 [(0, .ref (ad 1)), (1, .ref (ad q0)), (2, .int (v2)), (3, .ref (ad q2)), (4, .int (ez.1))] → W p l e (xs_rm 1 26) s m ([.ref (ad 1), .ref (ad q0), .int (x1), .ref (ad q2)] : List Value).toArray below meth c H locs 0 0 (xs_E below D ad cs [.ref (ad 1), .ref (ad q0), .int (x1), .ref (ad q2)] s (some (.int rz.1)) rz.2) (F0 m 101 ls [])) → W p l e (xs_rm 1 26) s m ([.ref (ad 1), .ref (ad q0), .int (x1), .ref (ad q2)] : List Value).toArray below meth c H locs 0 0 (xs_E below D ad cs [.ref (ad 1), .ref (ad q0), .int (x1), .ref (ad q2)] s (some (.int rz.1)) rz.2) (F0 m 3 ls []) := by
    clear hE hl G
    intro fu
    induction fu with
    | zero =>
      intro μ v2 v4 H locs ls z hE
      rw [fn_M_multiply_L3] at hE
      cases hE
    | succ fu ih =>
      intro μ v2 v4 H locs ls z hE G hl kr kk
      rw [fn_M_multiply_L3] at hE
      refine lv_iload (pc := 3) hx hb d_M_multiply_3 (lv_at hl 4 rfl) ?_
      refine lv_iconst (pc := 5) (v := (4 : Int32)) hx hb d_M_multiply_5 (by decide) ?_
      refine lv_icmp_ge (pc := 6) (tgt := 101) hx hb d_M_multiply_6 (by decide) (fun hc => ?_) (fun hc => ?_)
      · have hE := xs_t hE hc
        exact kk _ (Option.some.inj hE).symm _ _ _ G (lv_sub hl [0, 1, 2, 3, 4] rfl)
      · have hE := xs_f hE hc
        refine lv_iconst (pc := 9) (v := (0 : Int32)) hx hb d_M_multiply_9 (by decide) ?_
        refine lv_istore (pc := 10) hx hb d_M_multiply_10 hl (by decide) (lv' := [(5, .int ((0 : Int32))), (0, .ref (ad 1)), (1, .ref (ad q0)), (2, .int (v2)), (3, .ref (ad q2)), (4, .int (v4))]) rfl (fun ls hl => ?_)
        obtain ⟨z8, hz8, hE⟩ := xs_b hE
        refine L12 _ _ _ _ _ _ _ _ _ hz8 G (lv_sub hl [1, 2, 3, 4, 5, 0] rfl) (fun er h => kr er (xs_er2 hE h)) (fun ez8 he H locs ls G hl => ?_)
        have hE := xs_el hE he
        refine lv_iinc (pc := 95) (v := (v4 + 1)) (k := 4) hx hb d_M_multiply_95 hl rfl (xs_inc _) (by decide) (lv' := [(4, .int ((v4 + 1))), (0, .ref (ad 1)), (1, .ref (ad q0)), (2, .int (v2)), (3, .ref (ad q2)), (5, .int (ez8.1))]) rfl (fun ls hl => ?_)
        refine lv_goto (pc := 98) (tgt := 3) hx hb d_M_multiply_98 (by decide) ?_
        exact ih _ _ _ _ _ _ _ hE G (lv_sub hl [1, 2, 3, 4, 0] rfl) kr kk
  unfold fn_M_multiply at hE
  refine lv_iconst (pc := 0) (v := (0 : Int32)) hx hb d_M_multiply_0 (by decide) ?_
  refine lv_istore (pc := 1) hx hb d_M_multiply_1 hl (by decide) (lv' := [(4, .int ((0 : Int32))), (0, .ref (ad 1)), (1, .ref (ad q0)), (2, .int (x1)), (3, .ref (ad q2))]) rfl (fun ls hl => ?_)
  obtain ⟨z9, hz9, hE⟩ := xs_b hE
  refine L3 _ _ _ _ _ _ _ _ hz9 G (lv_sub hl [1, 2, 3, 4, 0] rfl) (fun er h => xs_er1 hE h) (fun ez9 he H locs ls G hl => ?_)
  have hE := xs_el hE he
  refine lv_aload_n (pc := 101) hx hb d_M_multiply_101 rfl (lv_at hl 0 rfl) ?_
  refine gf_M_19 (pc := 102) X G d_M_multiply_102 ?_
  refine lv_iconst (pc := 105) (v := (0 : Int32)) hx hb d_M_multiply_105 (by decide) ?_
  refine lv_aload_n (pc := 106) hx hb d_M_multiply_106 rfl (lv_at hl 0 rfl) ?_
  refine gf_M_9 (pc := 107) X G d_M_multiply_107 ?_
  refine lv_iconst (pc := 110) (v := (0 : Int32)) hx hb d_M_multiply_110 (by decide) ?_
  refine lv_bipush (pc := 111) (v := (16 : Int32)) hx hb d_M_multiply_111 (by decide) ?_
  obtain ⟨hi10, hE⟩ := xs_n hE
  refine xs_copy (pc := 113) X hl.1 cp_M_48.1 cp_M_48.2.1 cp_M_48.2.2.1 cp_M_48.2.2.2 G ia_5 ia_2 hi10 ⟨by decide, by decide⟩ (Nat.le_of_ble_eq_true rfl) d_M_multiply_113 (fun H locs G => ?_)
  obtain ⟨μ11, hμ11, hE⟩ := xs_b hE
  have G := xs_mv G hμ11
  clear hμ11
  refine lv_iconst (pc := 116) (v := (1 : Int32)) hx hb d_M_multiply_116 (by decide) ?_
  cases hE
  exact xs_zret (pc := 117) hx hb hr hlk G (Or.inr rfl) d_M_multiply_117
def fn_M_multiplyByMove (μ0 : xs_M) (x0 : Int32) (x1 : Int32) (x2 : Int32) : Option (Int32 × xs_M) :=
  ((fn_M_setDiagonalFactor μ0 (1 : Int32) (1 : Int32) (1 : Int32)).bind fun w1 => ((some (xs_si w1 4 (3 : Int32).toNatClampNeg (x0))).bind fun μ2 => ((some (xs_si μ2 4 (7 : Int32).toNatClampNeg (x1))).bind fun μ3 => ((some (xs_si μ3 4 (11 : Int32).toNatClampNeg (x2))).bind fun μ4 => ((fn_M_multiply μ4 2 16 (0 : Int32) 4).bind fun w5 => (if w5.1 = 0 ∨ w5.1 = 1 then some ((w5.1, w5.2)) else none))))))
set_option maxHeartbeats 4000000 in
set_option maxRecDepth 100000 in
theorem ok_M_multiplyByMove (l : Launch) (D : va_G) (ad : Nat → Nat) (cs : xs_cs) (hJ : xs_J ad) {μ0 : xs_M} {x0 : Int32} {x1 : Int32} {x2 : Int32}  {rz : (Int32 × xs_M)} (hE : fn_M_multiplyByMove μ0 x0 x1 x2 = some rz) : xs_I l D ad cs y_M_multiplyByMove b_M_multiplyByMove 4 (some .boolean) 2 54 [.ref (ad 1), .int (x0), .int (x1), .int (x2)] μ0 (some (.int rz.1)) rz.2 := by
  refine xs_entry hJ (by decide) (Nat.le_of_ble_eq_true rfl) ?_
  intro p e s m below meth c ls X hr hlk G hl
  have X : xs_C p s m c b_M_multiplyByMove 4 _ "ExactScene$Matrices" := X
  have hx := X.1
  have hb := X.2.1
  have hl : lv_has ls 4 [(0, .ref (ad 1)), (1, .int (x0)), (2, .int (x1)), (3, .int (x2))] := hl
  unfold fn_M_multiplyByMove at hE
  refine lv_aload_n (pc := 0) hx hb d_M_multiplyByMove_0 rfl (lv_at hl 0 rfl) ?_
  refine lv_iconst (pc := 1) (v := (1 : Int32)) hx hb d_M_multiplyByMove_1 (by decide) ?_
  refine lv_iconst (pc := 2) (v := (1 : Int32)) hx hb d_M_multiplyByMove_2 (by decide) ?_
  refine lv_iconst (pc := 3) (v := (1 : Int32)) hx hb d_M_multiplyByMove_3 (by decide) ?_
  obtain ⟨w1, hw1, hE⟩ := xs_b hE
  refine xs_callVv (pc := 4) (as := [.int ((1 : Int32)), .int ((1 : Int32)), .int ((1 : Int32))]) X (ok_M_setDiagonalFactor l D ad cs hJ hw1) km_M_40 G (xs_wM ad cs _) rfl ⟨by decide, by decide⟩ ⟨Nat.zero_le _, Nat.zero_le _⟩ rfl hl.1 rfl (Nat.le_of_ble_eq_true rfl) d_M_multiplyByMove_4 (fun H locs G => ?_)
  refine lv_aload_n (pc := 7) hx hb d_M_multiplyByMove_7 rfl (lv_at hl 0 rfl) ?_
  refine gf_M_16 (pc := 8) X G d_M_multiplyByMove_8 ?_
  refine lv_iconst (pc := 11) (v := (3 : Int32)) hx hb d_M_multiplyByMove_11 (by decide) ?_
  refine lv_iload_n (pc := 12) hx hb d_M_multiplyByMove_12 rfl (lv_at hl 1 rfl) ?_
  refine xs_iast (pc := 13) hx hb G ia_4 (xs_inP (by decide)) d_M_multiplyByMove_13 (fun H locs G => ?_)
  obtain ⟨μ2, hμ2, hE⟩ := xs_b hE
  have G := xs_mv G hμ2
  clear hμ2
  refine lv_aload_n (pc := 14) hx hb d_M_multiplyByMove_14 rfl (lv_at hl 0 rfl) ?_
  refine gf_M_16 (pc := 15) X G d_M_multiplyByMove_15 ?_
  refine lv_bipush (pc := 18) (v := (7 : Int32)) hx hb d_M_multiplyByMove_18 (by decide) ?_
  refine lv_iload_n (pc := 20) hx hb d_M_multiplyByMove_20 rfl (lv_at hl 2 rfl) ?_
  refine xs_iast (pc := 21) hx hb G ia_4 (xs_inP (by decide)) d_M_multiplyByMove_21 (fun H locs G => ?_)
  obtain ⟨μ3, hμ3, hE⟩ := xs_b hE
  have G := xs_mv G hμ3
  clear hμ3
  refine lv_aload_n (pc := 22) hx hb d_M_multiplyByMove_22 rfl (lv_at hl 0 rfl) ?_
  refine gf_M_16 (pc := 23) X G d_M_multiplyByMove_23 ?_
  refine lv_bipush (pc := 26) (v := (11 : Int32)) hx hb d_M_multiplyByMove_26 (by decide) ?_
  refine lv_iload_n (pc := 28) hx hb d_M_multiplyByMove_28 rfl (lv_at hl 3 rfl) ?_
  refine xs_iast (pc := 29) hx hb G ia_4 (xs_inP (by decide)) d_M_multiplyByMove_29 (fun H locs G => ?_)
  obtain ⟨μ4, hμ4, hE⟩ := xs_b hE
  have G := xs_mv G hμ4
  clear hμ4
  refine lv_aload_n (pc := 30) hx hb d_M_multiplyByMove_30 rfl (lv_at hl 0 rfl) ?_
  refine lv_aload_n (pc := 31) hx hb d_M_multiplyByMove_31 rfl (lv_at hl 0 rfl) ?_
  refine gf_M_9 (pc := 32) X G d_M_multiplyByMove_32 ?_
  refine lv_iconst (pc := 35) (v := (0 : Int32)) hx hb d_M_multiplyByMove_35 (by decide) ?_
  refine lv_aload_n (pc := 36) hx hb d_M_multiplyByMove_36 rfl (lv_at hl 0 rfl) ?_
  refine gf_M_16 (pc := 37) X G d_M_multiplyByMove_37 ?_
  obtain ⟨w5, hw5, hE⟩ := xs_b hE
  refine xs_callVr (pc := 40) (as := [.ref (ad 2), .int ((0 : Int32)), .ref (ad 4)]) X (ok_M_multiply l D ad cs hJ ia_2 ia_4 hw5) km_M_44 G (xs_wM ad cs _) rfl ⟨by decide, by decide⟩ ⟨Nat.zero_le _, Nat.zero_le _⟩ rfl hl.1 rfl (Nat.le_of_ble_eq_true rfl) d_M_multiplyByMove_40 (fun H locs G => ?_)
  obtain ⟨hz6, hE⟩ := xs_n hE
  cases hE
  exact xs_zret (pc := 43) hx hb hr hlk G hz6 d_M_multiplyByMove_43
def fn_M_multiplyByStretch (μ0 : xs_M) (x0 : Int32) (x1 : Int32) (x2 : Int32) : Option (Int32 × xs_M) :=
  ((fn_M_setDiagonalFactor μ0 x0 x1 x2).bind fun w1 => ((fn_M_multiply w1 2 16 (0 : Int32) 4).bind fun w2 => (if w2.1 = 0 ∨ w2.1 = 1 then some ((w2.1, w2.2)) else none)))
set_option maxHeartbeats 4000000 in
set_option maxRecDepth 100000 in
theorem ok_M_multiplyByStretch (l : Launch) (D : va_G) (ad : Nat → Nat) (cs : xs_cs) (hJ : xs_J ad) {μ0 : xs_M} {x0 : Int32} {x1 : Int32} {x2 : Int32}  {rz : (Int32 × xs_M)} (hE : fn_M_multiplyByStretch μ0 x0 x1 x2 = some rz) : xs_I l D ad cs y_M_multiplyByStretch b_M_multiplyByStretch 4 (some .boolean) 2 54 [.ref (ad 1), .int (x0), .int (x1), .int (x2)] μ0 (some (.int rz.1)) rz.2 := by
  refine xs_entry hJ (by decide) (Nat.le_of_ble_eq_true rfl) ?_
  intro p e s m below meth c ls X hr hlk G hl
  have X : xs_C p s m c b_M_multiplyByStretch 4 _ "ExactScene$Matrices" := X
  have hx := X.1
  have hb := X.2.1
  have hl : lv_has ls 4 [(0, .ref (ad 1)), (1, .int (x0)), (2, .int (x1)), (3, .int (x2))] := hl
  unfold fn_M_multiplyByStretch at hE
  refine lv_aload_n (pc := 0) hx hb d_M_multiplyByStretch_0 rfl (lv_at hl 0 rfl) ?_
  refine lv_iload_n (pc := 1) hx hb d_M_multiplyByStretch_1 rfl (lv_at hl 1 rfl) ?_
  refine lv_iload_n (pc := 2) hx hb d_M_multiplyByStretch_2 rfl (lv_at hl 2 rfl) ?_
  refine lv_iload_n (pc := 3) hx hb d_M_multiplyByStretch_3 rfl (lv_at hl 3 rfl) ?_
  obtain ⟨w1, hw1, hE⟩ := xs_b hE
  refine xs_callVv (pc := 4) (as := [.int (x0), .int (x1), .int (x2)]) X (ok_M_setDiagonalFactor l D ad cs hJ hw1) km_M_40 G (xs_wM ad cs _) rfl ⟨by decide, by decide⟩ ⟨Nat.zero_le _, Nat.zero_le _⟩ rfl hl.1 rfl (Nat.le_of_ble_eq_true rfl) d_M_multiplyByStretch_4 (fun H locs G => ?_)
  refine lv_aload_n (pc := 7) hx hb d_M_multiplyByStretch_7 rfl (lv_at hl 0 rfl) ?_
  refine lv_aload_n (pc := 8) hx hb d_M_multiplyByStretch_8 rfl (lv_at hl 0 rfl) ?_
  refine gf_M_9 (pc := 9) X G d_M_multiplyByStretch_9 ?_
  refine lv_iconst (pc := 12) (v := (0 : Int32)) hx hb d_M_multiplyByStretch_12 (by decide) ?_
  refine lv_aload_n (pc := 13) hx hb d_M_multiplyByStretch_13 rfl (lv_at hl 0 rfl) ?_
  refine gf_M_16 (pc := 14) X G d_M_multiplyByStretch_14 ?_
  obtain ⟨w2, hw2, hE⟩ := xs_b hE
  refine xs_callVr (pc := 17) (as := [.ref (ad 2), .int ((0 : Int32)), .ref (ad 4)]) X (ok_M_multiply l D ad cs hJ ia_2 ia_4 hw2) km_M_44 G (xs_wM ad cs _) rfl ⟨by decide, by decide⟩ ⟨Nat.zero_le _, Nat.zero_le _⟩ rfl hl.1 rfl (Nat.le_of_ble_eq_true rfl) d_M_multiplyByStretch_17 (fun H locs G => ?_)
  obtain ⟨hz3, hE⟩ := xs_n hE
  cases hE
  exact xs_zret (pc := 20) hx hb hr hlk G hz3 d_M_multiplyByStretch_20
def fn_M_quarterTurn_L2 : Nat → xs_M → Int32 → Int32 → Int32 →  Option (Int32 × xs_M)
  | 0, _, _, _, _ => none
  | fu + 1, μ, v1, v2, v3 => (if (4 : Int32) ≤ v3 then some ((v3, μ)) else (if xs_in ((v3 * (4 : Int32)) + v1) 16 = true then ((some (μ.1 2 ((v3 * (4 : Int32)) + v1).toNatClampNeg)).bind fun a2 => (if xs_in ((v3 * (4 : Int32)) + v2) 16 = true then (if xs_in ((v3 * (4 : Int32)) + v1) 16 = true then ((some (xs_si μ 2 ((v3 * (4 : Int32)) + v1).toNatClampNeg (μ.1 2 ((v3 * (4 : Int32)) + v2).toNatClampNeg))).bind fun μ5 => (if xs_in ((v3 * (4 : Int32)) + v2) 16 = true then ((some (xs_si μ5 2 ((v3 * (4 : Int32)) + v2).toNatClampNeg (-a2))).bind fun μ7 => fn_M_quarterTurn_L2 fu μ7 v1 v2 (v3 + 1)) else none)) else none) else none)) else none))
def fn_M_quarterTurn (μ0 : xs_M) (x0 : Int32) (x1 : Int32) : Option xs_M :=
  ((fn_M_quarterTurn_L2 xs_FU μ0 x0 x1 (0 : Int32)).bind fun z8 => some (z8.2))
set_option maxHeartbeats 4000000 in
set_option maxRecDepth 100000 in
theorem ok_M_quarterTurn (l : Launch) (D : va_G) (ad : Nat → Nat) (cs : xs_cs) (hJ : xs_J ad) {μ0 : xs_M} {x0 : Int32} {x1 : Int32}  {rz : xs_M} (hE : fn_M_quarterTurn μ0 x0 x1 = some rz) : xs_I l D ad cs y_M_quarterTurn b_M_quarterTurn 5 none 0 0 [.ref (ad 1), .int (x0), .int (x1)] μ0 none rz := by
  refine xs_entry hJ (by decide) (Nat.le_of_ble_eq_true rfl) ?_
  intro p e s m below meth c ls X hr hlk G hl
  have X : xs_C p s m c b_M_quarterTurn 5 _ "ExactScene$Matrices" := X
  have hx := X.1
  have hb := X.2.1
  have hl : lv_has ls 5 [(0, .ref (ad 1)), (1, .int (x0)), (2, .int (x1))] := hl
  have L2 : ∀ (fu : Nat) (μ : xs_M) (v1 : Int32) (v2 : Int32) (v3 : Int32) (H : Heap) (locs : List Loc) (ls : Array Slot) (z : (Int32 × xs_M)), fn_M_quarterTurn_L2 fu μ v1 v2 v3 = some z → xs_G D ad cs s (xs_A ad s.heap.size) s.heap μ H locs → lv_has ls 5 [(0, .ref (ad 1)), (1, .int (v1)), (2, .int (v2)), (3, .int (v3))] → (∀ (H : Heap) (locs : List Loc) (ls : Array Slot), xs_G D ad cs s (xs_A ad s.heap.size) s.heap z.2 H locs → lv_has ls 5 [(0, .ref (ad 1)), (1, .int (v1)), (2, .int (v2)), (3, .int (z.1))] → W p l e (xs_rm 0 0) s m ([.ref (ad 1), .int (x0), .int (x1)] : List Value).toArray below meth c H locs 0 0 (xs_E below D ad cs [.ref (ad 1), .int (x0), .int (x1)] s none rz) (F0 m 58 ls [])) → W p l e (xs_rm 0 0) s m ([.ref (ad 1), .int (x0), .int (x1)] : List Value).toArray below meth c H locs 0 0 (xs_E below D ad cs [.ref (ad 1), .int (x0), .int (x1)] s none rz) (F0 m 2 ls []) := by
    clear hE hl G
    intro fu
    induction fu with
    | zero =>
      intro μ v1 v2 v3 H locs ls z hE
      rw [fn_M_quarterTurn_L2] at hE
      cases hE
    | succ fu ih =>
      intro μ v1 v2 v3 H locs ls z hE G hl kk
      rw [fn_M_quarterTurn_L2] at hE
      refine lv_iload_n (pc := 2) hx hb d_M_quarterTurn_2 rfl (lv_at hl 3 rfl) ?_
      refine lv_iconst (pc := 3) (v := (4 : Int32)) hx hb d_M_quarterTurn_3 (by decide) ?_
      refine lv_icmp_ge (pc := 4) (tgt := 58) hx hb d_M_quarterTurn_4 (by decide) (fun hc => ?_) (fun hc => ?_)
      · have hE := xs_t hE hc
        cases hE
        exact kk _ _ _ G (lv_sub hl [0, 1, 2, 3] rfl)
      · have hE := xs_f hE hc
        refine lv_aload_n (pc := 7) hx hb d_M_quarterTurn_7 rfl (lv_at hl 0 rfl) ?_
        refine gf_M_9 (pc := 8) X G d_M_quarterTurn_8 ?_
        refine lv_iload_n (pc := 11) hx hb d_M_quarterTurn_11 rfl (lv_at hl 3 rfl) ?_
        refine lv_iconst (pc := 12) (v := (4 : Int32)) hx hb d_M_quarterTurn_12 (by decide) ?_
        refine lv_imul (pc := 13) hx hb d_M_quarterTurn_13 ?_
        refine lv_iload_n (pc := 14) hx hb d_M_quarterTurn_14 rfl (lv_at hl 1 rfl) ?_
        refine lv_iadd (pc := 15) hx hb d_M_quarterTurn_15 ?_
        obtain ⟨hi1, hE⟩ := xs_n hE
        refine xs_iald (pc := 16) hx hb G ia_2 (xs_inP hi1) d_M_quarterTurn_16 ?_
        obtain ⟨a2, ha2, hE⟩ := xs_b hE
        refine xs_ti ha2 ?_
        clear ha2
        refine lv_istore (pc := 17) hx hb d_M_quarterTurn_17 hl (by decide) (lv' := [(4, .int (a2)), (0, .ref (ad 1)), (1, .int (v1)), (2, .int (v2)), (3, .int (v3))]) rfl (fun ls hl => ?_)
        refine lv_aload_n (pc := 19) hx hb d_M_quarterTurn_19 rfl (lv_at hl 1 rfl) ?_
        refine gf_M_9 (pc := 20) X G d_M_quarterTurn_20 ?_
        refine lv_iload_n (pc := 23) hx hb d_M_quarterTurn_23 rfl (lv_at hl 4 rfl) ?_
        refine lv_iconst (pc := 24) (v := (4 : Int32)) hx hb d_M_quarterTurn_24 (by decide) ?_
        refine lv_imul (pc := 25) hx hb d_M_quarterTurn_25 ?_
        refine lv_iload_n (pc := 26) hx hb d_M_quarterTurn_26 rfl (lv_at hl 2 rfl) ?_
        refine lv_iadd (pc := 27) hx hb d_M_quarterTurn_27 ?_
        refine lv_aload_n (pc := 28) hx hb d_M_quarterTurn_28 rfl (lv_at hl 1 rfl) ?_
        refine gf_M_9 (pc := 29) X G d_M_quarterTurn_29 ?_
        refine lv_iload_n (pc := 32) hx hb d_M_quarterTurn_32 rfl (lv_at hl 4 rfl) ?_
        refine lv_iconst (pc := 33) (v := (4 : Int32)) hx hb d_M_quarterTurn_33 (by decide) ?_
        refine lv_imul (pc := 34) hx hb d_M_quarterTurn_34 ?_
        refine lv_iload_n (pc := 35) hx hb d_M_quarterTurn_35 rfl (lv_at hl 3 rfl) ?_
        refine lv_iadd (pc := 36) hx hb d_M_quarterTurn_36 ?_
        obtain ⟨hi3, hE⟩ := xs_n hE
        refine xs_iald (pc := 37) hx hb G ia_2 (xs_inP hi3) d_M_quarterTurn_37 ?_
        obtain ⟨hi4, hE⟩ := xs_n hE
        refine xs_iast (pc := 38) hx hb G ia_2 (xs_inP hi4) d_M_quarterTurn_38 (fun H locs G => ?_)
        obtain ⟨μ5, hμ5, hE⟩ := xs_b hE
        have G := xs_mv G hμ5
        clear hμ5
        refine lv_aload_n (pc := 39) hx hb d_M_quarterTurn_39 rfl (lv_at hl 1 rfl) ?_
        refine gf_M_9 (pc := 40) X G d_M_quarterTurn_40 ?_
        refine lv_iload_n (pc := 43) hx hb d_M_quarterTurn_43 rfl (lv_at hl 4 rfl) ?_
        refine lv_iconst (pc := 44) (v := (4 : Int32)) hx hb d_M_quarterTurn_44 (by decide) ?_
        refine lv_imul (pc := 45) hx hb d_M_quarterTurn_45 ?_
        refine lv_iload_n (pc := 46) hx hb d_M_quarterTurn_46 rfl (lv_at hl 3 rfl) ?_
        refine lv_iadd (pc := 47) hx hb d_M_quarterTurn_47 ?_
        refine lv_iload (pc := 48) hx hb d_M_quarterTurn_48 (lv_at hl 0 rfl) ?_
        refine lv_ineg (pc := 50) hx hb d_M_quarterTurn_50 ?_
        obtain ⟨hi6, hE⟩ := xs_n hE
        refine xs_iast (pc := 51) hx hb G ia_2 (xs_inP hi6) d_M_quarterTurn_51 (fun H locs G => ?_)
        obtain ⟨μ7, hμ7, hE⟩ := xs_b hE
        have G := xs_mv G hμ7
        clear hμ7
        refine lv_iinc (pc := 52) (v := (v3 + 1)) (k := 4) hx hb d_M_quarterTurn_52 hl rfl (xs_inc _) (by decide) (lv' := [(3, .int ((v3 + 1))), (4, .int (a2)), (0, .ref (ad 1)), (1, .int (v1)), (2, .int (v2))]) rfl (fun ls hl => ?_)
        refine lv_goto (pc := 55) (tgt := 2) hx hb d_M_quarterTurn_55 (by decide) ?_
        exact ih _ _ _ _ _ _ _ _ hE G (lv_sub hl [2, 3, 4, 0] rfl) kk
  unfold fn_M_quarterTurn at hE
  refine lv_iconst (pc := 0) (v := (0 : Int32)) hx hb d_M_quarterTurn_0 (by decide) ?_
  refine lv_istore_n (pc := 1) hx hb d_M_quarterTurn_1 rfl hl (by decide) (lv' := [(3, .int ((0 : Int32))), (0, .ref (ad 1)), (1, .int (x0)), (2, .int (x1))]) rfl (fun ls hl => ?_)
  obtain ⟨z8, hz8, hE⟩ := xs_b hE
  refine L2 _ _ _ _ _ _ _ _ _ hz8 G (lv_sub hl [1, 2, 3, 0] rfl) (fun H locs ls G hl => ?_)
  cases hE
  exact xs_vret (pc := 58) hx hb hr hlk G d_M_quarterTurn_58
def fn_M_isPileEmpty (μ0 : xs_M)  : Option Int32 :=
  (if (μ0.1 1 4) = 0 then some ((1 : Int32)) else some ((0 : Int32)))
set_option maxHeartbeats 4000000 in
set_option maxRecDepth 100000 in
theorem ok_M_isPileEmpty (l : Launch) (D : va_G) (ad : Nat → Nat) (cs : xs_cs) (hJ : xs_J ad) {μ0 : xs_M}   {rz : Int32} (hE : fn_M_isPileEmpty μ0 = some rz) : xs_I l D ad cs y_M_isPileEmpty b_M_isPileEmpty 1 (some .boolean) 0 0 [.ref (ad 1)] μ0 (some (.int rz)) μ0 := by
  refine xs_entry hJ (by decide) (Nat.le_of_ble_eq_true rfl) ?_
  intro p e s m below meth c ls X hr hlk G hl
  have X : xs_C p s m c b_M_isPileEmpty 1 _ "ExactScene$Matrices" := X
  have hx := X.1
  have hb := X.2.1
  have hl : lv_has ls 1 [(0, .ref (ad 1))] := hl
  unfold fn_M_isPileEmpty at hE
  refine lv_aload_n (pc := 0) hx hb d_M_isPileEmpty_0 rfl (lv_at hl 0 rfl) ?_
  refine gf_M_32 (pc := 1) X G d_M_isPileEmpty_1 ?_
  refine lv_if_ne (pc := 4) (tgt := 11) hx hb d_M_isPileEmpty_4 (by decide) (fun hc => ?_) (fun hc => ?_)
  · have hE := xs_f hE hc
    refine lv_iconst (pc := 11) (v := (0 : Int32)) hx hb d_M_isPileEmpty_11 (by decide) ?_
    cases hE
    exact xs_zret (pc := 12) hx hb hr hlk G (Or.inl rfl) d_M_isPileEmpty_12
  · have hE := xs_t hE hc
    refine lv_iconst (pc := 7) (v := (1 : Int32)) hx hb d_M_isPileEmpty_7 (by decide) ?_
    refine lv_goto (pc := 8) (tgt := 12) hx hb d_M_isPileEmpty_8 (by decide) ?_
    cases hE
    exact xs_zret (pc := 12) hx hb hr hlk G (Or.inr rfl) d_M_isPileEmpty_12
def fn_M_multiplyLatestByCurrent (μ0 : xs_M)  : Option (Int32 × xs_M) :=
  ((fn_M_multiply μ0 3 64 (((μ0.1 1 4) - (1 : Int32)) * (16 : Int32)) 2).bind fun w1 => (if w1.1 = 0 then (if w1.1 = 0 ∨ w1.1 = 1 then some ((w1.1, w1.2)) else none) else ((some (xs_si w1.2 1 4 ((w1.2.1 1 4) - (1 : Int32)))).bind fun μ3 => (if w1.1 = 0 ∨ w1.1 = 1 then some ((w1.1, μ3)) else none))))
set_option maxHeartbeats 4000000 in
set_option maxRecDepth 100000 in
theorem ok_M_multiplyLatestByCurrent (l : Launch) (D : va_G) (ad : Nat → Nat) (cs : xs_cs) (hJ : xs_J ad) {μ0 : xs_M}   {rz : (Int32 × xs_M)} (hE : fn_M_multiplyLatestByCurrent μ0 = some rz) : xs_I l D ad cs y_M_multiplyLatestByCurrent b_M_multiplyLatestByCurrent 2 (some .boolean) 2 54 [.ref (ad 1)] μ0 (some (.int rz.1)) rz.2 := by
  refine xs_entry hJ (by decide) (Nat.le_of_ble_eq_true rfl) ?_
  intro p e s m below meth c ls X hr hlk G hl
  have X : xs_C p s m c b_M_multiplyLatestByCurrent 2 _ "ExactScene$Matrices" := X
  have hx := X.1
  have hb := X.2.1
  have hl : lv_has ls 2 [(0, .ref (ad 1))] := hl
  unfold fn_M_multiplyLatestByCurrent at hE
  refine lv_aload_n (pc := 0) hx hb d_M_multiplyLatestByCurrent_0 rfl (lv_at hl 0 rfl) ?_
  refine lv_aload_n (pc := 1) hx hb d_M_multiplyLatestByCurrent_1 rfl (lv_at hl 0 rfl) ?_
  refine gf_M_13 (pc := 2) X G d_M_multiplyLatestByCurrent_2 ?_
  refine lv_aload_n (pc := 5) hx hb d_M_multiplyLatestByCurrent_5 rfl (lv_at hl 0 rfl) ?_
  refine gf_M_32 (pc := 6) X G d_M_multiplyLatestByCurrent_6 ?_
  refine lv_iconst (pc := 9) (v := (1 : Int32)) hx hb d_M_multiplyLatestByCurrent_9 (by decide) ?_
  refine lv_isub (pc := 10) hx hb d_M_multiplyLatestByCurrent_10 ?_
  refine lv_bipush (pc := 11) (v := (16 : Int32)) hx hb d_M_multiplyLatestByCurrent_11 (by decide) ?_
  refine lv_imul (pc := 13) hx hb d_M_multiplyLatestByCurrent_13 ?_
  refine lv_aload_n (pc := 14) hx hb d_M_multiplyLatestByCurrent_14 rfl (lv_at hl 0 rfl) ?_
  refine gf_M_9 (pc := 15) X G d_M_multiplyLatestByCurrent_15 ?_
  obtain ⟨w1, hw1, hE⟩ := xs_b hE
  refine xs_callVr (pc := 18) (as := [.ref (ad 3), .int ((((μ0.1 1 4) - (1 : Int32)) * (16 : Int32))), .ref (ad 2)]) X (ok_M_multiply l D ad cs hJ ia_3 ia_2 hw1) km_M_44 G (xs_wM ad cs _) rfl ⟨by decide, by decide⟩ ⟨Nat.zero_le _, Nat.zero_le _⟩ rfl hl.1 rfl (Nat.le_of_ble_eq_true rfl) d_M_multiplyLatestByCurrent_18 (fun H locs G => ?_)
  refine lv_istore_n (pc := 21) hx hb d_M_multiplyLatestByCurrent_21 rfl hl (by decide) (lv' := [(1, .int (w1.1)), (0, .ref (ad 1))]) rfl (fun ls hl => ?_)
  refine lv_iload_n (pc := 22) hx hb d_M_multiplyLatestByCurrent_22 rfl (lv_at hl 0 rfl) ?_
  refine lv_if_eq (pc := 23) (tgt := 36) hx hb d_M_multiplyLatestByCurrent_23 (by decide) (fun hc => ?_) (fun hc => ?_)
  · have hE := xs_t hE hc
    refine lv_iload_n (pc := 36) hx hb d_M_multiplyLatestByCurrent_36 rfl (lv_at hl 0 rfl) ?_
    obtain ⟨hz2, hE⟩ := xs_n hE
    cases hE
    exact xs_zret (pc := 37) hx hb hr hlk G hz2 d_M_multiplyLatestByCurrent_37
  · have hE := xs_f hE hc
    refine lv_aload_n (pc := 26) hx hb d_M_multiplyLatestByCurrent_26 rfl (lv_at hl 1 rfl) ?_
    refine lv_dup (pc := 27) hx hb d_M_multiplyLatestByCurrent_27 rfl ?_
    refine gf_M_32 (pc := 28) X G d_M_multiplyLatestByCurrent_28 ?_
    refine lv_iconst (pc := 31) (v := (1 : Int32)) hx hb d_M_multiplyLatestByCurrent_31 (by decide) ?_
    refine lv_isub (pc := 32) hx hb d_M_multiplyLatestByCurrent_32 ?_
    refine pf_M_32 (pc := 33) X G d_M_multiplyLatestByCurrent_33 (fun H locs G => ?_)
    obtain ⟨μ3, hμ3, hE⟩ := xs_b hE
    have G := xs_mv G hμ3
    clear hμ3
    refine lv_iload_n (pc := 36) hx hb d_M_multiplyLatestByCurrent_36 rfl (lv_at hl 0 rfl) ?_
    obtain ⟨hz4, hE⟩ := xs_n hE
    cases hE
    exact xs_zret (pc := 37) hx hb hr hlk G hz4 d_M_multiplyLatestByCurrent_37
def fn_M_isPileFull (μ0 : xs_M)  : Option Int32 :=
  (if (μ0.1 1 4) = (4 : Int32) then some ((1 : Int32)) else some ((0 : Int32)))
set_option maxHeartbeats 4000000 in
set_option maxRecDepth 100000 in
theorem ok_M_isPileFull (l : Launch) (D : va_G) (ad : Nat → Nat) (cs : xs_cs) (hJ : xs_J ad) {μ0 : xs_M}   {rz : Int32} (hE : fn_M_isPileFull μ0 = some rz) : xs_I l D ad cs y_M_isPileFull b_M_isPileFull 1 (some .boolean) 0 0 [.ref (ad 1)] μ0 (some (.int rz)) μ0 := by
  refine xs_entry hJ (by decide) (Nat.le_of_ble_eq_true rfl) ?_
  intro p e s m below meth c ls X hr hlk G hl
  have X : xs_C p s m c b_M_isPileFull 1 _ "ExactScene$Matrices" := X
  have hx := X.1
  have hb := X.2.1
  have hl : lv_has ls 1 [(0, .ref (ad 1))] := hl
  unfold fn_M_isPileFull at hE
  refine lv_aload_n (pc := 0) hx hb d_M_isPileFull_0 rfl (lv_at hl 0 rfl) ?_
  refine gf_M_32 (pc := 1) X G d_M_isPileFull_1 ?_
  refine lv_iconst (pc := 4) (v := (4 : Int32)) hx hb d_M_isPileFull_4 (by decide) ?_
  refine lv_icmp_ne (pc := 5) (tgt := 12) hx hb d_M_isPileFull_5 (by decide) (fun hc => ?_) (fun hc => ?_)
  · have hE := xs_f hE hc
    refine lv_iconst (pc := 12) (v := (0 : Int32)) hx hb d_M_isPileFull_12 (by decide) ?_
    cases hE
    exact xs_zret (pc := 13) hx hb hr hlk G (Or.inl rfl) d_M_isPileFull_13
  · have hE := xs_t hE hc
    refine lv_iconst (pc := 8) (v := (1 : Int32)) hx hb d_M_isPileFull_8 (by decide) ?_
    refine lv_goto (pc := 9) (tgt := 13) hx hb d_M_isPileFull_9 (by decide) ?_
    cases hE
    exact xs_zret (pc := 13) hx hb hr hlk G (Or.inr rfl) d_M_isPileFull_13
def fn_M_save (μ0 : xs_M)  : Option xs_M :=
  (if ¬ (0 : Int32) < 0 ∧ ¬ ((μ0.1 1 4) * (16 : Int32)) < 0 ∧ ¬ (16 : Int32) < 0 ∧ (0 : Int32).toNatClampNeg + (16 : Int32).toNatClampNeg ≤ 16 ∧ ((μ0.1 1 4) * (16 : Int32)).toNatClampNeg + (16 : Int32).toNatClampNeg ≤ 64 then ((some (xs_sa μ0 3 (va_cpy (μ0.1 2) (μ0.1 3) (0 : Int32).toNatClampNeg ((μ0.1 1 4) * (16 : Int32)).toNatClampNeg (16 : Int32).toNatClampNeg))).bind fun μ2 => ((some (xs_si μ2 1 4 ((μ2.1 1 4) + (1 : Int32)))).bind fun μ3 => some (μ3))) else none)
set_option maxHeartbeats 4000000 in
set_option maxRecDepth 100000 in
theorem ok_M_save (l : Launch) (D : va_G) (ad : Nat → Nat) (cs : xs_cs) (hJ : xs_J ad) {μ0 : xs_M}   {rz : xs_M} (hE : fn_M_save μ0 = some rz) : xs_I l D ad cs y_M_save b_M_save 1 none 1 26 [.ref (ad 1)] μ0 none rz := by
  refine xs_entry hJ (by decide) (Nat.le_of_ble_eq_true rfl) ?_
  intro p e s m below meth c ls X hr hlk G hl
  have X : xs_C p s m c b_M_save 1 _ "ExactScene$Matrices" := X
  have hx := X.1
  have hb := X.2.1
  have hl : lv_has ls 1 [(0, .ref (ad 1))] := hl
  unfold fn_M_save at hE
  refine lv_aload_n (pc := 0) hx hb d_M_save_0 rfl (lv_at hl 0 rfl) ?_
  refine gf_M_9 (pc := 1) X G d_M_save_1 ?_
  refine lv_iconst (pc := 4) (v := (0 : Int32)) hx hb d_M_save_4 (by decide) ?_
  refine lv_aload_n (pc := 5) hx hb d_M_save_5 rfl (lv_at hl 0 rfl) ?_
  refine gf_M_13 (pc := 6) X G d_M_save_6 ?_
  refine lv_aload_n (pc := 9) hx hb d_M_save_9 rfl (lv_at hl 0 rfl) ?_
  refine gf_M_32 (pc := 10) X G d_M_save_10 ?_
  refine lv_bipush (pc := 13) (v := (16 : Int32)) hx hb d_M_save_13 (by decide) ?_
  refine lv_imul (pc := 15) hx hb d_M_save_15 ?_
  refine lv_bipush (pc := 16) (v := (16 : Int32)) hx hb d_M_save_16 (by decide) ?_
  obtain ⟨hi1, hE⟩ := xs_n hE
  refine xs_copy (pc := 18) X hl.1 cp_M_48.1 cp_M_48.2.1 cp_M_48.2.2.1 cp_M_48.2.2.2 G ia_2 ia_3 hi1 ⟨by decide, by decide⟩ (Nat.le_of_ble_eq_true rfl) d_M_save_18 (fun H locs G => ?_)
  obtain ⟨μ2, hμ2, hE⟩ := xs_b hE
  have G := xs_mv G hμ2
  clear hμ2
  refine lv_aload_n (pc := 21) hx hb d_M_save_21 rfl (lv_at hl 0 rfl) ?_
  refine lv_dup (pc := 22) hx hb d_M_save_22 rfl ?_
  refine gf_M_32 (pc := 23) X G d_M_save_23 ?_
  refine lv_iconst (pc := 26) (v := (1 : Int32)) hx hb d_M_save_26 (by decide) ?_
  refine lv_iadd (pc := 27) hx hb d_M_save_27 ?_
  refine pf_M_32 (pc := 28) X G d_M_save_28 (fun H locs G => ?_)
  obtain ⟨μ3, hμ3, hE⟩ := xs_b hE
  have G := xs_mv G hμ3
  clear hμ3
  cases hE
  exact xs_vret (pc := 31) hx hb hr hlk G d_M_save_31
def fn_M_restore (μ0 : xs_M)  : Option xs_M :=
  ((some (xs_si μ0 1 4 ((μ0.1 1 4) - (1 : Int32)))).bind fun μ1 => (if ¬ ((μ1.1 1 4) * (16 : Int32)) < 0 ∧ ¬ (0 : Int32) < 0 ∧ ¬ (16 : Int32) < 0 ∧ ((μ1.1 1 4) * (16 : Int32)).toNatClampNeg + (16 : Int32).toNatClampNeg ≤ 64 ∧ (0 : Int32).toNatClampNeg + (16 : Int32).toNatClampNeg ≤ 16 then ((some (xs_sa μ1 2 (va_cpy (μ1.1 3) (μ1.1 2) ((μ1.1 1 4) * (16 : Int32)).toNatClampNeg (0 : Int32).toNatClampNeg (16 : Int32).toNatClampNeg))).bind fun μ3 => some (μ3)) else none))
set_option maxHeartbeats 4000000 in
set_option maxRecDepth 100000 in
theorem ok_M_restore (l : Launch) (D : va_G) (ad : Nat → Nat) (cs : xs_cs) (hJ : xs_J ad) {μ0 : xs_M}   {rz : xs_M} (hE : fn_M_restore μ0 = some rz) : xs_I l D ad cs y_M_restore b_M_restore 1 none 1 26 [.ref (ad 1)] μ0 none rz := by
  refine xs_entry hJ (by decide) (Nat.le_of_ble_eq_true rfl) ?_
  intro p e s m below meth c ls X hr hlk G hl
  have X : xs_C p s m c b_M_restore 1 _ "ExactScene$Matrices" := X
  have hx := X.1
  have hb := X.2.1
  have hl : lv_has ls 1 [(0, .ref (ad 1))] := hl
  unfold fn_M_restore at hE
  refine lv_aload_n (pc := 0) hx hb d_M_restore_0 rfl (lv_at hl 0 rfl) ?_
  refine lv_dup (pc := 1) hx hb d_M_restore_1 rfl ?_
  refine gf_M_32 (pc := 2) X G d_M_restore_2 ?_
  refine lv_iconst (pc := 5) (v := (1 : Int32)) hx hb d_M_restore_5 (by decide) ?_
  refine lv_isub (pc := 6) hx hb d_M_restore_6 ?_
  refine pf_M_32 (pc := 7) X G d_M_restore_7 (fun H locs G => ?_)
  obtain ⟨μ1, hμ1, hE⟩ := xs_b hE
  have G := xs_mv G hμ1
  clear hμ1
  refine lv_aload_n (pc := 10) hx hb d_M_restore_10 rfl (lv_at hl 0 rfl) ?_
  refine gf_M_13 (pc := 11) X G d_M_restore_11 ?_
  refine lv_aload_n (pc := 14) hx hb d_M_restore_14 rfl (lv_at hl 0 rfl) ?_
  refine gf_M_32 (pc := 15) X G d_M_restore_15 ?_
  refine lv_bipush (pc := 18) (v := (16 : Int32)) hx hb d_M_restore_18 (by decide) ?_
  refine lv_imul (pc := 20) hx hb d_M_restore_20 ?_
  refine lv_aload_n (pc := 21) hx hb d_M_restore_21 rfl (lv_at hl 0 rfl) ?_
  refine gf_M_9 (pc := 22) X G d_M_restore_22 ?_
  refine lv_iconst (pc := 25) (v := (0 : Int32)) hx hb d_M_restore_25 (by decide) ?_
  refine lv_bipush (pc := 26) (v := (16 : Int32)) hx hb d_M_restore_26 (by decide) ?_
  obtain ⟨hi2, hE⟩ := xs_n hE
  refine xs_copy (pc := 28) X hl.1 cp_M_48.1 cp_M_48.2.1 cp_M_48.2.2.1 cp_M_48.2.2.2 G ia_3 ia_2 hi2 ⟨by decide, by decide⟩ (Nat.le_of_ble_eq_true rfl) d_M_restore_28 (fun H locs G => ?_)
  obtain ⟨μ3, hμ3, hE⟩ := xs_b hE
  have G := xs_mv G hμ3
  clear hμ3
  cases hE
  exact xs_vret (pc := 31) hx hb hr hlk G d_M_restore_31
def fn_M_entryAt (μ0 : xs_M) (x0 : Int32) (x1 : Int32) : Option Int32 :=
  (if xs_in ((x0 * (4 : Int32)) + x1) 16 = true then some ((μ0.1 2 ((x0 * (4 : Int32)) + x1).toNatClampNeg)) else none)
set_option maxHeartbeats 4000000 in
set_option maxRecDepth 100000 in
theorem ok_M_entryAt (l : Launch) (D : va_G) (ad : Nat → Nat) (cs : xs_cs) (hJ : xs_J ad) {μ0 : xs_M} {x0 : Int32} {x1 : Int32}  {rz : Int32} (hE : fn_M_entryAt μ0 x0 x1 = some rz) : xs_I l D ad cs y_M_entryAt b_M_entryAt 3 (some .int) 0 0 [.ref (ad 1), .int (x0), .int (x1)] μ0 (some (.int rz)) μ0 := by
  refine xs_entry hJ (by decide) (Nat.le_of_ble_eq_true rfl) ?_
  intro p e s m below meth c ls X hr hlk G hl
  have X : xs_C p s m c b_M_entryAt 3 _ "ExactScene$Matrices" := X
  have hx := X.1
  have hb := X.2.1
  have hl : lv_has ls 3 [(0, .ref (ad 1)), (1, .int (x0)), (2, .int (x1))] := hl
  unfold fn_M_entryAt at hE
  refine lv_aload_n (pc := 0) hx hb d_M_entryAt_0 rfl (lv_at hl 0 rfl) ?_
  refine gf_M_9 (pc := 1) X G d_M_entryAt_1 ?_
  refine lv_iload_n (pc := 4) hx hb d_M_entryAt_4 rfl (lv_at hl 1 rfl) ?_
  refine lv_iconst (pc := 5) (v := (4 : Int32)) hx hb d_M_entryAt_5 (by decide) ?_
  refine lv_imul (pc := 6) hx hb d_M_entryAt_6 ?_
  refine lv_iload_n (pc := 7) hx hb d_M_entryAt_7 rfl (lv_at hl 2 rfl) ?_
  refine lv_iadd (pc := 8) hx hb d_M_entryAt_8 ?_
  obtain ⟨hi1, hE⟩ := xs_n hE
  refine xs_iald (pc := 9) hx hb G ia_2 (xs_inP hi1) d_M_entryAt_9 ?_
  cases hE
  exact xs_iret (pc := 10) hx hb hr hlk G d_M_entryAt_10
def fn_M_rowTimes (μ0 : xs_M) (x0 : Int32) (x1 : Int32) (x2 : Int32) (x3 : Int32) : Option Int32 :=
  ((fn_M_entryAt μ0 x0 (0 : Int32)).bind fun w1 => ((fn_M_entryAt μ0 x0 (1 : Int32)).bind fun w2 => ((fn_M_entryAt μ0 x0 (2 : Int32)).bind fun w3 => ((fn_M_entryAt μ0 x0 (3 : Int32)).bind fun w4 => some (((((w1 * x1) + (w2 * x2)) + (w3 * x3)) + w4))))))
set_option maxHeartbeats 4000000 in
set_option maxRecDepth 100000 in
theorem ok_M_rowTimes (l : Launch) (D : va_G) (ad : Nat → Nat) (cs : xs_cs) (hJ : xs_J ad) {μ0 : xs_M} {x0 : Int32} {x1 : Int32} {x2 : Int32} {x3 : Int32}  {rz : Int32} (hE : fn_M_rowTimes μ0 x0 x1 x2 x3 = some rz) : xs_I l D ad cs y_M_rowTimes b_M_rowTimes 5 (some .int) 1 22 [.ref (ad 1), .int (x0), .int (x1), .int (x2), .int (x3)] μ0 (some (.int rz)) μ0 := by
  refine xs_entry hJ (by decide) (Nat.le_of_ble_eq_true rfl) ?_
  intro p e s m below meth c ls X hr hlk G hl
  have X : xs_C p s m c b_M_rowTimes 5 _ "ExactScene$Matrices" := X
  have hx := X.1
  have hb := X.2.1
  have hl : lv_has ls 5 [(0, .ref (ad 1)), (1, .int (x0)), (2, .int (x1)), (3, .int (x2)), (4, .int (x3))] := hl
  unfold fn_M_rowTimes at hE
  refine lv_aload_n (pc := 0) hx hb d_M_rowTimes_0 rfl (lv_at hl 0 rfl) ?_
  refine lv_iload_n (pc := 1) hx hb d_M_rowTimes_1 rfl (lv_at hl 1 rfl) ?_
  refine lv_iconst (pc := 2) (v := (0 : Int32)) hx hb d_M_rowTimes_2 (by decide) ?_
  obtain ⟨w1, hw1, hE⟩ := xs_b hE
  refine xs_callVr (pc := 3) (as := [.int (x0), .int ((0 : Int32))]) X (ok_M_entryAt l D ad cs hJ hw1) km_M_36 G (xs_wM ad cs _) rfl ⟨by decide, by decide⟩ ⟨Nat.zero_le _, Nat.zero_le _⟩ rfl hl.1 rfl (Nat.le_of_ble_eq_true rfl) d_M_rowTimes_3 (fun H locs G => ?_)
  refine lv_iload_n (pc := 6) hx hb d_M_rowTimes_6 rfl (lv_at hl 2 rfl) ?_
  refine lv_imul (pc := 7) hx hb d_M_rowTimes_7 ?_
  refine lv_aload_n (pc := 8) hx hb d_M_rowTimes_8 rfl (lv_at hl 0 rfl) ?_
  refine lv_iload_n (pc := 9) hx hb d_M_rowTimes_9 rfl (lv_at hl 1 rfl) ?_
  refine lv_iconst (pc := 10) (v := (1 : Int32)) hx hb d_M_rowTimes_10 (by decide) ?_
  obtain ⟨w2, hw2, hE⟩ := xs_b hE
  refine xs_callVr (pc := 11) (as := [.int (x0), .int ((1 : Int32))]) X (ok_M_entryAt l D ad cs hJ hw2) km_M_36 G (xs_wM ad cs _) rfl ⟨by decide, by decide⟩ ⟨Nat.zero_le _, Nat.zero_le _⟩ rfl hl.1 rfl (Nat.le_of_ble_eq_true rfl) d_M_rowTimes_11 (fun H locs G => ?_)
  refine lv_iload_n (pc := 14) hx hb d_M_rowTimes_14 rfl (lv_at hl 3 rfl) ?_
  refine lv_imul (pc := 15) hx hb d_M_rowTimes_15 ?_
  refine lv_iadd (pc := 16) hx hb d_M_rowTimes_16 ?_
  refine lv_aload_n (pc := 17) hx hb d_M_rowTimes_17 rfl (lv_at hl 0 rfl) ?_
  refine lv_iload_n (pc := 18) hx hb d_M_rowTimes_18 rfl (lv_at hl 1 rfl) ?_
  refine lv_iconst (pc := 19) (v := (2 : Int32)) hx hb d_M_rowTimes_19 (by decide) ?_
  obtain ⟨w3, hw3, hE⟩ := xs_b hE
  refine xs_callVr (pc := 20) (as := [.int (x0), .int ((2 : Int32))]) X (ok_M_entryAt l D ad cs hJ hw3) km_M_36 G (xs_wM ad cs _) rfl ⟨by decide, by decide⟩ ⟨Nat.zero_le _, Nat.zero_le _⟩ rfl hl.1 rfl (Nat.le_of_ble_eq_true rfl) d_M_rowTimes_20 (fun H locs G => ?_)
  refine lv_iload (pc := 23) hx hb d_M_rowTimes_23 (lv_at hl 4 rfl) ?_
  refine lv_imul (pc := 25) hx hb d_M_rowTimes_25 ?_
  refine lv_iadd (pc := 26) hx hb d_M_rowTimes_26 ?_
  refine lv_aload_n (pc := 27) hx hb d_M_rowTimes_27 rfl (lv_at hl 0 rfl) ?_
  refine lv_iload_n (pc := 28) hx hb d_M_rowTimes_28 rfl (lv_at hl 1 rfl) ?_
  refine lv_iconst (pc := 29) (v := (3 : Int32)) hx hb d_M_rowTimes_29 (by decide) ?_
  obtain ⟨w4, hw4, hE⟩ := xs_b hE
  refine xs_callVr (pc := 30) (as := [.int (x0), .int ((3 : Int32))]) X (ok_M_entryAt l D ad cs hJ hw4) km_M_36 G (xs_wM ad cs _) rfl ⟨by decide, by decide⟩ ⟨Nat.zero_le _, Nat.zero_le _⟩ rfl hl.1 rfl (Nat.le_of_ble_eq_true rfl) d_M_rowTimes_30 (fun H locs G => ?_)
  refine lv_iadd (pc := 33) hx hb d_M_rowTimes_33 ?_
  cases hE
  exact xs_iret (pc := 34) hx hb hr hlk G d_M_rowTimes_34
end
section
theorem d_T_setPlace_0 : decode b_T_setPlace 0 = .ok (.aload_n 0, 1) := by decide +kernel
theorem d_T_setPlace_1 : decode b_T_setPlace 1 = .ok (.getfield 11, 3) := by decide +kernel
theorem d_T_setPlace_4 : decode b_T_setPlace 4 = .ok (.iload_n 1, 1) := by decide +kernel
theorem d_T_setPlace_5 : decode b_T_setPlace 5 = .ok (.iconst 4, 1) := by decide +kernel
theorem d_T_setPlace_6 : decode b_T_setPlace 6 = .ok (.imul, 1) := by decide +kernel
theorem d_T_setPlace_7 : decode b_T_setPlace 7 = .ok (.iconst 1, 1) := by decide +kernel
theorem d_T_setPlace_8 : decode b_T_setPlace 8 = .ok (.iadd, 1) := by decide +kernel
theorem d_T_setPlace_9 : decode b_T_setPlace 9 = .ok (.iload_n 2, 1) := by decide +kernel
theorem d_T_setPlace_10 : decode b_T_setPlace 10 = .ok (.i2l, 1) := by decide +kernel
theorem d_T_setPlace_11 : decode b_T_setPlace 11 = .ok (.lastore, 1) := by decide +kernel
theorem d_T_setPlace_12 : decode b_T_setPlace 12 = .ok (.aload_n 0, 1) := by decide +kernel
theorem d_T_setPlace_13 : decode b_T_setPlace 13 = .ok (.getfield 11, 3) := by decide +kernel
theorem d_T_setPlace_16 : decode b_T_setPlace 16 = .ok (.iload_n 1, 1) := by decide +kernel
theorem d_T_setPlace_17 : decode b_T_setPlace 17 = .ok (.iconst 4, 1) := by decide +kernel
theorem d_T_setPlace_18 : decode b_T_setPlace 18 = .ok (.imul, 1) := by decide +kernel
theorem d_T_setPlace_19 : decode b_T_setPlace 19 = .ok (.iconst 2, 1) := by decide +kernel
theorem d_T_setPlace_20 : decode b_T_setPlace 20 = .ok (.iadd, 1) := by decide +kernel
theorem d_T_setPlace_21 : decode b_T_setPlace 21 = .ok (.iload_n 3, 1) := by decide +kernel
theorem d_T_setPlace_22 : decode b_T_setPlace 22 = .ok (.i2l, 1) := by decide +kernel
theorem d_T_setPlace_23 : decode b_T_setPlace 23 = .ok (.lastore, 1) := by decide +kernel
theorem d_T_setPlace_24 : decode b_T_setPlace 24 = .ok (.aload_n 0, 1) := by decide +kernel
theorem d_T_setPlace_25 : decode b_T_setPlace 25 = .ok (.getfield 11, 3) := by decide +kernel
theorem d_T_setPlace_28 : decode b_T_setPlace 28 = .ok (.iload_n 1, 1) := by decide +kernel
theorem d_T_setPlace_29 : decode b_T_setPlace 29 = .ok (.iconst 4, 1) := by decide +kernel
theorem d_T_setPlace_30 : decode b_T_setPlace 30 = .ok (.imul, 1) := by decide +kernel
theorem d_T_setPlace_31 : decode b_T_setPlace 31 = .ok (.iconst 3, 1) := by decide +kernel
theorem d_T_setPlace_32 : decode b_T_setPlace 32 = .ok (.iadd, 1) := by decide +kernel
theorem d_T_setPlace_33 : decode b_T_setPlace 33 = .ok (.iload 4, 2) := by decide +kernel
theorem d_T_setPlace_35 : decode b_T_setPlace 35 = .ok (.i2l, 1) := by decide +kernel
theorem d_T_setPlace_36 : decode b_T_setPlace 36 = .ok (.lastore, 1) := by decide +kernel
theorem d_T_setPlace_37 : decode b_T_setPlace 37 = .ok (.return_, 1) := by decide +kernel
theorem d_T_setRest_0 : decode b_T_setRest 0 = .ok (.aload_n 0, 1) := by decide +kernel
theorem d_T_setRest_1 : decode b_T_setRest 1 = .ok (.getfield 11, 3) := by decide +kernel
theorem d_T_setRest_4 : decode b_T_setRest 4 = .ok (.iload_n 1, 1) := by decide +kernel
theorem d_T_setRest_5 : decode b_T_setRest 5 = .ok (.iconst 4, 1) := by decide +kernel
theorem d_T_setRest_6 : decode b_T_setRest 6 = .ok (.imul, 1) := by decide +kernel
theorem d_T_setRest_7 : decode b_T_setRest 7 = .ok (.iconst 4, 1) := by decide +kernel
theorem d_T_setRest_8 : decode b_T_setRest 8 = .ok (.iadd, 1) := by decide +kernel
theorem d_T_setRest_9 : decode b_T_setRest 9 = .ok (.iload_n 2, 1) := by decide +kernel
theorem d_T_setRest_10 : decode b_T_setRest 10 = .ok (.i2l, 1) := by decide +kernel
theorem d_T_setRest_11 : decode b_T_setRest 11 = .ok (.lastore, 1) := by decide +kernel
theorem d_T_setRest_12 : decode b_T_setRest 12 = .ok (.aload_n 0, 1) := by decide +kernel
theorem d_T_setRest_13 : decode b_T_setRest 13 = .ok (.getfield 15, 3) := by decide +kernel
theorem d_T_setRest_16 : decode b_T_setRest 16 = .ok (.iload_n 1, 1) := by decide +kernel
theorem d_T_setRest_17 : decode b_T_setRest 17 = .ok (.iload_n 3, 1) := by decide +kernel
theorem d_T_setRest_18 : decode b_T_setRest 18 = .ok (.iastore, 1) := by decide +kernel
theorem d_T_setRest_19 : decode b_T_setRest 19 = .ok (.aload_n 0, 1) := by decide +kernel
theorem d_T_setRest_20 : decode b_T_setRest 20 = .ok (.getfield 19, 3) := by decide +kernel
theorem d_T_setRest_23 : decode b_T_setRest 23 = .ok (.iload_n 1, 1) := by decide +kernel
theorem d_T_setRest_24 : decode b_T_setRest 24 = .ok (.iload 4, 2) := by decide +kernel
theorem d_T_setRest_26 : decode b_T_setRest 26 = .ok (.iastore, 1) := by decide +kernel
theorem d_T_setRest_27 : decode b_T_setRest 27 = .ok (.return_, 1) := by decide +kernel
theorem d_T_placeQ_0 : decode b_T_placeQ 0 = .ok (.aload_n 0, 1) := by decide +kernel
theorem d_T_placeQ_1 : decode b_T_placeQ 1 = .ok (.getfield 11, 3) := by decide +kernel
theorem d_T_placeQ_4 : decode b_T_placeQ 4 = .ok (.iload_n 1, 1) := by decide +kernel
theorem d_T_placeQ_5 : decode b_T_placeQ 5 = .ok (.iconst 4, 1) := by decide +kernel
theorem d_T_placeQ_6 : decode b_T_placeQ 6 = .ok (.imul, 1) := by decide +kernel
theorem d_T_placeQ_7 : decode b_T_placeQ 7 = .ok (.iconst 2, 1) := by decide +kernel
theorem d_T_placeQ_8 : decode b_T_placeQ 8 = .ok (.iadd, 1) := by decide +kernel
theorem d_T_placeQ_9 : decode b_T_placeQ 9 = .ok (.laload, 1) := by decide +kernel
theorem d_T_placeQ_10 : decode b_T_placeQ 10 = .ok (.lreturn, 1) := by decide +kernel
theorem d_T_placeW_0 : decode b_T_placeW 0 = .ok (.aload_n 0, 1) := by decide +kernel
theorem d_T_placeW_1 : decode b_T_placeW 1 = .ok (.getfield 11, 3) := by decide +kernel
theorem d_T_placeW_4 : decode b_T_placeW 4 = .ok (.iload_n 1, 1) := by decide +kernel
theorem d_T_placeW_5 : decode b_T_placeW 5 = .ok (.iconst 4, 1) := by decide +kernel
theorem d_T_placeW_6 : decode b_T_placeW 6 = .ok (.imul, 1) := by decide +kernel
theorem d_T_placeW_7 : decode b_T_placeW 7 = .ok (.iconst 3, 1) := by decide +kernel
theorem d_T_placeW_8 : decode b_T_placeW 8 = .ok (.iadd, 1) := by decide +kernel
theorem d_T_placeW_9 : decode b_T_placeW 9 = .ok (.laload, 1) := by decide +kernel
theorem d_T_placeW_10 : decode b_T_placeW 10 = .ok (.lreturn, 1) := by decide +kernel
theorem d_T_placeP_0 : decode b_T_placeP 0 = .ok (.aload_n 0, 1) := by decide +kernel
theorem d_T_placeP_1 : decode b_T_placeP 1 = .ok (.getfield 11, 3) := by decide +kernel
theorem d_T_placeP_4 : decode b_T_placeP 4 = .ok (.iload_n 1, 1) := by decide +kernel
theorem d_T_placeP_5 : decode b_T_placeP 5 = .ok (.iconst 4, 1) := by decide +kernel
theorem d_T_placeP_6 : decode b_T_placeP 6 = .ok (.imul, 1) := by decide +kernel
theorem d_T_placeP_7 : decode b_T_placeP 7 = .ok (.iconst 1, 1) := by decide +kernel
theorem d_T_placeP_8 : decode b_T_placeP 8 = .ok (.iadd, 1) := by decide +kernel
theorem d_T_placeP_9 : decode b_T_placeP 9 = .ok (.laload, 1) := by decide +kernel
theorem d_T_placeP_10 : decode b_T_placeP 10 = .ok (.lreturn, 1) := by decide +kernel
theorem d_T_setEdge_0 : decode b_T_setEdge 0 = .ok (.aload_n 0, 1) := by decide +kernel
theorem d_T_setEdge_1 : decode b_T_setEdge 1 = .ok (.getfield 22, 3) := by decide +kernel
theorem d_T_setEdge_4 : decode b_T_setEdge 4 = .ok (.iload_n 1, 1) := by decide +kernel
theorem d_T_setEdge_5 : decode b_T_setEdge 5 = .ok (.aload_n 0, 1) := by decide +kernel
theorem d_T_setEdge_6 : decode b_T_setEdge 6 = .ok (.iload_n 2, 1) := by decide +kernel
theorem d_T_setEdge_7 : decode b_T_setEdge 7 = .ok (.invokevirtual 49, 3) := by decide +kernel
theorem d_T_setEdge_10 : decode b_T_setEdge 10 = .ok (.aload_n 0, 1) := by decide +kernel
theorem d_T_setEdge_11 : decode b_T_setEdge 11 = .ok (.iload_n 3, 1) := by decide +kernel
theorem d_T_setEdge_12 : decode b_T_setEdge 12 = .ok (.invokevirtual 52, 3) := by decide +kernel
theorem d_T_setEdge_15 : decode b_T_setEdge 15 = .ok (.lmul, 1) := by decide +kernel
theorem d_T_setEdge_16 : decode b_T_setEdge 16 = .ok (.aload_n 0, 1) := by decide +kernel
theorem d_T_setEdge_17 : decode b_T_setEdge 17 = .ok (.iload_n 2, 1) := by decide +kernel
theorem d_T_setEdge_18 : decode b_T_setEdge 18 = .ok (.invokevirtual 52, 3) := by decide +kernel
theorem d_T_setEdge_21 : decode b_T_setEdge 21 = .ok (.aload_n 0, 1) := by decide +kernel
theorem d_T_setEdge_22 : decode b_T_setEdge 22 = .ok (.iload_n 3, 1) := by decide +kernel
theorem d_T_setEdge_23 : decode b_T_setEdge 23 = .ok (.invokevirtual 49, 3) := by decide +kernel
theorem d_T_setEdge_26 : decode b_T_setEdge 26 = .ok (.lmul, 1) := by decide +kernel
theorem d_T_setEdge_27 : decode b_T_setEdge 27 = .ok (.lsub, 1) := by decide +kernel
theorem d_T_setEdge_28 : decode b_T_setEdge 28 = .ok (.lastore, 1) := by decide +kernel
theorem d_T_setEdge_29 : decode b_T_setEdge 29 = .ok (.aload_n 0, 1) := by decide +kernel
theorem d_T_setEdge_30 : decode b_T_setEdge 30 = .ok (.getfield 25, 3) := by decide +kernel
theorem d_T_setEdge_33 : decode b_T_setEdge 33 = .ok (.iload_n 1, 1) := by decide +kernel
theorem d_T_setEdge_34 : decode b_T_setEdge 34 = .ok (.aload_n 0, 1) := by decide +kernel
theorem d_T_setEdge_35 : decode b_T_setEdge 35 = .ok (.iload_n 2, 1) := by decide +kernel
theorem d_T_setEdge_36 : decode b_T_setEdge 36 = .ok (.invokevirtual 52, 3) := by decide +kernel
theorem d_T_setEdge_39 : decode b_T_setEdge 39 = .ok (.aload_n 0, 1) := by decide +kernel
theorem d_T_setEdge_40 : decode b_T_setEdge 40 = .ok (.iload_n 3, 1) := by decide +kernel
theorem d_T_setEdge_41 : decode b_T_setEdge 41 = .ok (.invokevirtual 45, 3) := by decide +kernel
theorem d_T_setEdge_44 : decode b_T_setEdge 44 = .ok (.lmul, 1) := by decide +kernel
theorem d_T_setEdge_45 : decode b_T_setEdge 45 = .ok (.aload_n 0, 1) := by decide +kernel
theorem d_T_setEdge_46 : decode b_T_setEdge 46 = .ok (.iload_n 2, 1) := by decide +kernel
theorem d_T_setEdge_47 : decode b_T_setEdge 47 = .ok (.invokevirtual 45, 3) := by decide +kernel
theorem d_T_setEdge_50 : decode b_T_setEdge 50 = .ok (.aload_n 0, 1) := by decide +kernel
theorem d_T_setEdge_51 : decode b_T_setEdge 51 = .ok (.iload_n 3, 1) := by decide +kernel
theorem d_T_setEdge_52 : decode b_T_setEdge 52 = .ok (.invokevirtual 52, 3) := by decide +kernel
theorem d_T_setEdge_55 : decode b_T_setEdge 55 = .ok (.lmul, 1) := by decide +kernel
theorem d_T_setEdge_56 : decode b_T_setEdge 56 = .ok (.lsub, 1) := by decide +kernel
theorem d_T_setEdge_57 : decode b_T_setEdge 57 = .ok (.lastore, 1) := by decide +kernel
theorem d_T_setEdge_58 : decode b_T_setEdge 58 = .ok (.aload_n 0, 1) := by decide +kernel
theorem d_T_setEdge_59 : decode b_T_setEdge 59 = .ok (.getfield 28, 3) := by decide +kernel
theorem d_T_setEdge_62 : decode b_T_setEdge 62 = .ok (.iload_n 1, 1) := by decide +kernel
theorem d_T_setEdge_63 : decode b_T_setEdge 63 = .ok (.aload_n 0, 1) := by decide +kernel
theorem d_T_setEdge_64 : decode b_T_setEdge 64 = .ok (.iload_n 2, 1) := by decide +kernel
theorem d_T_setEdge_65 : decode b_T_setEdge 65 = .ok (.invokevirtual 45, 3) := by decide +kernel
theorem d_T_setEdge_68 : decode b_T_setEdge 68 = .ok (.aload_n 0, 1) := by decide +kernel
theorem d_T_setEdge_69 : decode b_T_setEdge 69 = .ok (.iload_n 3, 1) := by decide +kernel
theorem d_T_setEdge_70 : decode b_T_setEdge 70 = .ok (.invokevirtual 49, 3) := by decide +kernel
theorem d_T_setEdge_73 : decode b_T_setEdge 73 = .ok (.lmul, 1) := by decide +kernel
theorem d_T_setEdge_74 : decode b_T_setEdge 74 = .ok (.aload_n 0, 1) := by decide +kernel
theorem d_T_setEdge_75 : decode b_T_setEdge 75 = .ok (.iload_n 2, 1) := by decide +kernel
theorem d_T_setEdge_76 : decode b_T_setEdge 76 = .ok (.invokevirtual 49, 3) := by decide +kernel
theorem d_T_setEdge_79 : decode b_T_setEdge 79 = .ok (.aload_n 0, 1) := by decide +kernel
theorem d_T_setEdge_80 : decode b_T_setEdge 80 = .ok (.iload_n 3, 1) := by decide +kernel
theorem d_T_setEdge_81 : decode b_T_setEdge 81 = .ok (.invokevirtual 45, 3) := by decide +kernel
theorem d_T_setEdge_84 : decode b_T_setEdge 84 = .ok (.lmul, 1) := by decide +kernel
theorem d_T_setEdge_85 : decode b_T_setEdge 85 = .ok (.lsub, 1) := by decide +kernel
theorem d_T_setEdge_86 : decode b_T_setEdge 86 = .ok (.lastore, 1) := by decide +kernel
theorem d_T_setEdge_87 : decode b_T_setEdge 87 = .ok (.return_, 1) := by decide +kernel
theorem d_T_turnToNegatives_0 : decode b_T_turnToNegatives 0 = .ok (.aload_n 0, 1) := by decide +kernel
theorem d_T_turnToNegatives_1 : decode b_T_turnToNegatives 1 = .ok (.aload_n 0, 1) := by decide +kernel
theorem d_T_turnToNegatives_2 : decode b_T_turnToNegatives 2 = .ok (.getfield 55, 3) := by decide +kernel
theorem d_T_turnToNegatives_5 : decode b_T_turnToNegatives 5 = .ok (.lneg, 1) := by decide +kernel
theorem d_T_turnToNegatives_6 : decode b_T_turnToNegatives 6 = .ok (.putfield 55, 3) := by decide +kernel
theorem d_T_turnToNegatives_9 : decode b_T_turnToNegatives 9 = .ok (.iconst 0, 1) := by decide +kernel
theorem d_T_turnToNegatives_10 : decode b_T_turnToNegatives 10 = .ok (.istore_n 1, 1) := by decide +kernel
theorem d_T_turnToNegatives_11 : decode b_T_turnToNegatives 11 = .ok (.iload_n 1, 1) := by decide +kernel
theorem d_T_turnToNegatives_12 : decode b_T_turnToNegatives 12 = .ok (.iconst 3, 1) := by decide +kernel
theorem d_T_turnToNegatives_13 : decode b_T_turnToNegatives 13 = .ok (.if_icmp .ge (48), 3) := by decide +kernel
theorem d_T_turnToNegatives_16 : decode b_T_turnToNegatives 16 = .ok (.aload_n 0, 1) := by decide +kernel
theorem d_T_turnToNegatives_17 : decode b_T_turnToNegatives 17 = .ok (.getfield 22, 3) := by decide +kernel
theorem d_T_turnToNegatives_20 : decode b_T_turnToNegatives 20 = .ok (.iload_n 1, 1) := by decide +kernel
theorem d_T_turnToNegatives_21 : decode b_T_turnToNegatives 21 = .ok (.aload_n 0, 1) := by decide +kernel
theorem d_T_turnToNegatives_22 : decode b_T_turnToNegatives 22 = .ok (.getfield 22, 3) := by decide +kernel
theorem d_T_turnToNegatives_25 : decode b_T_turnToNegatives 25 = .ok (.iload_n 1, 1) := by decide +kernel
theorem d_T_turnToNegatives_26 : decode b_T_turnToNegatives 26 = .ok (.laload, 1) := by decide +kernel
theorem d_T_turnToNegatives_27 : decode b_T_turnToNegatives 27 = .ok (.lneg, 1) := by decide +kernel
theorem d_T_turnToNegatives_28 : decode b_T_turnToNegatives 28 = .ok (.lastore, 1) := by decide +kernel
theorem d_T_turnToNegatives_29 : decode b_T_turnToNegatives 29 = .ok (.aload_n 0, 1) := by decide +kernel
theorem d_T_turnToNegatives_30 : decode b_T_turnToNegatives 30 = .ok (.getfield 25, 3) := by decide +kernel
theorem d_T_turnToNegatives_33 : decode b_T_turnToNegatives 33 = .ok (.iload_n 1, 1) := by decide +kernel
theorem d_T_turnToNegatives_34 : decode b_T_turnToNegatives 34 = .ok (.aload_n 0, 1) := by decide +kernel
theorem d_T_turnToNegatives_35 : decode b_T_turnToNegatives 35 = .ok (.getfield 25, 3) := by decide +kernel
theorem d_T_turnToNegatives_38 : decode b_T_turnToNegatives 38 = .ok (.iload_n 1, 1) := by decide +kernel
theorem d_T_turnToNegatives_39 : decode b_T_turnToNegatives 39 = .ok (.laload, 1) := by decide +kernel
theorem d_T_turnToNegatives_40 : decode b_T_turnToNegatives 40 = .ok (.lneg, 1) := by decide +kernel
theorem d_T_turnToNegatives_41 : decode b_T_turnToNegatives 41 = .ok (.lastore, 1) := by decide +kernel
theorem d_T_turnToNegatives_42 : decode b_T_turnToNegatives 42 = .ok (.aload_n 0, 1) := by decide +kernel
theorem d_T_turnToNegatives_43 : decode b_T_turnToNegatives 43 = .ok (.getfield 28, 3) := by decide +kernel
theorem d_T_turnToNegatives_46 : decode b_T_turnToNegatives 46 = .ok (.iload_n 1, 1) := by decide +kernel
theorem d_T_turnToNegatives_47 : decode b_T_turnToNegatives 47 = .ok (.aload_n 0, 1) := by decide +kernel
theorem d_T_turnToNegatives_48 : decode b_T_turnToNegatives 48 = .ok (.getfield 28, 3) := by decide +kernel
theorem d_T_turnToNegatives_51 : decode b_T_turnToNegatives 51 = .ok (.iload_n 1, 1) := by decide +kernel
theorem d_T_turnToNegatives_52 : decode b_T_turnToNegatives 52 = .ok (.laload, 1) := by decide +kernel
theorem d_T_turnToNegatives_53 : decode b_T_turnToNegatives 53 = .ok (.lneg, 1) := by decide +kernel
theorem d_T_turnToNegatives_54 : decode b_T_turnToNegatives 54 = .ok (.lastore, 1) := by decide +kernel
theorem d_T_turnToNegatives_55 : decode b_T_turnToNegatives 55 = .ok (.iinc 1 (1), 3) := by decide +kernel
theorem d_T_turnToNegatives_58 : decode b_T_turnToNegatives 58 = .ok (.goto (-47), 3) := by decide +kernel
theorem d_T_turnToNegatives_61 : decode b_T_turnToNegatives 61 = .ok (.return_, 1) := by decide +kernel
theorem d_T_complete_0 : decode b_T_complete 0 = .ok (.aload_n 0, 1) := by decide +kernel
theorem d_T_complete_1 : decode b_T_complete 1 = .ok (.iload_n 1, 1) := by decide +kernel
theorem d_T_complete_2 : decode b_T_complete 2 = .ok (.putfield 31, 3) := by decide +kernel
theorem d_T_complete_5 : decode b_T_complete 5 = .ok (.aload_n 0, 1) := by decide +kernel
theorem d_T_complete_6 : decode b_T_complete 6 = .ok (.iload_n 2, 1) := by decide +kernel
theorem d_T_complete_7 : decode b_T_complete 7 = .ok (.putfield 35, 3) := by decide +kernel
theorem d_T_complete_10 : decode b_T_complete 10 = .ok (.aload_n 0, 1) := by decide +kernel
theorem d_T_complete_11 : decode b_T_complete 11 = .ok (.iload_n 3, 1) := by decide +kernel
theorem d_T_complete_12 : decode b_T_complete 12 = .ok (.putfield 38, 3) := by decide +kernel
theorem d_T_complete_15 : decode b_T_complete 15 = .ok (.iconst 0, 1) := by decide +kernel
theorem d_T_complete_16 : decode b_T_complete 16 = .ok (.istore 4, 2) := by decide +kernel
theorem d_T_complete_18 : decode b_T_complete 18 = .ok (.iload 4, 2) := by decide +kernel
theorem d_T_complete_20 : decode b_T_complete 20 = .ok (.iconst 3, 1) := by decide +kernel
theorem d_T_complete_21 : decode b_T_complete 21 = .ok (.if_icmp .ge (27), 3) := by decide +kernel
theorem d_T_complete_24 : decode b_T_complete 24 = .ok (.aload_n 0, 1) := by decide +kernel
theorem d_T_complete_25 : decode b_T_complete 25 = .ok (.iload 4, 2) := by decide +kernel
theorem d_T_complete_27 : decode b_T_complete 27 = .ok (.iload 4, 2) := by decide +kernel
theorem d_T_complete_29 : decode b_T_complete 29 = .ok (.iconst 1, 1) := by decide +kernel
theorem d_T_complete_30 : decode b_T_complete 30 = .ok (.iadd, 1) := by decide +kernel
theorem d_T_complete_31 : decode b_T_complete 31 = .ok (.iconst 3, 1) := by decide +kernel
theorem d_T_complete_32 : decode b_T_complete 32 = .ok (.irem, 1) := by decide +kernel
theorem d_T_complete_33 : decode b_T_complete 33 = .ok (.iload 4, 2) := by decide +kernel
theorem d_T_complete_35 : decode b_T_complete 35 = .ok (.iconst 2, 1) := by decide +kernel
theorem d_T_complete_36 : decode b_T_complete 36 = .ok (.iadd, 1) := by decide +kernel
theorem d_T_complete_37 : decode b_T_complete 37 = .ok (.iconst 3, 1) := by decide +kernel
theorem d_T_complete_38 : decode b_T_complete 38 = .ok (.irem, 1) := by decide +kernel
theorem d_T_complete_39 : decode b_T_complete 39 = .ok (.invokevirtual 41, 3) := by decide +kernel
theorem d_T_complete_42 : decode b_T_complete 42 = .ok (.iinc 4 (1), 3) := by decide +kernel
theorem d_T_complete_45 : decode b_T_complete 45 = .ok (.goto (-27), 3) := by decide +kernel
theorem d_T_complete_48 : decode b_T_complete 48 = .ok (.aload_n 0, 1) := by decide +kernel
theorem d_T_complete_49 : decode b_T_complete 49 = .ok (.getfield 11, 3) := by decide +kernel
theorem d_T_complete_52 : decode b_T_complete 52 = .ok (.iconst 0, 1) := by decide +kernel
theorem d_T_complete_53 : decode b_T_complete 53 = .ok (.aload_n 0, 1) := by decide +kernel
theorem d_T_complete_54 : decode b_T_complete 54 = .ok (.iconst 0, 1) := by decide +kernel
theorem d_T_complete_55 : decode b_T_complete 55 = .ok (.invokevirtual 45, 3) := by decide +kernel
theorem d_T_complete_58 : decode b_T_complete 58 = .ok (.aload_n 0, 1) := by decide +kernel
theorem d_T_complete_59 : decode b_T_complete 59 = .ok (.getfield 22, 3) := by decide +kernel
theorem d_T_complete_62 : decode b_T_complete 62 = .ok (.iconst 0, 1) := by decide +kernel
theorem d_T_complete_63 : decode b_T_complete 63 = .ok (.laload, 1) := by decide +kernel
theorem d_T_complete_64 : decode b_T_complete 64 = .ok (.lmul, 1) := by decide +kernel
theorem d_T_complete_65 : decode b_T_complete 65 = .ok (.aload_n 0, 1) := by decide +kernel
theorem d_T_complete_66 : decode b_T_complete 66 = .ok (.iconst 0, 1) := by decide +kernel
theorem d_T_complete_67 : decode b_T_complete 67 = .ok (.invokevirtual 49, 3) := by decide +kernel
theorem d_T_complete_70 : decode b_T_complete 70 = .ok (.aload_n 0, 1) := by decide +kernel
theorem d_T_complete_71 : decode b_T_complete 71 = .ok (.getfield 25, 3) := by decide +kernel
theorem d_T_complete_74 : decode b_T_complete 74 = .ok (.iconst 0, 1) := by decide +kernel
theorem d_T_complete_75 : decode b_T_complete 75 = .ok (.laload, 1) := by decide +kernel
theorem d_T_complete_76 : decode b_T_complete 76 = .ok (.lmul, 1) := by decide +kernel
theorem d_T_complete_77 : decode b_T_complete 77 = .ok (.ladd, 1) := by decide +kernel
theorem d_T_complete_78 : decode b_T_complete 78 = .ok (.aload_n 0, 1) := by decide +kernel
theorem d_T_complete_79 : decode b_T_complete 79 = .ok (.iconst 0, 1) := by decide +kernel
theorem d_T_complete_80 : decode b_T_complete 80 = .ok (.invokevirtual 52, 3) := by decide +kernel
theorem d_T_complete_83 : decode b_T_complete 83 = .ok (.aload_n 0, 1) := by decide +kernel
theorem d_T_complete_84 : decode b_T_complete 84 = .ok (.getfield 28, 3) := by decide +kernel
theorem d_T_complete_87 : decode b_T_complete 87 = .ok (.iconst 0, 1) := by decide +kernel
theorem d_T_complete_88 : decode b_T_complete 88 = .ok (.laload, 1) := by decide +kernel
theorem d_T_complete_89 : decode b_T_complete 89 = .ok (.lmul, 1) := by decide +kernel
theorem d_T_complete_90 : decode b_T_complete 90 = .ok (.ladd, 1) := by decide +kernel
theorem d_T_complete_91 : decode b_T_complete 91 = .ok (.lastore, 1) := by decide +kernel
theorem d_T_complete_92 : decode b_T_complete 92 = .ok (.aload_n 0, 1) := by decide +kernel
theorem d_T_complete_93 : decode b_T_complete 93 = .ok (.aload_n 0, 1) := by decide +kernel
theorem d_T_complete_94 : decode b_T_complete 94 = .ok (.getfield 11, 3) := by decide +kernel
theorem d_T_complete_97 : decode b_T_complete 97 = .ok (.iconst 0, 1) := by decide +kernel
theorem d_T_complete_98 : decode b_T_complete 98 = .ok (.laload, 1) := by decide +kernel
theorem d_T_complete_99 : decode b_T_complete 99 = .ok (.putfield 55, 3) := by decide +kernel
theorem d_T_complete_102 : decode b_T_complete 102 = .ok (.aload_n 0, 1) := by decide +kernel
theorem d_T_complete_103 : decode b_T_complete 103 = .ok (.getfield 55, 3) := by decide +kernel
theorem d_T_complete_106 : decode b_T_complete 106 = .ok (.lconst 0, 1) := by decide +kernel
theorem d_T_complete_107 : decode b_T_complete 107 = .ok (.lcmp, 1) := by decide +kernel
theorem d_T_complete_108 : decode b_T_complete 108 = .ok (.ifCond .ge (7), 3) := by decide +kernel
theorem d_T_complete_111 : decode b_T_complete 111 = .ok (.aload_n 0, 1) := by decide +kernel
theorem d_T_complete_112 : decode b_T_complete 112 = .ok (.invokevirtual 59, 3) := by decide +kernel
theorem d_T_complete_115 : decode b_T_complete 115 = .ok (.return_, 1) := by decide +kernel
theorem d_T_isShown_0 : decode b_T_isShown 0 = .ok (.aload_n 0, 1) := by decide +kernel
theorem d_T_isShown_1 : decode b_T_isShown 1 = .ok (.getfield 55, 3) := by decide +kernel
theorem d_T_isShown_4 : decode b_T_isShown 4 = .ok (.lconst 0, 1) := by decide +kernel
theorem d_T_isShown_5 : decode b_T_isShown 5 = .ok (.lcmp, 1) := by decide +kernel
theorem d_T_isShown_6 : decode b_T_isShown 6 = .ok (.ifCond .ne (5), 3) := by decide +kernel
theorem d_T_isShown_9 : decode b_T_isShown 9 = .ok (.iconst 0, 1) := by decide +kernel
theorem d_T_isShown_10 : decode b_T_isShown 10 = .ok (.ireturn, 1) := by decide +kernel
theorem d_T_isShown_11 : decode b_T_isShown 11 = .ok (.aload_n 0, 1) := by decide +kernel
theorem d_T_isShown_12 : decode b_T_isShown 12 = .ok (.getfield 38, 3) := by decide +kernel
theorem d_T_isShown_15 : decode b_T_isShown 15 = .ok (.ifCond .eq (26), 3) := by decide +kernel
theorem d_T_isShown_18 : decode b_T_isShown 18 = .ok (.aload_n 0, 1) := by decide +kernel
theorem d_T_isShown_19 : decode b_T_isShown 19 = .ok (.getfield 38, 3) := by decide +kernel
theorem d_T_isShown_22 : decode b_T_isShown 22 = .ok (.aload_n 0, 1) := by decide +kernel
theorem d_T_isShown_23 : decode b_T_isShown 23 = .ok (.getfield 11, 3) := by decide +kernel
theorem d_T_isShown_26 : decode b_T_isShown 26 = .ok (.iconst 0, 1) := by decide +kernel
theorem d_T_isShown_27 : decode b_T_isShown 27 = .ok (.laload, 1) := by decide +kernel
theorem d_T_isShown_28 : decode b_T_isShown 28 = .ok (.lconst 0, 1) := by decide +kernel
theorem d_T_isShown_29 : decode b_T_isShown 29 = .ok (.lcmp, 1) := by decide +kernel
theorem d_T_isShown_30 : decode b_T_isShown 30 = .ok (.ifCond .le (7), 3) := by decide +kernel
theorem d_T_isShown_33 : decode b_T_isShown 33 = .ok (.iconst 1, 1) := by decide +kernel
theorem d_T_isShown_34 : decode b_T_isShown 34 = .ok (.goto (4), 3) := by decide +kernel
theorem d_T_isShown_37 : decode b_T_isShown 37 = .ok (.iconst 2, 1) := by decide +kernel
theorem d_T_isShown_38 : decode b_T_isShown 38 = .ok (.if_icmp .ne (7), 3) := by decide +kernel
theorem d_T_isShown_41 : decode b_T_isShown 41 = .ok (.iconst 1, 1) := by decide +kernel
theorem d_T_isShown_42 : decode b_T_isShown 42 = .ok (.goto (4), 3) := by decide +kernel
theorem d_T_isShown_45 : decode b_T_isShown 45 = .ok (.iconst 0, 1) := by decide +kernel
theorem d_T_isShown_46 : decode b_T_isShown 46 = .ok (.ireturn, 1) := by decide +kernel
theorem d_T_weightAt_0 : decode b_T_weightAt 0 = .ok (.aload_n 0, 1) := by decide +kernel
theorem d_T_weightAt_1 : decode b_T_weightAt 1 = .ok (.getfield 22, 3) := by decide +kernel
theorem d_T_weightAt_4 : decode b_T_weightAt 4 = .ok (.iload_n 1, 1) := by decide +kernel
theorem d_T_weightAt_5 : decode b_T_weightAt 5 = .ok (.laload, 1) := by decide +kernel
theorem d_T_weightAt_6 : decode b_T_weightAt 6 = .ok (.iconst 2, 1) := by decide +kernel
theorem d_T_weightAt_7 : decode b_T_weightAt 7 = .ok (.iload_n 2, 1) := by decide +kernel
theorem d_T_weightAt_8 : decode b_T_weightAt 8 = .ok (.imul, 1) := by decide +kernel
theorem d_T_weightAt_9 : decode b_T_weightAt 9 = .ok (.iconst 1, 1) := by decide +kernel
theorem d_T_weightAt_10 : decode b_T_weightAt 10 = .ok (.iadd, 1) := by decide +kernel
theorem d_T_weightAt_11 : decode b_T_weightAt 11 = .ok (.i2l, 1) := by decide +kernel
theorem d_T_weightAt_12 : decode b_T_weightAt 12 = .ok (.lmul, 1) := by decide +kernel
theorem d_T_weightAt_13 : decode b_T_weightAt 13 = .ok (.aload_n 0, 1) := by decide +kernel
theorem d_T_weightAt_14 : decode b_T_weightAt 14 = .ok (.getfield 25, 3) := by decide +kernel
theorem d_T_weightAt_17 : decode b_T_weightAt 17 = .ok (.iload_n 1, 1) := by decide +kernel
theorem d_T_weightAt_18 : decode b_T_weightAt 18 = .ok (.laload, 1) := by decide +kernel
theorem d_T_weightAt_19 : decode b_T_weightAt 19 = .ok (.iconst 2, 1) := by decide +kernel
theorem d_T_weightAt_20 : decode b_T_weightAt 20 = .ok (.iload_n 3, 1) := by decide +kernel
theorem d_T_weightAt_21 : decode b_T_weightAt 21 = .ok (.imul, 1) := by decide +kernel
theorem d_T_weightAt_22 : decode b_T_weightAt 22 = .ok (.iconst 1, 1) := by decide +kernel
theorem d_T_weightAt_23 : decode b_T_weightAt 23 = .ok (.iadd, 1) := by decide +kernel
theorem d_T_weightAt_24 : decode b_T_weightAt 24 = .ok (.i2l, 1) := by decide +kernel
theorem d_T_weightAt_25 : decode b_T_weightAt 25 = .ok (.lmul, 1) := by decide +kernel
theorem d_T_weightAt_26 : decode b_T_weightAt 26 = .ok (.ladd, 1) := by decide +kernel
theorem d_T_weightAt_27 : decode b_T_weightAt 27 = .ok (.aload_n 0, 1) := by decide +kernel
theorem d_T_weightAt_28 : decode b_T_weightAt 28 = .ok (.getfield 28, 3) := by decide +kernel
theorem d_T_weightAt_31 : decode b_T_weightAt 31 = .ok (.iload_n 1, 1) := by decide +kernel
theorem d_T_weightAt_32 : decode b_T_weightAt 32 = .ok (.laload, 1) := by decide +kernel
theorem d_T_weightAt_33 : decode b_T_weightAt 33 = .ok (.ladd, 1) := by decide +kernel
theorem d_T_weightAt_34 : decode b_T_weightAt 34 = .ok (.lreturn, 1) := by decide +kernel
theorem d_T_ownsItsEdge_0 : decode b_T_ownsItsEdge 0 = .ok (.aload_n 0, 1) := by decide +kernel
theorem d_T_ownsItsEdge_1 : decode b_T_ownsItsEdge 1 = .ok (.getfield 22, 3) := by decide +kernel
theorem d_T_ownsItsEdge_4 : decode b_T_ownsItsEdge 4 = .ok (.iload_n 1, 1) := by decide +kernel
theorem d_T_ownsItsEdge_5 : decode b_T_ownsItsEdge 5 = .ok (.laload, 1) := by decide +kernel
theorem d_T_ownsItsEdge_6 : decode b_T_ownsItsEdge 6 = .ok (.lconst 0, 1) := by decide +kernel
theorem d_T_ownsItsEdge_7 : decode b_T_ownsItsEdge 7 = .ok (.lcmp, 1) := by decide +kernel
theorem d_T_ownsItsEdge_8 : decode b_T_ownsItsEdge 8 = .ok (.ifCond .gt (25), 3) := by decide +kernel
theorem d_T_ownsItsEdge_11 : decode b_T_ownsItsEdge 11 = .ok (.aload_n 0, 1) := by decide +kernel
theorem d_T_ownsItsEdge_12 : decode b_T_ownsItsEdge 12 = .ok (.getfield 22, 3) := by decide +kernel
theorem d_T_ownsItsEdge_15 : decode b_T_ownsItsEdge 15 = .ok (.iload_n 1, 1) := by decide +kernel
theorem d_T_ownsItsEdge_16 : decode b_T_ownsItsEdge 16 = .ok (.laload, 1) := by decide +kernel
theorem d_T_ownsItsEdge_17 : decode b_T_ownsItsEdge 17 = .ok (.lconst 0, 1) := by decide +kernel
theorem d_T_ownsItsEdge_18 : decode b_T_ownsItsEdge 18 = .ok (.lcmp, 1) := by decide +kernel
theorem d_T_ownsItsEdge_19 : decode b_T_ownsItsEdge 19 = .ok (.ifCond .ne (18), 3) := by decide +kernel
theorem d_T_ownsItsEdge_22 : decode b_T_ownsItsEdge 22 = .ok (.aload_n 0, 1) := by decide +kernel
theorem d_T_ownsItsEdge_23 : decode b_T_ownsItsEdge 23 = .ok (.getfield 25, 3) := by decide +kernel
theorem d_T_ownsItsEdge_26 : decode b_T_ownsItsEdge 26 = .ok (.iload_n 1, 1) := by decide +kernel
theorem d_T_ownsItsEdge_27 : decode b_T_ownsItsEdge 27 = .ok (.laload, 1) := by decide +kernel
theorem d_T_ownsItsEdge_28 : decode b_T_ownsItsEdge 28 = .ok (.lconst 0, 1) := by decide +kernel
theorem d_T_ownsItsEdge_29 : decode b_T_ownsItsEdge 29 = .ok (.lcmp, 1) := by decide +kernel
theorem d_T_ownsItsEdge_30 : decode b_T_ownsItsEdge 30 = .ok (.ifCond .le (7), 3) := by decide +kernel
theorem d_T_ownsItsEdge_33 : decode b_T_ownsItsEdge 33 = .ok (.iconst 1, 1) := by decide +kernel
theorem d_T_ownsItsEdge_34 : decode b_T_ownsItsEdge 34 = .ok (.goto (4), 3) := by decide +kernel
theorem d_T_ownsItsEdge_37 : decode b_T_ownsItsEdge 37 = .ok (.iconst 0, 1) := by decide +kernel
theorem d_T_ownsItsEdge_38 : decode b_T_ownsItsEdge 38 = .ok (.ireturn, 1) := by decide +kernel
theorem d_T_covers_0 : decode b_T_covers 0 = .ok (.iconst 0, 1) := by decide +kernel
theorem d_T_covers_1 : decode b_T_covers 1 = .ok (.istore_n 3, 1) := by decide +kernel
theorem d_T_covers_2 : decode b_T_covers 2 = .ok (.iload_n 3, 1) := by decide +kernel
theorem d_T_covers_3 : decode b_T_covers 3 = .ok (.iconst 3, 1) := by decide +kernel
theorem d_T_covers_4 : decode b_T_covers 4 = .ok (.if_icmp .ge (42), 3) := by decide +kernel
theorem d_T_covers_7 : decode b_T_covers 7 = .ok (.aload_n 0, 1) := by decide +kernel
theorem d_T_covers_8 : decode b_T_covers 8 = .ok (.iload_n 3, 1) := by decide +kernel
theorem d_T_covers_9 : decode b_T_covers 9 = .ok (.iload_n 1, 1) := by decide +kernel
theorem d_T_covers_10 : decode b_T_covers 10 = .ok (.iload_n 2, 1) := by decide +kernel
theorem d_T_covers_11 : decode b_T_covers 11 = .ok (.invokevirtual 62, 3) := by decide +kernel
theorem d_T_covers_14 : decode b_T_covers 14 = .ok (.lstore 4, 2) := by decide +kernel
theorem d_T_covers_16 : decode b_T_covers 16 = .ok (.lload 4, 2) := by decide +kernel
theorem d_T_covers_18 : decode b_T_covers 18 = .ok (.lconst 0, 1) := by decide +kernel
theorem d_T_covers_19 : decode b_T_covers 19 = .ok (.lcmp, 1) := by decide +kernel
theorem d_T_covers_20 : decode b_T_covers 20 = .ok (.ifCond .lt (18), 3) := by decide +kernel
theorem d_T_covers_23 : decode b_T_covers 23 = .ok (.lload 4, 2) := by decide +kernel
theorem d_T_covers_25 : decode b_T_covers 25 = .ok (.lconst 0, 1) := by decide +kernel
theorem d_T_covers_26 : decode b_T_covers 26 = .ok (.lcmp, 1) := by decide +kernel
theorem d_T_covers_27 : decode b_T_covers 27 = .ok (.ifCond .ne (13), 3) := by decide +kernel
theorem d_T_covers_30 : decode b_T_covers 30 = .ok (.aload_n 0, 1) := by decide +kernel
theorem d_T_covers_31 : decode b_T_covers 31 = .ok (.iload_n 3, 1) := by decide +kernel
theorem d_T_covers_32 : decode b_T_covers 32 = .ok (.invokevirtual 66, 3) := by decide +kernel
theorem d_T_covers_35 : decode b_T_covers 35 = .ok (.ifCond .ne (5), 3) := by decide +kernel
theorem d_T_covers_38 : decode b_T_covers 38 = .ok (.iconst 0, 1) := by decide +kernel
theorem d_T_covers_39 : decode b_T_covers 39 = .ok (.ireturn, 1) := by decide +kernel
theorem d_T_covers_40 : decode b_T_covers 40 = .ok (.iinc 3 (1), 3) := by decide +kernel
theorem d_T_covers_43 : decode b_T_covers 43 = .ok (.goto (-41), 3) := by decide +kernel
theorem d_T_covers_46 : decode b_T_covers 46 = .ok (.iconst 1, 1) := by decide +kernel
theorem d_T_covers_47 : decode b_T_covers 47 = .ok (.ireturn, 1) := by decide +kernel
theorem d_T_depthOver_0 : decode b_T_depthOver 0 = .ok (.lconst 0, 1) := by decide +kernel
theorem d_T_depthOver_1 : decode b_T_depthOver 1 = .ok (.lstore_n 3, 1) := by decide +kernel
theorem d_T_depthOver_2 : decode b_T_depthOver 2 = .ok (.iconst 0, 1) := by decide +kernel
theorem d_T_depthOver_3 : decode b_T_depthOver 3 = .ok (.istore 5, 2) := by decide +kernel
theorem d_T_depthOver_5 : decode b_T_depthOver 5 = .ok (.iload 5, 2) := by decide +kernel
theorem d_T_depthOver_7 : decode b_T_depthOver 7 = .ok (.iconst 3, 1) := by decide +kernel
theorem d_T_depthOver_8 : decode b_T_depthOver 8 = .ok (.if_icmp .ge (32), 3) := by decide +kernel
theorem d_T_depthOver_11 : decode b_T_depthOver 11 = .ok (.lload_n 3, 1) := by decide +kernel
theorem d_T_depthOver_12 : decode b_T_depthOver 12 = .ok (.aload_n 0, 1) := by decide +kernel
theorem d_T_depthOver_13 : decode b_T_depthOver 13 = .ok (.iload 5, 2) := by decide +kernel
theorem d_T_depthOver_15 : decode b_T_depthOver 15 = .ok (.iload_n 1, 1) := by decide +kernel
theorem d_T_depthOver_16 : decode b_T_depthOver 16 = .ok (.iload_n 2, 1) := by decide +kernel
theorem d_T_depthOver_17 : decode b_T_depthOver 17 = .ok (.invokevirtual 62, 3) := by decide +kernel
theorem d_T_depthOver_20 : decode b_T_depthOver 20 = .ok (.aload_n 0, 1) := by decide +kernel
theorem d_T_depthOver_21 : decode b_T_depthOver 21 = .ok (.getfield 11, 3) := by decide +kernel
theorem d_T_depthOver_24 : decode b_T_depthOver 24 = .ok (.iload 5, 2) := by decide +kernel
theorem d_T_depthOver_26 : decode b_T_depthOver 26 = .ok (.iconst 4, 1) := by decide +kernel
theorem d_T_depthOver_27 : decode b_T_depthOver 27 = .ok (.imul, 1) := by decide +kernel
theorem d_T_depthOver_28 : decode b_T_depthOver 28 = .ok (.iconst 4, 1) := by decide +kernel
theorem d_T_depthOver_29 : decode b_T_depthOver 29 = .ok (.iadd, 1) := by decide +kernel
theorem d_T_depthOver_30 : decode b_T_depthOver 30 = .ok (.laload, 1) := by decide +kernel
theorem d_T_depthOver_31 : decode b_T_depthOver 31 = .ok (.lmul, 1) := by decide +kernel
theorem d_T_depthOver_32 : decode b_T_depthOver 32 = .ok (.ladd, 1) := by decide +kernel
theorem d_T_depthOver_33 : decode b_T_depthOver 33 = .ok (.lstore_n 3, 1) := by decide +kernel
theorem d_T_depthOver_34 : decode b_T_depthOver 34 = .ok (.iinc 5 (1), 3) := by decide +kernel
theorem d_T_depthOver_37 : decode b_T_depthOver 37 = .ok (.goto (-32), 3) := by decide +kernel
theorem d_T_depthOver_40 : decode b_T_depthOver 40 = .ok (.lload_n 3, 1) := by decide +kernel
theorem d_T_depthOver_41 : decode b_T_depthOver 41 = .ok (.lreturn, 1) := by decide +kernel
theorem d_T_weigh_0 : decode b_T_weigh 0 = .ok (.lconst 0, 1) := by decide +kernel
theorem d_T_weigh_1 : decode b_T_weigh 1 = .ok (.lstore 4, 2) := by decide +kernel
theorem d_T_weigh_3 : decode b_T_weigh 3 = .ok (.lconst 0, 1) := by decide +kernel
theorem d_T_weigh_4 : decode b_T_weigh 4 = .ok (.lstore 6, 2) := by decide +kernel
theorem d_T_weigh_6 : decode b_T_weigh 6 = .ok (.iconst 0, 1) := by decide +kernel
theorem d_T_weigh_7 : decode b_T_weigh 7 = .ok (.istore 8, 2) := by decide +kernel
theorem d_T_weigh_9 : decode b_T_weigh 9 = .ok (.iload 8, 2) := by decide +kernel
theorem d_T_weigh_11 : decode b_T_weigh 11 = .ok (.iconst 3, 1) := by decide +kernel
theorem d_T_weigh_12 : decode b_T_weigh 12 = .ok (.if_icmp .ge (39), 3) := by decide +kernel
theorem d_T_weigh_15 : decode b_T_weigh 15 = .ok (.aload_n 0, 1) := by decide +kernel
theorem d_T_weigh_16 : decode b_T_weigh 16 = .ok (.iload 8, 2) := by decide +kernel
theorem d_T_weigh_18 : decode b_T_weigh 18 = .ok (.iload_n 2, 1) := by decide +kernel
theorem d_T_weigh_19 : decode b_T_weigh 19 = .ok (.iload_n 3, 1) := by decide +kernel
theorem d_T_weigh_20 : decode b_T_weigh 20 = .ok (.invokevirtual 62, 3) := by decide +kernel
theorem d_T_weigh_23 : decode b_T_weigh 23 = .ok (.lstore 9, 2) := by decide +kernel
theorem d_T_weigh_25 : decode b_T_weigh 25 = .ok (.lload 4, 2) := by decide +kernel
theorem d_T_weigh_27 : decode b_T_weigh 27 = .ok (.lload 9, 2) := by decide +kernel
theorem d_T_weigh_29 : decode b_T_weigh 29 = .ok (.aload_n 1, 1) := by decide +kernel
theorem d_T_weigh_30 : decode b_T_weigh 30 = .ok (.iload 8, 2) := by decide +kernel
theorem d_T_weigh_32 : decode b_T_weigh 32 = .ok (.iaload, 1) := by decide +kernel
theorem d_T_weigh_33 : decode b_T_weigh 33 = .ok (.i2l, 1) := by decide +kernel
theorem d_T_weigh_34 : decode b_T_weigh 34 = .ok (.lmul, 1) := by decide +kernel
theorem d_T_weigh_35 : decode b_T_weigh 35 = .ok (.ladd, 1) := by decide +kernel
theorem d_T_weigh_36 : decode b_T_weigh 36 = .ok (.lstore 4, 2) := by decide +kernel
theorem d_T_weigh_38 : decode b_T_weigh 38 = .ok (.lload 6, 2) := by decide +kernel
theorem d_T_weigh_40 : decode b_T_weigh 40 = .ok (.lload 9, 2) := by decide +kernel
theorem d_T_weigh_42 : decode b_T_weigh 42 = .ok (.ladd, 1) := by decide +kernel
theorem d_T_weigh_43 : decode b_T_weigh 43 = .ok (.lstore 6, 2) := by decide +kernel
theorem d_T_weigh_45 : decode b_T_weigh 45 = .ok (.iinc 8 (1), 3) := by decide +kernel
theorem d_T_weigh_48 : decode b_T_weigh 48 = .ok (.goto (-39), 3) := by decide +kernel
theorem d_T_weigh_51 : decode b_T_weigh 51 = .ok (.lload 4, 2) := by decide +kernel
theorem d_T_weigh_53 : decode b_T_weigh 53 = .ok (.lload 6, 2) := by decide +kernel
theorem d_T_weigh_55 : decode b_T_weigh 55 = .ok (.invokestatic 74, 3) := by decide +kernel
theorem d_T_weigh_58 : decode b_T_weigh 58 = .ok (.lreturn, 1) := by decide +kernel
theorem d_T_textureU_0 : decode b_T_textureU 0 = .ok (.aload_n 0, 1) := by decide +kernel
theorem d_T_textureU_1 : decode b_T_textureU 1 = .ok (.aload_n 0, 1) := by decide +kernel
theorem d_T_textureU_2 : decode b_T_textureU 2 = .ok (.getfield 15, 3) := by decide +kernel
theorem d_T_textureU_5 : decode b_T_textureU 5 = .ok (.iload_n 1, 1) := by decide +kernel
theorem d_T_textureU_6 : decode b_T_textureU 6 = .ok (.iload_n 2, 1) := by decide +kernel
theorem d_T_textureU_7 : decode b_T_textureU 7 = .ok (.invokevirtual 70, 3) := by decide +kernel
theorem d_T_textureU_10 : decode b_T_textureU 10 = .ok (.lreturn, 1) := by decide +kernel
theorem d_T_textureV_0 : decode b_T_textureV 0 = .ok (.aload_n 0, 1) := by decide +kernel
theorem d_T_textureV_1 : decode b_T_textureV 1 = .ok (.aload_n 0, 1) := by decide +kernel
theorem d_T_textureV_2 : decode b_T_textureV 2 = .ok (.getfield 19, 3) := by decide +kernel
theorem d_T_textureV_5 : decode b_T_textureV 5 = .ok (.iload_n 1, 1) := by decide +kernel
theorem d_T_textureV_6 : decode b_T_textureV 6 = .ok (.iload_n 2, 1) := by decide +kernel
theorem d_T_textureV_7 : decode b_T_textureV 7 = .ok (.invokevirtual 70, 3) := by decide +kernel
theorem d_T_textureV_10 : decode b_T_textureV 10 = .ok (.lreturn, 1) := by decide +kernel
theorem d_T_numberAt_0 : decode b_T_numberAt 0 = .ok (.aload_n 0, 1) := by decide +kernel
theorem d_T_numberAt_1 : decode b_T_numberAt 1 = .ok (.getfield 11, 3) := by decide +kernel
theorem d_T_numberAt_4 : decode b_T_numberAt 4 = .ok (.iload_n 1, 1) := by decide +kernel
theorem d_T_numberAt_5 : decode b_T_numberAt 5 = .ok (.laload, 1) := by decide +kernel
theorem d_T_numberAt_6 : decode b_T_numberAt 6 = .ok (.lreturn, 1) := by decide +kernel
def fn_T_setPlace (μ0 : xs_M) (k : Nat) (x0 : Int32) (x1 : Int32) (x2 : Int32) (x3 : Int32) : Option xs_M :=
  (if xs_in ((x0 * (4 : Int32)) + (1 : Int32)) 13 = true then ((some (xs_sl μ0 (14 + 7 * k + 1) ((x0 * (4 : Int32)) + (1 : Int32)).toNatClampNeg (x1).toInt64)).bind fun μ2 => (if xs_in ((x0 * (4 : Int32)) + (2 : Int32)) 13 = true then ((some (xs_sl μ2 (14 + 7 * k + 1) ((x0 * (4 : Int32)) + (2 : Int32)).toNatClampNeg (x2).toInt64)).bind fun μ4 => (if xs_in ((x0 * (4 : Int32)) + (3 : Int32)) 13 = true then ((some (xs_sl μ4 (14 + 7 * k + 1) ((x0 * (4 : Int32)) + (3 : Int32)).toNatClampNeg (x3).toInt64)).bind fun μ6 => some (μ6)) else none)) else none)) else none)
set_option maxHeartbeats 4000000 in
set_option maxRecDepth 100000 in
theorem ok_T_setPlace (l : Launch) (D : va_G) (ad : Nat → Nat) (cs : xs_cs) (hJ : xs_J ad) {μ0 : xs_M} {k : Nat} {x0 : Int32} {x1 : Int32} {x2 : Int32} {x3 : Int32} (hk : k < 20) {rz : xs_M} (hE : fn_T_setPlace μ0 k x0 x1 x2 x3 = some rz) : xs_I l D ad cs y_T_setPlace b_T_setPlace 5 none 0 0 [.ref (ad (14 + 7 * k)), .int (x0), .int (x1), .int (x2), .int (x3)] μ0 none rz := by
  refine xs_entry hJ (by decide) (Nat.le_of_ble_eq_true rfl) ?_
  intro p e s m below meth c ls X hr hlk G hl
  have X : xs_C p s m c b_T_setPlace 5 _ "ExactScene$Triangle" := X
  have hx := X.1
  have hb := X.2.1
  have hl : lv_has ls 5 [(0, .ref (ad (14 + 7 * k))), (1, .int (x0)), (2, .int (x1)), (3, .int (x2)), (4, .int (x3))] := hl
  unfold fn_T_setPlace at hE
  refine lv_aload_n (pc := 0) hx hb d_T_setPlace_0 rfl (lv_at hl 0 rfl) ?_
  refine gf_T_11 (pc := 1) X G hk d_T_setPlace_1 ?_
  refine lv_iload_n (pc := 4) hx hb d_T_setPlace_4 rfl (lv_at hl 1 rfl) ?_
  refine lv_iconst (pc := 5) (v := (4 : Int32)) hx hb d_T_setPlace_5 (by decide) ?_
  refine lv_imul (pc := 6) hx hb d_T_setPlace_6 ?_
  refine lv_iconst (pc := 7) (v := (1 : Int32)) hx hb d_T_setPlace_7 (by decide) ?_
  refine lv_iadd (pc := 8) hx hb d_T_setPlace_8 ?_
  refine lv_iload_n (pc := 9) hx hb d_T_setPlace_9 rfl (lv_at hl 2 rfl) ?_
  refine lv_i2l (pc := 10) hx hb d_T_setPlace_10 rfl ?_
  obtain ⟨hi1, hE⟩ := xs_n hE
  refine xs_last (pc := 11) hx hb G (la_T1 hk) (xs_inP hi1) d_T_setPlace_11 (fun H locs G => ?_)
  obtain ⟨μ2, hμ2, hE⟩ := xs_b hE
  have G := xs_mv G hμ2
  clear hμ2
  refine lv_aload_n (pc := 12) hx hb d_T_setPlace_12 rfl (lv_at hl 0 rfl) ?_
  refine gf_T_11 (pc := 13) X G hk d_T_setPlace_13 ?_
  refine lv_iload_n (pc := 16) hx hb d_T_setPlace_16 rfl (lv_at hl 1 rfl) ?_
  refine lv_iconst (pc := 17) (v := (4 : Int32)) hx hb d_T_setPlace_17 (by decide) ?_
  refine lv_imul (pc := 18) hx hb d_T_setPlace_18 ?_
  refine lv_iconst (pc := 19) (v := (2 : Int32)) hx hb d_T_setPlace_19 (by decide) ?_
  refine lv_iadd (pc := 20) hx hb d_T_setPlace_20 ?_
  refine lv_iload_n (pc := 21) hx hb d_T_setPlace_21 rfl (lv_at hl 3 rfl) ?_
  refine lv_i2l (pc := 22) hx hb d_T_setPlace_22 rfl ?_
  obtain ⟨hi3, hE⟩ := xs_n hE
  refine xs_last (pc := 23) hx hb G (la_T1 hk) (xs_inP hi3) d_T_setPlace_23 (fun H locs G => ?_)
  obtain ⟨μ4, hμ4, hE⟩ := xs_b hE
  have G := xs_mv G hμ4
  clear hμ4
  refine lv_aload_n (pc := 24) hx hb d_T_setPlace_24 rfl (lv_at hl 0 rfl) ?_
  refine gf_T_11 (pc := 25) X G hk d_T_setPlace_25 ?_
  refine lv_iload_n (pc := 28) hx hb d_T_setPlace_28 rfl (lv_at hl 1 rfl) ?_
  refine lv_iconst (pc := 29) (v := (4 : Int32)) hx hb d_T_setPlace_29 (by decide) ?_
  refine lv_imul (pc := 30) hx hb d_T_setPlace_30 ?_
  refine lv_iconst (pc := 31) (v := (3 : Int32)) hx hb d_T_setPlace_31 (by decide) ?_
  refine lv_iadd (pc := 32) hx hb d_T_setPlace_32 ?_
  refine lv_iload (pc := 33) hx hb d_T_setPlace_33 (lv_at hl 4 rfl) ?_
  refine lv_i2l (pc := 35) hx hb d_T_setPlace_35 rfl ?_
  obtain ⟨hi5, hE⟩ := xs_n hE
  refine xs_last (pc := 36) hx hb G (la_T1 hk) (xs_inP hi5) d_T_setPlace_36 (fun H locs G => ?_)
  obtain ⟨μ6, hμ6, hE⟩ := xs_b hE
  have G := xs_mv G hμ6
  clear hμ6
  cases hE
  exact xs_vret (pc := 37) hx hb hr hlk G d_T_setPlace_37
def fn_T_setRest (μ0 : xs_M) (k : Nat) (x0 : Int32) (x1 : Int32) (x2 : Int32) (x3 : Int32) : Option xs_M :=
  (if xs_in ((x0 * (4 : Int32)) + (4 : Int32)) 13 = true then ((some (xs_sl μ0 (14 + 7 * k + 1) ((x0 * (4 : Int32)) + (4 : Int32)).toNatClampNeg (x1).toInt64)).bind fun μ2 => (if xs_in x0 3 = true then ((some (xs_si μ2 (14 + 7 * k + 2) x0.toNatClampNeg (x2))).bind fun μ4 => (if xs_in x0 3 = true then ((some (xs_si μ4 (14 + 7 * k + 3) x0.toNatClampNeg (x3))).bind fun μ6 => some (μ6)) else none)) else none)) else none)
set_option maxHeartbeats 4000000 in
set_option maxRecDepth 100000 in
theorem ok_T_setRest (l : Launch) (D : va_G) (ad : Nat → Nat) (cs : xs_cs) (hJ : xs_J ad) {μ0 : xs_M} {k : Nat} {x0 : Int32} {x1 : Int32} {x2 : Int32} {x3 : Int32} (hk : k < 20) {rz : xs_M} (hE : fn_T_setRest μ0 k x0 x1 x2 x3 = some rz) : xs_I l D ad cs y_T_setRest b_T_setRest 5 none 0 0 [.ref (ad (14 + 7 * k)), .int (x0), .int (x1), .int (x2), .int (x3)] μ0 none rz := by
  refine xs_entry hJ (by decide) (Nat.le_of_ble_eq_true rfl) ?_
  intro p e s m below meth c ls X hr hlk G hl
  have X : xs_C p s m c b_T_setRest 5 _ "ExactScene$Triangle" := X
  have hx := X.1
  have hb := X.2.1
  have hl : lv_has ls 5 [(0, .ref (ad (14 + 7 * k))), (1, .int (x0)), (2, .int (x1)), (3, .int (x2)), (4, .int (x3))] := hl
  unfold fn_T_setRest at hE
  refine lv_aload_n (pc := 0) hx hb d_T_setRest_0 rfl (lv_at hl 0 rfl) ?_
  refine gf_T_11 (pc := 1) X G hk d_T_setRest_1 ?_
  refine lv_iload_n (pc := 4) hx hb d_T_setRest_4 rfl (lv_at hl 1 rfl) ?_
  refine lv_iconst (pc := 5) (v := (4 : Int32)) hx hb d_T_setRest_5 (by decide) ?_
  refine lv_imul (pc := 6) hx hb d_T_setRest_6 ?_
  refine lv_iconst (pc := 7) (v := (4 : Int32)) hx hb d_T_setRest_7 (by decide) ?_
  refine lv_iadd (pc := 8) hx hb d_T_setRest_8 ?_
  refine lv_iload_n (pc := 9) hx hb d_T_setRest_9 rfl (lv_at hl 2 rfl) ?_
  refine lv_i2l (pc := 10) hx hb d_T_setRest_10 rfl ?_
  obtain ⟨hi1, hE⟩ := xs_n hE
  refine xs_last (pc := 11) hx hb G (la_T1 hk) (xs_inP hi1) d_T_setRest_11 (fun H locs G => ?_)
  obtain ⟨μ2, hμ2, hE⟩ := xs_b hE
  have G := xs_mv G hμ2
  clear hμ2
  refine lv_aload_n (pc := 12) hx hb d_T_setRest_12 rfl (lv_at hl 0 rfl) ?_
  refine gf_T_15 (pc := 13) X G hk d_T_setRest_13 ?_
  refine lv_iload_n (pc := 16) hx hb d_T_setRest_16 rfl (lv_at hl 1 rfl) ?_
  refine lv_iload_n (pc := 17) hx hb d_T_setRest_17 rfl (lv_at hl 3 rfl) ?_
  obtain ⟨hi3, hE⟩ := xs_n hE
  refine xs_iast (pc := 18) hx hb G (ia_T2 hk) (xs_inP hi3) d_T_setRest_18 (fun H locs G => ?_)
  obtain ⟨μ4, hμ4, hE⟩ := xs_b hE
  have G := xs_mv G hμ4
  clear hμ4
  refine lv_aload_n (pc := 19) hx hb d_T_setRest_19 rfl (lv_at hl 0 rfl) ?_
  refine gf_T_19 (pc := 20) X G hk d_T_setRest_20 ?_
  refine lv_iload_n (pc := 23) hx hb d_T_setRest_23 rfl (lv_at hl 1 rfl) ?_
  refine lv_iload (pc := 24) hx hb d_T_setRest_24 (lv_at hl 4 rfl) ?_
  obtain ⟨hi5, hE⟩ := xs_n hE
  refine xs_iast (pc := 26) hx hb G (ia_T3 hk) (xs_inP hi5) d_T_setRest_26 (fun H locs G => ?_)
  obtain ⟨μ6, hμ6, hE⟩ := xs_b hE
  have G := xs_mv G hμ6
  clear hμ6
  cases hE
  exact xs_vret (pc := 27) hx hb hr hlk G d_T_setRest_27
def fn_T_placeQ (μ0 : xs_M) (k : Nat) (x0 : Int32) : Option Int64 :=
  (if xs_in ((x0 * (4 : Int32)) + (2 : Int32)) 13 = true then some ((μ0.2 (14 + 7 * k + 1) ((x0 * (4 : Int32)) + (2 : Int32)).toNatClampNeg)) else none)
set_option maxHeartbeats 4000000 in
set_option maxRecDepth 100000 in
theorem ok_T_placeQ (l : Launch) (D : va_G) (ad : Nat → Nat) (cs : xs_cs) (hJ : xs_J ad) {μ0 : xs_M} {k : Nat} {x0 : Int32} (hk : k < 20) {rz : Int64} (hE : fn_T_placeQ μ0 k x0 = some rz) : xs_I l D ad cs y_T_placeQ b_T_placeQ 2 (some .long) 0 0 [.ref (ad (14 + 7 * k)), .int (x0)] μ0 (some (.long rz)) μ0 := by
  refine xs_entry hJ (by decide) (Nat.le_of_ble_eq_true rfl) ?_
  intro p e s m below meth c ls X hr hlk G hl
  have X : xs_C p s m c b_T_placeQ 2 _ "ExactScene$Triangle" := X
  have hx := X.1
  have hb := X.2.1
  have hl : lv_has ls 2 [(0, .ref (ad (14 + 7 * k))), (1, .int (x0))] := hl
  unfold fn_T_placeQ at hE
  refine lv_aload_n (pc := 0) hx hb d_T_placeQ_0 rfl (lv_at hl 0 rfl) ?_
  refine gf_T_11 (pc := 1) X G hk d_T_placeQ_1 ?_
  refine lv_iload_n (pc := 4) hx hb d_T_placeQ_4 rfl (lv_at hl 1 rfl) ?_
  refine lv_iconst (pc := 5) (v := (4 : Int32)) hx hb d_T_placeQ_5 (by decide) ?_
  refine lv_imul (pc := 6) hx hb d_T_placeQ_6 ?_
  refine lv_iconst (pc := 7) (v := (2 : Int32)) hx hb d_T_placeQ_7 (by decide) ?_
  refine lv_iadd (pc := 8) hx hb d_T_placeQ_8 ?_
  obtain ⟨hi1, hE⟩ := xs_n hE
  refine xs_lald (pc := 9) hx hb G (la_T1 hk) (xs_inP hi1) d_T_placeQ_9 ?_
  cases hE
  exact xs_lret (pc := 10) hx hb hr hlk G d_T_placeQ_10
def fn_T_placeW (μ0 : xs_M) (k : Nat) (x0 : Int32) : Option Int64 :=
  (if xs_in ((x0 * (4 : Int32)) + (3 : Int32)) 13 = true then some ((μ0.2 (14 + 7 * k + 1) ((x0 * (4 : Int32)) + (3 : Int32)).toNatClampNeg)) else none)
set_option maxHeartbeats 4000000 in
set_option maxRecDepth 100000 in
theorem ok_T_placeW (l : Launch) (D : va_G) (ad : Nat → Nat) (cs : xs_cs) (hJ : xs_J ad) {μ0 : xs_M} {k : Nat} {x0 : Int32} (hk : k < 20) {rz : Int64} (hE : fn_T_placeW μ0 k x0 = some rz) : xs_I l D ad cs y_T_placeW b_T_placeW 2 (some .long) 0 0 [.ref (ad (14 + 7 * k)), .int (x0)] μ0 (some (.long rz)) μ0 := by
  refine xs_entry hJ (by decide) (Nat.le_of_ble_eq_true rfl) ?_
  intro p e s m below meth c ls X hr hlk G hl
  have X : xs_C p s m c b_T_placeW 2 _ "ExactScene$Triangle" := X
  have hx := X.1
  have hb := X.2.1
  have hl : lv_has ls 2 [(0, .ref (ad (14 + 7 * k))), (1, .int (x0))] := hl
  unfold fn_T_placeW at hE
  refine lv_aload_n (pc := 0) hx hb d_T_placeW_0 rfl (lv_at hl 0 rfl) ?_
  refine gf_T_11 (pc := 1) X G hk d_T_placeW_1 ?_
  refine lv_iload_n (pc := 4) hx hb d_T_placeW_4 rfl (lv_at hl 1 rfl) ?_
  refine lv_iconst (pc := 5) (v := (4 : Int32)) hx hb d_T_placeW_5 (by decide) ?_
  refine lv_imul (pc := 6) hx hb d_T_placeW_6 ?_
  refine lv_iconst (pc := 7) (v := (3 : Int32)) hx hb d_T_placeW_7 (by decide) ?_
  refine lv_iadd (pc := 8) hx hb d_T_placeW_8 ?_
  obtain ⟨hi1, hE⟩ := xs_n hE
  refine xs_lald (pc := 9) hx hb G (la_T1 hk) (xs_inP hi1) d_T_placeW_9 ?_
  cases hE
  exact xs_lret (pc := 10) hx hb hr hlk G d_T_placeW_10
def fn_T_placeP (μ0 : xs_M) (k : Nat) (x0 : Int32) : Option Int64 :=
  (if xs_in ((x0 * (4 : Int32)) + (1 : Int32)) 13 = true then some ((μ0.2 (14 + 7 * k + 1) ((x0 * (4 : Int32)) + (1 : Int32)).toNatClampNeg)) else none)
set_option maxHeartbeats 4000000 in
set_option maxRecDepth 100000 in
theorem ok_T_placeP (l : Launch) (D : va_G) (ad : Nat → Nat) (cs : xs_cs) (hJ : xs_J ad) {μ0 : xs_M} {k : Nat} {x0 : Int32} (hk : k < 20) {rz : Int64} (hE : fn_T_placeP μ0 k x0 = some rz) : xs_I l D ad cs y_T_placeP b_T_placeP 2 (some .long) 0 0 [.ref (ad (14 + 7 * k)), .int (x0)] μ0 (some (.long rz)) μ0 := by
  refine xs_entry hJ (by decide) (Nat.le_of_ble_eq_true rfl) ?_
  intro p e s m below meth c ls X hr hlk G hl
  have X : xs_C p s m c b_T_placeP 2 _ "ExactScene$Triangle" := X
  have hx := X.1
  have hb := X.2.1
  have hl : lv_has ls 2 [(0, .ref (ad (14 + 7 * k))), (1, .int (x0))] := hl
  unfold fn_T_placeP at hE
  refine lv_aload_n (pc := 0) hx hb d_T_placeP_0 rfl (lv_at hl 0 rfl) ?_
  refine gf_T_11 (pc := 1) X G hk d_T_placeP_1 ?_
  refine lv_iload_n (pc := 4) hx hb d_T_placeP_4 rfl (lv_at hl 1 rfl) ?_
  refine lv_iconst (pc := 5) (v := (4 : Int32)) hx hb d_T_placeP_5 (by decide) ?_
  refine lv_imul (pc := 6) hx hb d_T_placeP_6 ?_
  refine lv_iconst (pc := 7) (v := (1 : Int32)) hx hb d_T_placeP_7 (by decide) ?_
  refine lv_iadd (pc := 8) hx hb d_T_placeP_8 ?_
  obtain ⟨hi1, hE⟩ := xs_n hE
  refine xs_lald (pc := 9) hx hb G (la_T1 hk) (xs_inP hi1) d_T_placeP_9 ?_
  cases hE
  exact xs_lret (pc := 10) hx hb hr hlk G d_T_placeP_10
def fn_T_setEdge (μ0 : xs_M) (k : Nat) (x0 : Int32) (x1 : Int32) (x2 : Int32) : Option xs_M :=
  ((fn_T_placeQ μ0 k x1).bind fun w1 => ((fn_T_placeW μ0 k x2).bind fun w2 => ((fn_T_placeW μ0 k x1).bind fun w3 => ((fn_T_placeQ μ0 k x2).bind fun w4 => (if xs_in x0 3 = true then ((some (xs_sl μ0 (14 + 7 * k + 4) x0.toNatClampNeg ((w1 * w2) - (w3 * w4)))).bind fun μ6 => ((fn_T_placeW μ6 k x1).bind fun w7 => ((fn_T_placeP μ6 k x2).bind fun w8 => ((fn_T_placeP μ6 k x1).bind fun w9 => ((fn_T_placeW μ6 k x2).bind fun w10 => (if xs_in x0 3 = true then ((some (xs_sl μ6 (14 + 7 * k + 5) x0.toNatClampNeg ((w7 * w8) - (w9 * w10)))).bind fun μ12 => ((fn_T_placeP μ12 k x1).bind fun w13 => ((fn_T_placeQ μ12 k x2).bind fun w14 => ((fn_T_placeQ μ12 k x1).bind fun w15 => ((fn_T_placeP μ12 k x2).bind fun w16 => (if xs_in x0 3 = true then ((some (xs_sl μ12 (14 + 7 * k + 6) x0.toNatClampNeg ((w13 * w14) - (w15 * w16)))).bind fun μ18 => some (μ18)) else none)))))) else none)))))) else none)))))
set_option maxHeartbeats 4000000 in
set_option maxRecDepth 100000 in
theorem ok_T_setEdge (l : Launch) (D : va_G) (ad : Nat → Nat) (cs : xs_cs) (hJ : xs_J ad) {μ0 : xs_M} {k : Nat} {x0 : Int32} {x1 : Int32} {x2 : Int32} (hk : k < 20) {rz : xs_M} (hE : fn_T_setEdge μ0 k x0 x1 x2 = some rz) : xs_I l D ad cs y_T_setEdge b_T_setEdge 4 none 1 21 [.ref (ad (14 + 7 * k)), .int (x0), .int (x1), .int (x2)] μ0 none rz := by
  refine xs_entry hJ (by decide) (Nat.le_of_ble_eq_true rfl) ?_
  intro p e s m below meth c ls X hr hlk G hl
  have X : xs_C p s m c b_T_setEdge 4 _ "ExactScene$Triangle" := X
  have hx := X.1
  have hb := X.2.1
  have hl : lv_has ls 4 [(0, .ref (ad (14 + 7 * k))), (1, .int (x0)), (2, .int (x1)), (3, .int (x2))] := hl
  unfold fn_T_setEdge at hE
  refine lv_aload_n (pc := 0) hx hb d_T_setEdge_0 rfl (lv_at hl 0 rfl) ?_
  refine gf_T_22 (pc := 1) X G hk d_T_setEdge_1 ?_
  refine lv_iload_n (pc := 4) hx hb d_T_setEdge_4 rfl (lv_at hl 1 rfl) ?_
  refine lv_aload_n (pc := 5) hx hb d_T_setEdge_5 rfl (lv_at hl 0 rfl) ?_
  refine lv_iload_n (pc := 6) hx hb d_T_setEdge_6 rfl (lv_at hl 2 rfl) ?_
  obtain ⟨w1, hw1, hE⟩ := xs_b hE
  refine xs_callVr (pc := 7) (as := [.int (x1)]) X (ok_T_placeQ l D ad cs hJ hk hw1) km_T_49 G (xs_wT ad cs _ hk) rfl ⟨by decide, by decide⟩ ⟨Nat.zero_le _, Nat.zero_le _⟩ rfl hl.1 rfl (Nat.le_of_ble_eq_true rfl) d_T_setEdge_7 (fun H locs G => ?_)
  refine lv_aload_n (pc := 10) hx hb d_T_setEdge_10 rfl (lv_at hl 0 rfl) ?_
  refine lv_iload_n (pc := 11) hx hb d_T_setEdge_11 rfl (lv_at hl 3 rfl) ?_
  obtain ⟨w2, hw2, hE⟩ := xs_b hE
  refine xs_callVr (pc := 12) (as := [.int (x2)]) X (ok_T_placeW l D ad cs hJ hk hw2) km_T_52 G (xs_wT ad cs _ hk) rfl ⟨by decide, by decide⟩ ⟨Nat.zero_le _, Nat.zero_le _⟩ rfl hl.1 rfl (Nat.le_of_ble_eq_true rfl) d_T_setEdge_12 (fun H locs G => ?_)
  refine lv_lmul (pc := 15) hx hb d_T_setEdge_15 ?_
  refine lv_aload_n (pc := 16) hx hb d_T_setEdge_16 rfl (lv_at hl 0 rfl) ?_
  refine lv_iload_n (pc := 17) hx hb d_T_setEdge_17 rfl (lv_at hl 2 rfl) ?_
  obtain ⟨w3, hw3, hE⟩ := xs_b hE
  refine xs_callVr (pc := 18) (as := [.int (x1)]) X (ok_T_placeW l D ad cs hJ hk hw3) km_T_52 G (xs_wT ad cs _ hk) rfl ⟨by decide, by decide⟩ ⟨Nat.zero_le _, Nat.zero_le _⟩ rfl hl.1 rfl (Nat.le_of_ble_eq_true rfl) d_T_setEdge_18 (fun H locs G => ?_)
  refine lv_aload_n (pc := 21) hx hb d_T_setEdge_21 rfl (lv_at hl 0 rfl) ?_
  refine lv_iload_n (pc := 22) hx hb d_T_setEdge_22 rfl (lv_at hl 3 rfl) ?_
  obtain ⟨w4, hw4, hE⟩ := xs_b hE
  refine xs_callVr (pc := 23) (as := [.int (x2)]) X (ok_T_placeQ l D ad cs hJ hk hw4) km_T_49 G (xs_wT ad cs _ hk) rfl ⟨by decide, by decide⟩ ⟨Nat.zero_le _, Nat.zero_le _⟩ rfl hl.1 rfl (Nat.le_of_ble_eq_true rfl) d_T_setEdge_23 (fun H locs G => ?_)
  refine lv_lmul (pc := 26) hx hb d_T_setEdge_26 ?_
  refine lv_lsub (pc := 27) hx hb d_T_setEdge_27 ?_
  obtain ⟨hi5, hE⟩ := xs_n hE
  refine xs_last (pc := 28) hx hb G (la_T4 hk) (xs_inP hi5) d_T_setEdge_28 (fun H locs G => ?_)
  obtain ⟨μ6, hμ6, hE⟩ := xs_b hE
  have G := xs_mv G hμ6
  clear hμ6
  refine lv_aload_n (pc := 29) hx hb d_T_setEdge_29 rfl (lv_at hl 0 rfl) ?_
  refine gf_T_25 (pc := 30) X G hk d_T_setEdge_30 ?_
  refine lv_iload_n (pc := 33) hx hb d_T_setEdge_33 rfl (lv_at hl 1 rfl) ?_
  refine lv_aload_n (pc := 34) hx hb d_T_setEdge_34 rfl (lv_at hl 0 rfl) ?_
  refine lv_iload_n (pc := 35) hx hb d_T_setEdge_35 rfl (lv_at hl 2 rfl) ?_
  obtain ⟨w7, hw7, hE⟩ := xs_b hE
  refine xs_callVr (pc := 36) (as := [.int (x1)]) X (ok_T_placeW l D ad cs hJ hk hw7) km_T_52 G (xs_wT ad cs _ hk) rfl ⟨by decide, by decide⟩ ⟨Nat.zero_le _, Nat.zero_le _⟩ rfl hl.1 rfl (Nat.le_of_ble_eq_true rfl) d_T_setEdge_36 (fun H locs G => ?_)
  refine lv_aload_n (pc := 39) hx hb d_T_setEdge_39 rfl (lv_at hl 0 rfl) ?_
  refine lv_iload_n (pc := 40) hx hb d_T_setEdge_40 rfl (lv_at hl 3 rfl) ?_
  obtain ⟨w8, hw8, hE⟩ := xs_b hE
  refine xs_callVr (pc := 41) (as := [.int (x2)]) X (ok_T_placeP l D ad cs hJ hk hw8) km_T_45 G (xs_wT ad cs _ hk) rfl ⟨by decide, by decide⟩ ⟨Nat.zero_le _, Nat.zero_le _⟩ rfl hl.1 rfl (Nat.le_of_ble_eq_true rfl) d_T_setEdge_41 (fun H locs G => ?_)
  refine lv_lmul (pc := 44) hx hb d_T_setEdge_44 ?_
  refine lv_aload_n (pc := 45) hx hb d_T_setEdge_45 rfl (lv_at hl 0 rfl) ?_
  refine lv_iload_n (pc := 46) hx hb d_T_setEdge_46 rfl (lv_at hl 2 rfl) ?_
  obtain ⟨w9, hw9, hE⟩ := xs_b hE
  refine xs_callVr (pc := 47) (as := [.int (x1)]) X (ok_T_placeP l D ad cs hJ hk hw9) km_T_45 G (xs_wT ad cs _ hk) rfl ⟨by decide, by decide⟩ ⟨Nat.zero_le _, Nat.zero_le _⟩ rfl hl.1 rfl (Nat.le_of_ble_eq_true rfl) d_T_setEdge_47 (fun H locs G => ?_)
  refine lv_aload_n (pc := 50) hx hb d_T_setEdge_50 rfl (lv_at hl 0 rfl) ?_
  refine lv_iload_n (pc := 51) hx hb d_T_setEdge_51 rfl (lv_at hl 3 rfl) ?_
  obtain ⟨w10, hw10, hE⟩ := xs_b hE
  refine xs_callVr (pc := 52) (as := [.int (x2)]) X (ok_T_placeW l D ad cs hJ hk hw10) km_T_52 G (xs_wT ad cs _ hk) rfl ⟨by decide, by decide⟩ ⟨Nat.zero_le _, Nat.zero_le _⟩ rfl hl.1 rfl (Nat.le_of_ble_eq_true rfl) d_T_setEdge_52 (fun H locs G => ?_)
  refine lv_lmul (pc := 55) hx hb d_T_setEdge_55 ?_
  refine lv_lsub (pc := 56) hx hb d_T_setEdge_56 ?_
  obtain ⟨hi11, hE⟩ := xs_n hE
  refine xs_last (pc := 57) hx hb G (la_T5 hk) (xs_inP hi11) d_T_setEdge_57 (fun H locs G => ?_)
  obtain ⟨μ12, hμ12, hE⟩ := xs_b hE
  have G := xs_mv G hμ12
  clear hμ12
  refine lv_aload_n (pc := 58) hx hb d_T_setEdge_58 rfl (lv_at hl 0 rfl) ?_
  refine gf_T_28 (pc := 59) X G hk d_T_setEdge_59 ?_
  refine lv_iload_n (pc := 62) hx hb d_T_setEdge_62 rfl (lv_at hl 1 rfl) ?_
  refine lv_aload_n (pc := 63) hx hb d_T_setEdge_63 rfl (lv_at hl 0 rfl) ?_
  refine lv_iload_n (pc := 64) hx hb d_T_setEdge_64 rfl (lv_at hl 2 rfl) ?_
  obtain ⟨w13, hw13, hE⟩ := xs_b hE
  refine xs_callVr (pc := 65) (as := [.int (x1)]) X (ok_T_placeP l D ad cs hJ hk hw13) km_T_45 G (xs_wT ad cs _ hk) rfl ⟨by decide, by decide⟩ ⟨Nat.zero_le _, Nat.zero_le _⟩ rfl hl.1 rfl (Nat.le_of_ble_eq_true rfl) d_T_setEdge_65 (fun H locs G => ?_)
  refine lv_aload_n (pc := 68) hx hb d_T_setEdge_68 rfl (lv_at hl 0 rfl) ?_
  refine lv_iload_n (pc := 69) hx hb d_T_setEdge_69 rfl (lv_at hl 3 rfl) ?_
  obtain ⟨w14, hw14, hE⟩ := xs_b hE
  refine xs_callVr (pc := 70) (as := [.int (x2)]) X (ok_T_placeQ l D ad cs hJ hk hw14) km_T_49 G (xs_wT ad cs _ hk) rfl ⟨by decide, by decide⟩ ⟨Nat.zero_le _, Nat.zero_le _⟩ rfl hl.1 rfl (Nat.le_of_ble_eq_true rfl) d_T_setEdge_70 (fun H locs G => ?_)
  refine lv_lmul (pc := 73) hx hb d_T_setEdge_73 ?_
  refine lv_aload_n (pc := 74) hx hb d_T_setEdge_74 rfl (lv_at hl 0 rfl) ?_
  refine lv_iload_n (pc := 75) hx hb d_T_setEdge_75 rfl (lv_at hl 2 rfl) ?_
  obtain ⟨w15, hw15, hE⟩ := xs_b hE
  refine xs_callVr (pc := 76) (as := [.int (x1)]) X (ok_T_placeQ l D ad cs hJ hk hw15) km_T_49 G (xs_wT ad cs _ hk) rfl ⟨by decide, by decide⟩ ⟨Nat.zero_le _, Nat.zero_le _⟩ rfl hl.1 rfl (Nat.le_of_ble_eq_true rfl) d_T_setEdge_76 (fun H locs G => ?_)
  refine lv_aload_n (pc := 79) hx hb d_T_setEdge_79 rfl (lv_at hl 0 rfl) ?_
  refine lv_iload_n (pc := 80) hx hb d_T_setEdge_80 rfl (lv_at hl 3 rfl) ?_
  obtain ⟨w16, hw16, hE⟩ := xs_b hE
  refine xs_callVr (pc := 81) (as := [.int (x2)]) X (ok_T_placeP l D ad cs hJ hk hw16) km_T_45 G (xs_wT ad cs _ hk) rfl ⟨by decide, by decide⟩ ⟨Nat.zero_le _, Nat.zero_le _⟩ rfl hl.1 rfl (Nat.le_of_ble_eq_true rfl) d_T_setEdge_81 (fun H locs G => ?_)
  refine lv_lmul (pc := 84) hx hb d_T_setEdge_84 ?_
  refine lv_lsub (pc := 85) hx hb d_T_setEdge_85 ?_
  obtain ⟨hi17, hE⟩ := xs_n hE
  refine xs_last (pc := 86) hx hb G (la_T6 hk) (xs_inP hi17) d_T_setEdge_86 (fun H locs G => ?_)
  obtain ⟨μ18, hμ18, hE⟩ := xs_b hE
  have G := xs_mv G hμ18
  clear hμ18
  cases hE
  exact xs_vret (pc := 87) hx hb hr hlk G d_T_setEdge_87
def fn_T_turnToNegatives_L11 : Nat → xs_M → Nat → Int32 →  Option (Int32 × xs_M)
  | 0, _, _, _ => none
  | fu + 1, μ, k, v1 => (if (3 : Int32) ≤ v1 then some ((v1, μ)) else (if xs_in v1 3 = true then (if xs_in v1 3 = true then ((some (xs_sl μ (14 + 7 * k + 4) v1.toNatClampNeg (-(μ.2 (14 + 7 * k + 4) v1.toNatClampNeg)))).bind fun μ4 => (if xs_in v1 3 = true then (if xs_in v1 3 = true then ((some (xs_sl μ4 (14 + 7 * k + 5) v1.toNatClampNeg (-(μ4.2 (14 + 7 * k + 5) v1.toNatClampNeg)))).bind fun μ7 => (if xs_in v1 3 = true then (if xs_in v1 3 = true then ((some (xs_sl μ7 (14 + 7 * k + 6) v1.toNatClampNeg (-(μ7.2 (14 + 7 * k + 6) v1.toNatClampNeg)))).bind fun μ10 => fn_T_turnToNegatives_L11 fu μ10 k (v1 + 1)) else none) else none)) else none) else none)) else none) else none))
def fn_T_turnToNegatives (μ0 : xs_M) (k : Nat) : Option xs_M :=
  ((some (xs_sl μ0 (14 + 7 * k) 6 (-(μ0.2 (14 + 7 * k) 6)))).bind fun μ1 => ((fn_T_turnToNegatives_L11 xs_FU μ1 k (0 : Int32)).bind fun z11 => some (z11.2)))
set_option maxHeartbeats 4000000 in
set_option maxRecDepth 100000 in
theorem ok_T_turnToNegatives (l : Launch) (D : va_G) (ad : Nat → Nat) (cs : xs_cs) (hJ : xs_J ad) {μ0 : xs_M} {k : Nat} (hk : k < 20) {rz : xs_M} (hE : fn_T_turnToNegatives μ0 k = some rz) : xs_I l D ad cs y_T_turnToNegatives b_T_turnToNegatives 2 none 0 0 [.ref (ad (14 + 7 * k))] μ0 none rz := by
  refine xs_entry hJ (by decide) (Nat.le_of_ble_eq_true rfl) ?_
  intro p e s m below meth c ls X hr hlk G hl
  have X : xs_C p s m c b_T_turnToNegatives 2 _ "ExactScene$Triangle" := X
  have hx := X.1
  have hb := X.2.1
  have hl : lv_has ls 2 [(0, .ref (ad (14 + 7 * k)))] := hl
  have L11 : ∀ (fu : Nat) (μ : xs_M) (v1 : Int32) (H : Heap) (locs : List Loc) (ls : Array Slot) (z : (Int32 × xs_M)), fn_T_turnToNegatives_L11 fu μ k v1 = some z → xs_G D ad cs s (xs_A ad s.heap.size) s.heap μ H locs → lv_has ls 2 [(0, .ref (ad (14 + 7 * k))), (1, .int (v1))] → (∀ (H : Heap) (locs : List Loc) (ls : Array Slot), xs_G D ad cs s (xs_A ad s.heap.size) s.heap z.2 H locs → lv_has ls 2 [(0, .ref (ad (14 + 7 * k))), (1, .int (z.1))] → W p l e (xs_rm 0 0) s m ([.ref (ad (14 + 7 * k))] : List Value).toArray below meth c H locs 0 0 (xs_E below D ad cs [.ref (ad (14 + 7 * k))] s none rz) (F0 m 61 ls [])) → W p l e (xs_rm 0 0) s m ([.ref (ad (14 + 7 * k))] : List Value).toArray below meth c H locs 0 0 (xs_E below D ad cs [.ref (ad (14 + 7 * k))] s none rz) (F0 m 11 ls []) := by
    clear hE hl G
    intro fu
    induction fu with
    | zero =>
      intro μ v1 H locs ls z hE
      rw [fn_T_turnToNegatives_L11] at hE
      cases hE
    | succ fu ih =>
      intro μ v1 H locs ls z hE G hl kk
      rw [fn_T_turnToNegatives_L11] at hE
      refine lv_iload_n (pc := 11) hx hb d_T_turnToNegatives_11 rfl (lv_at hl 1 rfl) ?_
      refine lv_iconst (pc := 12) (v := (3 : Int32)) hx hb d_T_turnToNegatives_12 (by decide) ?_
      refine lv_icmp_ge (pc := 13) (tgt := 61) hx hb d_T_turnToNegatives_13 (by decide) (fun hc => ?_) (fun hc => ?_)
      · have hE := xs_t hE hc
        cases hE
        exact kk _ _ _ G (lv_sub hl [0, 1] rfl)
      · have hE := xs_f hE hc
        refine lv_aload_n (pc := 16) hx hb d_T_turnToNegatives_16 rfl (lv_at hl 0 rfl) ?_
        refine gf_T_22 (pc := 17) X G hk d_T_turnToNegatives_17 ?_
        refine lv_iload_n (pc := 20) hx hb d_T_turnToNegatives_20 rfl (lv_at hl 1 rfl) ?_
        refine lv_aload_n (pc := 21) hx hb d_T_turnToNegatives_21 rfl (lv_at hl 0 rfl) ?_
        refine gf_T_22 (pc := 22) X G hk d_T_turnToNegatives_22 ?_
        refine lv_iload_n (pc := 25) hx hb d_T_turnToNegatives_25 rfl (lv_at hl 1 rfl) ?_
        obtain ⟨hi2, hE⟩ := xs_n hE
        refine xs_lald (pc := 26) hx hb G (la_T4 hk) (xs_inP hi2) d_T_turnToNegatives_26 ?_
        refine lv_lneg (pc := 27) hx hb d_T_turnToNegatives_27 ?_
        obtain ⟨hi3, hE⟩ := xs_n hE
        refine xs_last (pc := 28) hx hb G (la_T4 hk) (xs_inP hi3) d_T_turnToNegatives_28 (fun H locs G => ?_)
        obtain ⟨μ4, hμ4, hE⟩ := xs_b hE
        have G := xs_mv G hμ4
        clear hμ4
        refine lv_aload_n (pc := 29) hx hb d_T_turnToNegatives_29 rfl (lv_at hl 0 rfl) ?_
        refine gf_T_25 (pc := 30) X G hk d_T_turnToNegatives_30 ?_
        refine lv_iload_n (pc := 33) hx hb d_T_turnToNegatives_33 rfl (lv_at hl 1 rfl) ?_
        refine lv_aload_n (pc := 34) hx hb d_T_turnToNegatives_34 rfl (lv_at hl 0 rfl) ?_
        refine gf_T_25 (pc := 35) X G hk d_T_turnToNegatives_35 ?_
        refine lv_iload_n (pc := 38) hx hb d_T_turnToNegatives_38 rfl (lv_at hl 1 rfl) ?_
        obtain ⟨hi5, hE⟩ := xs_n hE
        refine xs_lald (pc := 39) hx hb G (la_T5 hk) (xs_inP hi5) d_T_turnToNegatives_39 ?_
        refine lv_lneg (pc := 40) hx hb d_T_turnToNegatives_40 ?_
        obtain ⟨hi6, hE⟩ := xs_n hE
        refine xs_last (pc := 41) hx hb G (la_T5 hk) (xs_inP hi6) d_T_turnToNegatives_41 (fun H locs G => ?_)
        obtain ⟨μ7, hμ7, hE⟩ := xs_b hE
        have G := xs_mv G hμ7
        clear hμ7
        refine lv_aload_n (pc := 42) hx hb d_T_turnToNegatives_42 rfl (lv_at hl 0 rfl) ?_
        refine gf_T_28 (pc := 43) X G hk d_T_turnToNegatives_43 ?_
        refine lv_iload_n (pc := 46) hx hb d_T_turnToNegatives_46 rfl (lv_at hl 1 rfl) ?_
        refine lv_aload_n (pc := 47) hx hb d_T_turnToNegatives_47 rfl (lv_at hl 0 rfl) ?_
        refine gf_T_28 (pc := 48) X G hk d_T_turnToNegatives_48 ?_
        refine lv_iload_n (pc := 51) hx hb d_T_turnToNegatives_51 rfl (lv_at hl 1 rfl) ?_
        obtain ⟨hi8, hE⟩ := xs_n hE
        refine xs_lald (pc := 52) hx hb G (la_T6 hk) (xs_inP hi8) d_T_turnToNegatives_52 ?_
        refine lv_lneg (pc := 53) hx hb d_T_turnToNegatives_53 ?_
        obtain ⟨hi9, hE⟩ := xs_n hE
        refine xs_last (pc := 54) hx hb G (la_T6 hk) (xs_inP hi9) d_T_turnToNegatives_54 (fun H locs G => ?_)
        obtain ⟨μ10, hμ10, hE⟩ := xs_b hE
        have G := xs_mv G hμ10
        clear hμ10
        refine lv_iinc (pc := 55) (v := (v1 + 1)) (k := 1) hx hb d_T_turnToNegatives_55 hl rfl (xs_inc _) (by decide) (lv' := [(1, .int ((v1 + 1))), (0, .ref (ad (14 + 7 * k)))]) rfl (fun ls hl => ?_)
        refine lv_goto (pc := 58) (tgt := 11) hx hb d_T_turnToNegatives_58 (by decide) ?_
        exact ih _ _ _ _ _ _ hE G (lv_sub hl [1, 0] rfl) kk
  unfold fn_T_turnToNegatives at hE
  refine lv_aload_n (pc := 0) hx hb d_T_turnToNegatives_0 rfl (lv_at hl 0 rfl) ?_
  refine lv_aload_n (pc := 1) hx hb d_T_turnToNegatives_1 rfl (lv_at hl 0 rfl) ?_
  refine gf_T_55 (pc := 2) X G hk d_T_turnToNegatives_2 ?_
  refine lv_lneg (pc := 5) hx hb d_T_turnToNegatives_5 ?_
  refine pf_T_55 (pc := 6) X G hk d_T_turnToNegatives_6 (fun H locs G => ?_)
  obtain ⟨μ1, hμ1, hE⟩ := xs_b hE
  have G := xs_mv G hμ1
  clear hμ1
  refine lv_iconst (pc := 9) (v := (0 : Int32)) hx hb d_T_turnToNegatives_9 (by decide) ?_
  refine lv_istore_n (pc := 10) hx hb d_T_turnToNegatives_10 rfl hl (by decide) (lv' := [(1, .int ((0 : Int32))), (0, .ref (ad (14 + 7 * k)))]) rfl (fun ls hl => ?_)
  obtain ⟨z11, hz11, hE⟩ := xs_b hE
  refine L11 _ _ _ _ _ _ _ hz11 G (lv_sub hl [1, 0] rfl) (fun H locs ls G hl => ?_)
  cases hE
  exact xs_vret (pc := 61) hx hb hr hlk G d_T_turnToNegatives_61
def fn_T_complete_L18 : Nat → xs_M → Nat → Int32 → Int32 → Int32 → Int32 →  Option (Int32 × xs_M)
  | 0, _, _, _, _, _, _ => none
  | fu + 1, μ, k, v1, v2, v3, v4 => (if (3 : Int32) ≤ v4 then some ((v4, μ)) else ((fn_T_setEdge μ k v4 ((v4 + (1 : Int32)) - (v4 + (1 : Int32)) / (3 : Int32) * (3 : Int32)) ((v4 + (2 : Int32)) - (v4 + (2 : Int32)) / (3 : Int32) * (3 : Int32))).bind fun w4 => fn_T_complete_L18 fu w4 k v1 v2 v3 (v4 + 1)))
def fn_T_complete (μ0 : xs_M) (k : Nat) (x0 : Int32) (x1 : Int32) (x2 : Int32) : Option xs_M :=
  ((some (xs_si μ0 (14 + 7 * k) 7 (x0))).bind fun μ1 => ((some (xs_si μ1 (14 + 7 * k) 8 (x1))).bind fun μ2 => ((some (xs_si μ2 (14 + 7 * k) 9 (x2))).bind fun μ3 => ((fn_T_complete_L18 xs_FU μ3 k x0 x1 x2 (0 : Int32)).bind fun z5 => ((fn_T_placeP z5.2 k (0 : Int32)).bind fun w6 => ((fn_T_placeQ z5.2 k (0 : Int32)).bind fun w7 => ((fn_T_placeW z5.2 k (0 : Int32)).bind fun w8 => ((some (xs_sl z5.2 (14 + 7 * k + 1) (0 : Int32).toNatClampNeg (((w6 * (z5.2.2 (14 + 7 * k + 4) (0 : Int32).toNatClampNeg)) + (w7 * (z5.2.2 (14 + 7 * k + 5) (0 : Int32).toNatClampNeg))) + (w8 * (z5.2.2 (14 + 7 * k + 6) (0 : Int32).toNatClampNeg))))).bind fun μ9 => ((some (xs_sl μ9 (14 + 7 * k) 6 (μ9.2 (14 + 7 * k + 1) (0 : Int32).toNatClampNeg))).bind fun μ10 => (if 0 ≤ (lg_cmp (μ10.2 (14 + 7 * k) 6) (0 : Int64)) then some (μ10) else ((fn_T_turnToNegatives μ10 k).bind fun w11 => some (w11))))))))))))
set_option maxHeartbeats 4000000 in
set_option maxRecDepth 100000 in
theorem ok_T_complete (l : Launch) (D : va_G) (ad : Nat → Nat) (cs : xs_cs) (hJ : xs_J ad) {μ0 : xs_M} {k : Nat} {x0 : Int32} {x1 : Int32} {x2 : Int32} (hk : k < 20) {rz : xs_M} (hE : fn_T_complete μ0 k x0 x1 x2 = some rz) : xs_I l D ad cs y_T_complete b_T_complete 5 none 2 44 [.ref (ad (14 + 7 * k)), .int (x0), .int (x1), .int (x2)] μ0 none rz := by
  refine xs_entry hJ (by decide) (Nat.le_of_ble_eq_true rfl) ?_
  intro p e s m below meth c ls X hr hlk G hl
  have X : xs_C p s m c b_T_complete 5 _ "ExactScene$Triangle" := X
  have hx := X.1
  have hb := X.2.1
  have hl : lv_has ls 5 [(0, .ref (ad (14 + 7 * k))), (1, .int (x0)), (2, .int (x1)), (3, .int (x2))] := hl
  have L18 : ∀ (fu : Nat) (μ : xs_M) (v1 : Int32) (v2 : Int32) (v3 : Int32) (v4 : Int32) (H : Heap) (locs : List Loc) (ls : Array Slot) (z : (Int32 × xs_M)), fn_T_complete_L18 fu μ k v1 v2 v3 v4 = some z → xs_G D ad cs s (xs_A ad s.heap.size) s.heap μ H locs → lv_has ls 5 [(0, .ref (ad (14 + 7 * k))), (1, .int (v1)), (2, .int (v2)), (3, .int (v3)), (4, .int (v4))] → (∀ (H : Heap) (locs : List Loc) (ls : Array Slot), xs_G D ad cs s (xs_A ad s.heap.size) s.heap z.2 H locs → lv_has ls 5 [(0, .ref (ad (14 + 7 * k))), (1, .int (v1)), (2, .int (v2)), (3, .int (v3)), (4, .int (z.1))] → W p l e (xs_rm 2 44) s m ([.ref (ad (14 + 7 * k)), .int (x0), .int (x1), .int (x2)] : List Value).toArray below meth c H locs 0 0 (xs_E below D ad cs [.ref (ad (14 + 7 * k)), .int (x0), .int (x1), .int (x2)] s none rz) (F0 m 48 ls [])) → W p l e (xs_rm 2 44) s m ([.ref (ad (14 + 7 * k)), .int (x0), .int (x1), .int (x2)] : List Value).toArray below meth c H locs 0 0 (xs_E below D ad cs [.ref (ad (14 + 7 * k)), .int (x0), .int (x1), .int (x2)] s none rz) (F0 m 18 ls []) := by
    clear hE hl G
    intro fu
    induction fu with
    | zero =>
      intro μ v1 v2 v3 v4 H locs ls z hE
      rw [fn_T_complete_L18] at hE
      cases hE
    | succ fu ih =>
      intro μ v1 v2 v3 v4 H locs ls z hE G hl kk
      rw [fn_T_complete_L18] at hE
      refine lv_iload (pc := 18) hx hb d_T_complete_18 (lv_at hl 4 rfl) ?_
      refine lv_iconst (pc := 20) (v := (3 : Int32)) hx hb d_T_complete_20 (by decide) ?_
      refine lv_icmp_ge (pc := 21) (tgt := 48) hx hb d_T_complete_21 (by decide) (fun hc => ?_) (fun hc => ?_)
      · have hE := xs_t hE hc
        cases hE
        exact kk _ _ _ G (lv_sub hl [0, 1, 2, 3, 4] rfl)
      · have hE := xs_f hE hc
        refine lv_aload_n (pc := 24) hx hb d_T_complete_24 rfl (lv_at hl 0 rfl) ?_
        refine lv_iload (pc := 25) hx hb d_T_complete_25 (lv_at hl 4 rfl) ?_
        refine lv_iload (pc := 27) hx hb d_T_complete_27 (lv_at hl 4 rfl) ?_
        refine lv_iconst (pc := 29) (v := (1 : Int32)) hx hb d_T_complete_29 (by decide) ?_
        refine lv_iadd (pc := 30) hx hb d_T_complete_30 ?_
        refine lv_iconst (pc := 31) (v := (3 : Int32)) hx hb d_T_complete_31 (by decide) ?_
        refine lv_irem (pc := 32) hx hb d_T_complete_32 (by decide) ?_
        refine lv_iload (pc := 33) hx hb d_T_complete_33 (lv_at hl 4 rfl) ?_
        refine lv_iconst (pc := 35) (v := (2 : Int32)) hx hb d_T_complete_35 (by decide) ?_
        refine lv_iadd (pc := 36) hx hb d_T_complete_36 ?_
        refine lv_iconst (pc := 37) (v := (3 : Int32)) hx hb d_T_complete_37 (by decide) ?_
        refine lv_irem (pc := 38) hx hb d_T_complete_38 (by decide) ?_
        obtain ⟨w4, hw4, hE⟩ := xs_b hE
        refine xs_callVv (pc := 39) (as := [.int (v4), .int (((v4 + (1 : Int32)) - (v4 + (1 : Int32)) / (3 : Int32) * (3 : Int32))), .int (((v4 + (2 : Int32)) - (v4 + (2 : Int32)) / (3 : Int32) * (3 : Int32)))]) X (ok_T_setEdge l D ad cs hJ hk hw4) km_T_41 G (xs_wT ad cs _ hk) rfl ⟨by decide, by decide⟩ ⟨Nat.zero_le _, Nat.zero_le _⟩ rfl hl.1 rfl (Nat.le_of_ble_eq_true rfl) d_T_complete_39 (fun H locs G => ?_)
        refine lv_iinc (pc := 42) (v := (v4 + 1)) (k := 4) hx hb d_T_complete_42 hl rfl (xs_inc _) (by decide) (lv' := [(4, .int ((v4 + 1))), (0, .ref (ad (14 + 7 * k))), (1, .int (v1)), (2, .int (v2)), (3, .int (v3))]) rfl (fun ls hl => ?_)
        refine lv_goto (pc := 45) (tgt := 18) hx hb d_T_complete_45 (by decide) ?_
        exact ih _ _ _ _ _ _ _ _ _ hE G (lv_sub hl [1, 2, 3, 4, 0] rfl) kk
  unfold fn_T_complete at hE
  refine lv_aload_n (pc := 0) hx hb d_T_complete_0 rfl (lv_at hl 0 rfl) ?_
  refine lv_iload_n (pc := 1) hx hb d_T_complete_1 rfl (lv_at hl 1 rfl) ?_
  refine pf_T_31 (pc := 2) X G hk d_T_complete_2 (fun H locs G => ?_)
  obtain ⟨μ1, hμ1, hE⟩ := xs_b hE
  have G := xs_mv G hμ1
  clear hμ1
  refine lv_aload_n (pc := 5) hx hb d_T_complete_5 rfl (lv_at hl 0 rfl) ?_
  refine lv_iload_n (pc := 6) hx hb d_T_complete_6 rfl (lv_at hl 2 rfl) ?_
  refine pf_T_35 (pc := 7) X G hk d_T_complete_7 (fun H locs G => ?_)
  obtain ⟨μ2, hμ2, hE⟩ := xs_b hE
  have G := xs_mv G hμ2
  clear hμ2
  refine lv_aload_n (pc := 10) hx hb d_T_complete_10 rfl (lv_at hl 0 rfl) ?_
  refine lv_iload_n (pc := 11) hx hb d_T_complete_11 rfl (lv_at hl 3 rfl) ?_
  refine pf_T_38 (pc := 12) X G hk d_T_complete_12 (fun H locs G => ?_)
  obtain ⟨μ3, hμ3, hE⟩ := xs_b hE
  have G := xs_mv G hμ3
  clear hμ3
  refine lv_iconst (pc := 15) (v := (0 : Int32)) hx hb d_T_complete_15 (by decide) ?_
  refine lv_istore (pc := 16) hx hb d_T_complete_16 hl (by decide) (lv' := [(4, .int ((0 : Int32))), (0, .ref (ad (14 + 7 * k))), (1, .int (x0)), (2, .int (x1)), (3, .int (x2))]) rfl (fun ls hl => ?_)
  obtain ⟨z5, hz5, hE⟩ := xs_b hE
  refine L18 _ _ _ _ _ _ _ _ _ _ hz5 G (lv_sub hl [1, 2, 3, 4, 0] rfl) (fun H locs ls G hl => ?_)
  refine lv_aload_n (pc := 48) hx hb d_T_complete_48 rfl (lv_at hl 0 rfl) ?_
  refine gf_T_11 (pc := 49) X G hk d_T_complete_49 ?_
  refine lv_iconst (pc := 52) (v := (0 : Int32)) hx hb d_T_complete_52 (by decide) ?_
  refine lv_aload_n (pc := 53) hx hb d_T_complete_53 rfl (lv_at hl 0 rfl) ?_
  refine lv_iconst (pc := 54) (v := (0 : Int32)) hx hb d_T_complete_54 (by decide) ?_
  obtain ⟨w6, hw6, hE⟩ := xs_b hE
  refine xs_callVr (pc := 55) (as := [.int ((0 : Int32))]) X (ok_T_placeP l D ad cs hJ hk hw6) km_T_45 G (xs_wT ad cs _ hk) rfl ⟨by decide, by decide⟩ ⟨Nat.zero_le _, Nat.zero_le _⟩ rfl hl.1 rfl (Nat.le_of_ble_eq_true rfl) d_T_complete_55 (fun H locs G => ?_)
  refine lv_aload_n (pc := 58) hx hb d_T_complete_58 rfl (lv_at hl 0 rfl) ?_
  refine gf_T_22 (pc := 59) X G hk d_T_complete_59 ?_
  refine lv_iconst (pc := 62) (v := (0 : Int32)) hx hb d_T_complete_62 (by decide) ?_
  refine xs_lald (pc := 63) hx hb G (la_T4 hk) (xs_inP (by decide)) d_T_complete_63 ?_
  refine lv_lmul (pc := 64) hx hb d_T_complete_64 ?_
  refine lv_aload_n (pc := 65) hx hb d_T_complete_65 rfl (lv_at hl 0 rfl) ?_
  refine lv_iconst (pc := 66) (v := (0 : Int32)) hx hb d_T_complete_66 (by decide) ?_
  obtain ⟨w7, hw7, hE⟩ := xs_b hE
  refine xs_callVr (pc := 67) (as := [.int ((0 : Int32))]) X (ok_T_placeQ l D ad cs hJ hk hw7) km_T_49 G (xs_wT ad cs _ hk) rfl ⟨by decide, by decide⟩ ⟨Nat.zero_le _, Nat.zero_le _⟩ rfl hl.1 rfl (Nat.le_of_ble_eq_true rfl) d_T_complete_67 (fun H locs G => ?_)
  refine lv_aload_n (pc := 70) hx hb d_T_complete_70 rfl (lv_at hl 0 rfl) ?_
  refine gf_T_25 (pc := 71) X G hk d_T_complete_71 ?_
  refine lv_iconst (pc := 74) (v := (0 : Int32)) hx hb d_T_complete_74 (by decide) ?_
  refine xs_lald (pc := 75) hx hb G (la_T5 hk) (xs_inP (by decide)) d_T_complete_75 ?_
  refine lv_lmul (pc := 76) hx hb d_T_complete_76 ?_
  refine lv_ladd (pc := 77) hx hb d_T_complete_77 ?_
  refine lv_aload_n (pc := 78) hx hb d_T_complete_78 rfl (lv_at hl 0 rfl) ?_
  refine lv_iconst (pc := 79) (v := (0 : Int32)) hx hb d_T_complete_79 (by decide) ?_
  obtain ⟨w8, hw8, hE⟩ := xs_b hE
  refine xs_callVr (pc := 80) (as := [.int ((0 : Int32))]) X (ok_T_placeW l D ad cs hJ hk hw8) km_T_52 G (xs_wT ad cs _ hk) rfl ⟨by decide, by decide⟩ ⟨Nat.zero_le _, Nat.zero_le _⟩ rfl hl.1 rfl (Nat.le_of_ble_eq_true rfl) d_T_complete_80 (fun H locs G => ?_)
  refine lv_aload_n (pc := 83) hx hb d_T_complete_83 rfl (lv_at hl 0 rfl) ?_
  refine gf_T_28 (pc := 84) X G hk d_T_complete_84 ?_
  refine lv_iconst (pc := 87) (v := (0 : Int32)) hx hb d_T_complete_87 (by decide) ?_
  refine xs_lald (pc := 88) hx hb G (la_T6 hk) (xs_inP (by decide)) d_T_complete_88 ?_
  refine lv_lmul (pc := 89) hx hb d_T_complete_89 ?_
  refine lv_ladd (pc := 90) hx hb d_T_complete_90 ?_
  refine xs_last (pc := 91) hx hb G (la_T1 hk) (xs_inP (by decide)) d_T_complete_91 (fun H locs G => ?_)
  obtain ⟨μ9, hμ9, hE⟩ := xs_b hE
  have G := xs_mv G hμ9
  clear hμ9
  refine lv_aload_n (pc := 92) hx hb d_T_complete_92 rfl (lv_at hl 0 rfl) ?_
  refine lv_aload_n (pc := 93) hx hb d_T_complete_93 rfl (lv_at hl 0 rfl) ?_
  refine gf_T_11 (pc := 94) X G hk d_T_complete_94 ?_
  refine lv_iconst (pc := 97) (v := (0 : Int32)) hx hb d_T_complete_97 (by decide) ?_
  refine xs_lald (pc := 98) hx hb G (la_T1 hk) (xs_inP (by decide)) d_T_complete_98 ?_
  refine pf_T_55 (pc := 99) X G hk d_T_complete_99 (fun H locs G => ?_)
  obtain ⟨μ10, hμ10, hE⟩ := xs_b hE
  have G := xs_mv G hμ10
  clear hμ10
  refine lv_aload_n (pc := 102) hx hb d_T_complete_102 rfl (lv_at hl 0 rfl) ?_
  refine gf_T_55 (pc := 103) X G hk d_T_complete_103 ?_
  refine lv_lconst (pc := 106) (v := (0 : Int64)) hx hb d_T_complete_106 (by decide) ?_
  refine W.lcmp (pc := 107) hx hb d_T_complete_107 ?_
  refine lv_if_ge (pc := 108) (tgt := 115) hx hb d_T_complete_108 (by decide) (fun hc => ?_) (fun hc => ?_)
  · have hE := xs_t hE hc
    cases hE
    exact xs_vret (pc := 115) hx hb hr hlk G d_T_complete_115
  · have hE := xs_f hE hc
    refine lv_aload_n (pc := 111) hx hb d_T_complete_111 rfl (lv_at hl 0 rfl) ?_
    obtain ⟨w11, hw11, hE⟩ := xs_b hE
    refine xs_callVv (pc := 112) (as := []) X (ok_T_turnToNegatives l D ad cs hJ hk hw11) km_T_59 G (xs_wT ad cs _ hk) rfl ⟨by decide, by decide⟩ ⟨Nat.zero_le _, Nat.zero_le _⟩ rfl hl.1 rfl (Nat.le_of_ble_eq_true rfl) d_T_complete_112 (fun H locs G => ?_)
    cases hE
    exact xs_vret (pc := 115) hx hb hr hlk G d_T_complete_115
def fn_T_isShown (μ0 : xs_M) (k : Nat) : Option Int32 :=
  (if (lg_cmp (μ0.2 (14 + 7 * k) 6) (0 : Int64)) = 0 then some ((0 : Int32)) else (if (μ0.1 (14 + 7 * k) 9) = 0 then some ((1 : Int32)) else (if (lg_cmp (μ0.2 (14 + 7 * k + 1) (0 : Int32).toNatClampNeg) (0 : Int64)) ≤ 0 then (if (μ0.1 (14 + 7 * k) 9) = (2 : Int32) then some ((1 : Int32)) else some ((0 : Int32))) else (if (μ0.1 (14 + 7 * k) 9) = (1 : Int32) then some ((1 : Int32)) else some ((0 : Int32))))))
set_option maxHeartbeats 4000000 in
set_option maxRecDepth 100000 in
theorem ok_T_isShown (l : Launch) (D : va_G) (ad : Nat → Nat) (cs : xs_cs) (hJ : xs_J ad) {μ0 : xs_M} {k : Nat} (hk : k < 20) {rz : Int32} (hE : fn_T_isShown μ0 k = some rz) : xs_I l D ad cs y_T_isShown b_T_isShown 1 (some .boolean) 0 0 [.ref (ad (14 + 7 * k))] μ0 (some (.int rz)) μ0 := by
  refine xs_entry hJ (by decide) (Nat.le_of_ble_eq_true rfl) ?_
  intro p e s m below meth c ls X hr hlk G hl
  have X : xs_C p s m c b_T_isShown 1 _ "ExactScene$Triangle" := X
  have hx := X.1
  have hb := X.2.1
  have hl : lv_has ls 1 [(0, .ref (ad (14 + 7 * k)))] := hl
  unfold fn_T_isShown at hE
  refine lv_aload_n (pc := 0) hx hb d_T_isShown_0 rfl (lv_at hl 0 rfl) ?_
  refine gf_T_55 (pc := 1) X G hk d_T_isShown_1 ?_
  refine lv_lconst (pc := 4) (v := (0 : Int64)) hx hb d_T_isShown_4 (by decide) ?_
  refine W.lcmp (pc := 5) hx hb d_T_isShown_5 ?_
  refine lv_if_ne (pc := 6) (tgt := 11) hx hb d_T_isShown_6 (by decide) (fun hc => ?_) (fun hc => ?_)
  · have hE := xs_f hE hc
    refine lv_aload_n (pc := 11) hx hb d_T_isShown_11 rfl (lv_at hl 0 rfl) ?_
    refine gf_T_38 (pc := 12) X G hk d_T_isShown_12 ?_
    refine lv_if_eq (pc := 15) (tgt := 41) hx hb d_T_isShown_15 (by decide) (fun hc => ?_) (fun hc => ?_)
    · have hE := xs_t hE hc
      refine lv_iconst (pc := 41) (v := (1 : Int32)) hx hb d_T_isShown_41 (by decide) ?_
      refine lv_goto (pc := 42) (tgt := 46) hx hb d_T_isShown_42 (by decide) ?_
      cases hE
      exact xs_zret (pc := 46) hx hb hr hlk G (Or.inr rfl) d_T_isShown_46
    · have hE := xs_f hE hc
      refine lv_aload_n (pc := 18) hx hb d_T_isShown_18 rfl (lv_at hl 0 rfl) ?_
      refine gf_T_38 (pc := 19) X G hk d_T_isShown_19 ?_
      refine lv_aload_n (pc := 22) hx hb d_T_isShown_22 rfl (lv_at hl 0 rfl) ?_
      refine gf_T_11 (pc := 23) X G hk d_T_isShown_23 ?_
      refine lv_iconst (pc := 26) (v := (0 : Int32)) hx hb d_T_isShown_26 (by decide) ?_
      refine xs_lald (pc := 27) hx hb G (la_T1 hk) (xs_inP (by decide)) d_T_isShown_27 ?_
      refine lv_lconst (pc := 28) (v := (0 : Int64)) hx hb d_T_isShown_28 (by decide) ?_
      refine W.lcmp (pc := 29) hx hb d_T_isShown_29 ?_
      refine lv_if_le (pc := 30) (tgt := 37) hx hb d_T_isShown_30 (by decide) (fun hc => ?_) (fun hc => ?_)
      · have hE := xs_t hE hc
        refine lv_iconst (pc := 37) (v := (2 : Int32)) hx hb d_T_isShown_37 (by decide) ?_
        refine lv_icmp_ne (pc := 38) (tgt := 45) hx hb d_T_isShown_38 (by decide) (fun hc => ?_) (fun hc => ?_)
        · have hE := xs_f hE hc
          refine lv_iconst (pc := 45) (v := (0 : Int32)) hx hb d_T_isShown_45 (by decide) ?_
          cases hE
          exact xs_zret (pc := 46) hx hb hr hlk G (Or.inl rfl) d_T_isShown_46
        · have hE := xs_t hE hc
          refine lv_iconst (pc := 41) (v := (1 : Int32)) hx hb d_T_isShown_41 (by decide) ?_
          refine lv_goto (pc := 42) (tgt := 46) hx hb d_T_isShown_42 (by decide) ?_
          cases hE
          exact xs_zret (pc := 46) hx hb hr hlk G (Or.inr rfl) d_T_isShown_46
      · have hE := xs_f hE hc
        refine lv_iconst (pc := 33) (v := (1 : Int32)) hx hb d_T_isShown_33 (by decide) ?_
        refine lv_goto (pc := 34) (tgt := 38) hx hb d_T_isShown_34 (by decide) ?_
        refine lv_icmp_ne (pc := 38) (tgt := 45) hx hb d_T_isShown_38 (by decide) (fun hc => ?_) (fun hc => ?_)
        · have hE := xs_f hE hc
          refine lv_iconst (pc := 45) (v := (0 : Int32)) hx hb d_T_isShown_45 (by decide) ?_
          cases hE
          exact xs_zret (pc := 46) hx hb hr hlk G (Or.inl rfl) d_T_isShown_46
        · have hE := xs_t hE hc
          refine lv_iconst (pc := 41) (v := (1 : Int32)) hx hb d_T_isShown_41 (by decide) ?_
          refine lv_goto (pc := 42) (tgt := 46) hx hb d_T_isShown_42 (by decide) ?_
          cases hE
          exact xs_zret (pc := 46) hx hb hr hlk G (Or.inr rfl) d_T_isShown_46
  · have hE := xs_t hE hc
    refine lv_iconst (pc := 9) (v := (0 : Int32)) hx hb d_T_isShown_9 (by decide) ?_
    cases hE
    exact xs_zret (pc := 10) hx hb hr hlk G (Or.inl rfl) d_T_isShown_10
def fn_T_weightAt (μ0 : xs_M) (k : Nat) (x0 : Int32) (x1 : Int32) (x2 : Int32) : Option Int64 :=
  (if xs_in x0 3 = true then (if xs_in x0 3 = true then (if xs_in x0 3 = true then some (((((μ0.2 (14 + 7 * k + 4) x0.toNatClampNeg) * ((((2 : Int32) * x1) + (1 : Int32))).toInt64) + ((μ0.2 (14 + 7 * k + 5) x0.toNatClampNeg) * ((((2 : Int32) * x2) + (1 : Int32))).toInt64)) + (μ0.2 (14 + 7 * k + 6) x0.toNatClampNeg))) else none) else none) else none)
set_option maxHeartbeats 4000000 in
set_option maxRecDepth 100000 in
theorem ok_T_weightAt (l : Launch) (D : va_G) (ad : Nat → Nat) (cs : xs_cs) (hJ : xs_J ad) {μ0 : xs_M} {k : Nat} {x0 : Int32} {x1 : Int32} {x2 : Int32} (hk : k < 20) {rz : Int64} (hE : fn_T_weightAt μ0 k x0 x1 x2 = some rz) : xs_I l D ad cs y_T_weightAt b_T_weightAt 4 (some .long) 0 0 [.ref (ad (14 + 7 * k)), .int (x0), .int (x1), .int (x2)] μ0 (some (.long rz)) μ0 := by
  refine xs_entry hJ (by decide) (Nat.le_of_ble_eq_true rfl) ?_
  intro p e s m below meth c ls X hr hlk G hl
  have X : xs_C p s m c b_T_weightAt 4 _ "ExactScene$Triangle" := X
  have hx := X.1
  have hb := X.2.1
  have hl : lv_has ls 4 [(0, .ref (ad (14 + 7 * k))), (1, .int (x0)), (2, .int (x1)), (3, .int (x2))] := hl
  unfold fn_T_weightAt at hE
  refine lv_aload_n (pc := 0) hx hb d_T_weightAt_0 rfl (lv_at hl 0 rfl) ?_
  refine gf_T_22 (pc := 1) X G hk d_T_weightAt_1 ?_
  refine lv_iload_n (pc := 4) hx hb d_T_weightAt_4 rfl (lv_at hl 1 rfl) ?_
  obtain ⟨hi1, hE⟩ := xs_n hE
  refine xs_lald (pc := 5) hx hb G (la_T4 hk) (xs_inP hi1) d_T_weightAt_5 ?_
  refine lv_iconst (pc := 6) (v := (2 : Int32)) hx hb d_T_weightAt_6 (by decide) ?_
  refine lv_iload_n (pc := 7) hx hb d_T_weightAt_7 rfl (lv_at hl 2 rfl) ?_
  refine lv_imul (pc := 8) hx hb d_T_weightAt_8 ?_
  refine lv_iconst (pc := 9) (v := (1 : Int32)) hx hb d_T_weightAt_9 (by decide) ?_
  refine lv_iadd (pc := 10) hx hb d_T_weightAt_10 ?_
  refine lv_i2l (pc := 11) hx hb d_T_weightAt_11 rfl ?_
  refine lv_lmul (pc := 12) hx hb d_T_weightAt_12 ?_
  refine lv_aload_n (pc := 13) hx hb d_T_weightAt_13 rfl (lv_at hl 0 rfl) ?_
  refine gf_T_25 (pc := 14) X G hk d_T_weightAt_14 ?_
  refine lv_iload_n (pc := 17) hx hb d_T_weightAt_17 rfl (lv_at hl 1 rfl) ?_
  obtain ⟨hi2, hE⟩ := xs_n hE
  refine xs_lald (pc := 18) hx hb G (la_T5 hk) (xs_inP hi2) d_T_weightAt_18 ?_
  refine lv_iconst (pc := 19) (v := (2 : Int32)) hx hb d_T_weightAt_19 (by decide) ?_
  refine lv_iload_n (pc := 20) hx hb d_T_weightAt_20 rfl (lv_at hl 3 rfl) ?_
  refine lv_imul (pc := 21) hx hb d_T_weightAt_21 ?_
  refine lv_iconst (pc := 22) (v := (1 : Int32)) hx hb d_T_weightAt_22 (by decide) ?_
  refine lv_iadd (pc := 23) hx hb d_T_weightAt_23 ?_
  refine lv_i2l (pc := 24) hx hb d_T_weightAt_24 rfl ?_
  refine lv_lmul (pc := 25) hx hb d_T_weightAt_25 ?_
  refine lv_ladd (pc := 26) hx hb d_T_weightAt_26 ?_
  refine lv_aload_n (pc := 27) hx hb d_T_weightAt_27 rfl (lv_at hl 0 rfl) ?_
  refine gf_T_28 (pc := 28) X G hk d_T_weightAt_28 ?_
  refine lv_iload_n (pc := 31) hx hb d_T_weightAt_31 rfl (lv_at hl 1 rfl) ?_
  obtain ⟨hi3, hE⟩ := xs_n hE
  refine xs_lald (pc := 32) hx hb G (la_T6 hk) (xs_inP hi3) d_T_weightAt_32 ?_
  refine lv_ladd (pc := 33) hx hb d_T_weightAt_33 ?_
  cases hE
  exact xs_lret (pc := 34) hx hb hr hlk G d_T_weightAt_34
def fn_T_ownsItsEdge (μ0 : xs_M) (k : Nat) (x0 : Int32) : Option Int32 :=
  (if xs_in x0 3 = true then (if 0 < (lg_cmp (μ0.2 (14 + 7 * k + 4) x0.toNatClampNeg) (0 : Int64)) then some ((1 : Int32)) else (if xs_in x0 3 = true then (if (lg_cmp (μ0.2 (14 + 7 * k + 4) x0.toNatClampNeg) (0 : Int64)) = 0 then (if xs_in x0 3 = true then (if (lg_cmp (μ0.2 (14 + 7 * k + 5) x0.toNatClampNeg) (0 : Int64)) ≤ 0 then some ((0 : Int32)) else some ((1 : Int32))) else none) else some ((0 : Int32))) else none)) else none)
set_option maxHeartbeats 4000000 in
set_option maxRecDepth 100000 in
theorem ok_T_ownsItsEdge (l : Launch) (D : va_G) (ad : Nat → Nat) (cs : xs_cs) (hJ : xs_J ad) {μ0 : xs_M} {k : Nat} {x0 : Int32} (hk : k < 20) {rz : Int32} (hE : fn_T_ownsItsEdge μ0 k x0 = some rz) : xs_I l D ad cs y_T_ownsItsEdge b_T_ownsItsEdge 2 (some .boolean) 0 0 [.ref (ad (14 + 7 * k)), .int (x0)] μ0 (some (.int rz)) μ0 := by
  refine xs_entry hJ (by decide) (Nat.le_of_ble_eq_true rfl) ?_
  intro p e s m below meth c ls X hr hlk G hl
  have X : xs_C p s m c b_T_ownsItsEdge 2 _ "ExactScene$Triangle" := X
  have hx := X.1
  have hb := X.2.1
  have hl : lv_has ls 2 [(0, .ref (ad (14 + 7 * k))), (1, .int (x0))] := hl
  unfold fn_T_ownsItsEdge at hE
  refine lv_aload_n (pc := 0) hx hb d_T_ownsItsEdge_0 rfl (lv_at hl 0 rfl) ?_
  refine gf_T_22 (pc := 1) X G hk d_T_ownsItsEdge_1 ?_
  refine lv_iload_n (pc := 4) hx hb d_T_ownsItsEdge_4 rfl (lv_at hl 1 rfl) ?_
  obtain ⟨hi1, hE⟩ := xs_n hE
  refine xs_lald (pc := 5) hx hb G (la_T4 hk) (xs_inP hi1) d_T_ownsItsEdge_5 ?_
  refine lv_lconst (pc := 6) (v := (0 : Int64)) hx hb d_T_ownsItsEdge_6 (by decide) ?_
  refine W.lcmp (pc := 7) hx hb d_T_ownsItsEdge_7 ?_
  refine lv_if_gt (pc := 8) (tgt := 33) hx hb d_T_ownsItsEdge_8 (by decide) (fun hc => ?_) (fun hc => ?_)
  · have hE := xs_t hE hc
    refine lv_iconst (pc := 33) (v := (1 : Int32)) hx hb d_T_ownsItsEdge_33 (by decide) ?_
    refine lv_goto (pc := 34) (tgt := 38) hx hb d_T_ownsItsEdge_34 (by decide) ?_
    cases hE
    exact xs_zret (pc := 38) hx hb hr hlk G (Or.inr rfl) d_T_ownsItsEdge_38
  · have hE := xs_f hE hc
    refine lv_aload_n (pc := 11) hx hb d_T_ownsItsEdge_11 rfl (lv_at hl 0 rfl) ?_
    refine gf_T_22 (pc := 12) X G hk d_T_ownsItsEdge_12 ?_
    refine lv_iload_n (pc := 15) hx hb d_T_ownsItsEdge_15 rfl (lv_at hl 1 rfl) ?_
    obtain ⟨hi2, hE⟩ := xs_n hE
    refine xs_lald (pc := 16) hx hb G (la_T4 hk) (xs_inP hi2) d_T_ownsItsEdge_16 ?_
    refine lv_lconst (pc := 17) (v := (0 : Int64)) hx hb d_T_ownsItsEdge_17 (by decide) ?_
    refine W.lcmp (pc := 18) hx hb d_T_ownsItsEdge_18 ?_
    refine lv_if_ne (pc := 19) (tgt := 37) hx hb d_T_ownsItsEdge_19 (by decide) (fun hc => ?_) (fun hc => ?_)
    · have hE := xs_f hE hc
      refine lv_iconst (pc := 37) (v := (0 : Int32)) hx hb d_T_ownsItsEdge_37 (by decide) ?_
      cases hE
      exact xs_zret (pc := 38) hx hb hr hlk G (Or.inl rfl) d_T_ownsItsEdge_38
    · have hE := xs_t hE hc
      refine lv_aload_n (pc := 22) hx hb d_T_ownsItsEdge_22 rfl (lv_at hl 0 rfl) ?_
      refine gf_T_25 (pc := 23) X G hk d_T_ownsItsEdge_23 ?_
      refine lv_iload_n (pc := 26) hx hb d_T_ownsItsEdge_26 rfl (lv_at hl 1 rfl) ?_
      obtain ⟨hi3, hE⟩ := xs_n hE
      refine xs_lald (pc := 27) hx hb G (la_T5 hk) (xs_inP hi3) d_T_ownsItsEdge_27 ?_
      refine lv_lconst (pc := 28) (v := (0 : Int64)) hx hb d_T_ownsItsEdge_28 (by decide) ?_
      refine W.lcmp (pc := 29) hx hb d_T_ownsItsEdge_29 ?_
      refine lv_if_le (pc := 30) (tgt := 37) hx hb d_T_ownsItsEdge_30 (by decide) (fun hc => ?_) (fun hc => ?_)
      · have hE := xs_t hE hc
        refine lv_iconst (pc := 37) (v := (0 : Int32)) hx hb d_T_ownsItsEdge_37 (by decide) ?_
        cases hE
        exact xs_zret (pc := 38) hx hb hr hlk G (Or.inl rfl) d_T_ownsItsEdge_38
      · have hE := xs_f hE hc
        refine lv_iconst (pc := 33) (v := (1 : Int32)) hx hb d_T_ownsItsEdge_33 (by decide) ?_
        refine lv_goto (pc := 34) (tgt := 38) hx hb d_T_ownsItsEdge_34 (by decide) ?_
        cases hE
        exact xs_zret (pc := 38) hx hb hr hlk G (Or.inr rfl) d_T_ownsItsEdge_38
def fn_T_covers_L2 : Nat → xs_M → Nat → Int32 → Int32 → Int32 →  Option ((Int32) ⊕ Int32)
  | 0, _, _, _, _, _ => none
  | fu + 1, μ0, k, v1, v2, v3 => (if (3 : Int32) ≤ v3 then some (.inl (v3)) else ((fn_T_weightAt μ0 k v3 v1 v2).bind fun w1 => (if (lg_cmp w1 (0 : Int64)) < 0 then some (.inr ((0 : Int32))) else (if (lg_cmp w1 (0 : Int64)) = 0 then ((fn_T_ownsItsEdge μ0 k v3).bind fun w2 => (if w2 = 0 then some (.inr ((0 : Int32))) else fn_T_covers_L2 fu μ0 k v1 v2 (v3 + 1))) else fn_T_covers_L2 fu μ0 k v1 v2 (v3 + 1)))))
def fn_T_covers (μ0 : xs_M) (k : Nat) (x0 : Int32) (x1 : Int32) : Option Int32 :=
  ((fn_T_covers_L2 xs_FU μ0 k x0 x1 (0 : Int32)).bind fun z3 => Sum.elim (fun ez3 => some ((1 : Int32))) (fun er => some er) z3)
set_option maxHeartbeats 4000000 in
set_option maxRecDepth 100000 in
theorem ok_T_covers (l : Launch) (D : va_G) (ad : Nat → Nat) (cs : xs_cs) (hJ : xs_J ad) {μ0 : xs_M} {k : Nat} {x0 : Int32} {x1 : Int32} (hk : k < 20) {rz : Int32} (hE : fn_T_covers μ0 k x0 x1 = some rz) : xs_I l D ad cs y_T_covers b_T_covers 6 (some .boolean) 1 23 [.ref (ad (14 + 7 * k)), .int (x0), .int (x1)] μ0 (some (.int rz)) μ0 := by
  refine xs_entry hJ (by decide) (Nat.le_of_ble_eq_true rfl) ?_
  intro p e s m below meth c ls X hr hlk G hl
  have X : xs_C p s m c b_T_covers 6 _ "ExactScene$Triangle" := X
  have hx := X.1
  have hb := X.2.1
  have hl : lv_has ls 6 [(0, .ref (ad (14 + 7 * k))), (1, .int (x0)), (2, .int (x1))] := hl
  have L2 : ∀ (fu : Nat) (v1 : Int32) (v2 : Int32) (v3 : Int32) (H : Heap) (locs : List Loc) (ls : Array Slot) (z : ((Int32) ⊕ Int32)), fn_T_covers_L2 fu μ0 k v1 v2 v3 = some z → xs_G D ad cs s (xs_A ad s.heap.size) s.heap μ0 H locs → lv_has ls 6 [(0, .ref (ad (14 + 7 * k))), (1, .int (v1)), (2, .int (v2)), (3, .int (v3))] → (∀ er, z = .inr er → er = rz) → (∀ ez, z = .inl ez → ∀ (H : Heap) (locs : List Loc) (ls : Array Slot), xs_G D ad cs s (xs_A ad s.heap.size) s.heap μ0 H locs → lv_has ls 6 [(0, .ref (ad (14 + 7 * k))), (1, .int (v1)), (2, .int (v2)), (3, .int (ez))] → W p l e (xs_rm 1 23) s m ([.ref (ad (14 + 7 * k)), .int (x0), .int (x1)] : List Value).toArray below meth c H locs 0 0 (xs_E below D ad cs [.ref (ad (14 + 7 * k)), .int (x0), .int (x1)] s (some (.int rz)) μ0) (F0 m 46 ls [])) → W p l e (xs_rm 1 23) s m ([.ref (ad (14 + 7 * k)), .int (x0), .int (x1)] : List Value).toArray below meth c H locs 0 0 (xs_E below D ad cs [.ref (ad (14 + 7 * k)), .int (x0), .int (x1)] s (some (.int rz)) μ0) (F0 m 2 ls []) := by
    clear hE hl G
    intro fu
    induction fu with
    | zero =>
      intro v1 v2 v3 H locs ls z hE
      rw [fn_T_covers_L2] at hE
      cases hE
    | succ fu ih =>
      intro v1 v2 v3 H locs ls z hE G hl kr kk
      rw [fn_T_covers_L2] at hE
      refine lv_iload_n (pc := 2) hx hb d_T_covers_2 rfl (lv_at hl 3 rfl) ?_
      refine lv_iconst (pc := 3) (v := (3 : Int32)) hx hb d_T_covers_3 (by decide) ?_
      refine lv_icmp_ge (pc := 4) (tgt := 46) hx hb d_T_covers_4 (by decide) (fun hc => ?_) (fun hc => ?_)
      · have hE := xs_t hE hc
        exact kk _ (Option.some.inj hE).symm _ _ _ G (lv_sub hl [0, 1, 2, 3] rfl)
      · have hE := xs_f hE hc
        refine lv_aload_n (pc := 7) hx hb d_T_covers_7 rfl (lv_at hl 0 rfl) ?_
        refine lv_iload_n (pc := 8) hx hb d_T_covers_8 rfl (lv_at hl 3 rfl) ?_
        refine lv_iload_n (pc := 9) hx hb d_T_covers_9 rfl (lv_at hl 1 rfl) ?_
        refine lv_iload_n (pc := 10) hx hb d_T_covers_10 rfl (lv_at hl 2 rfl) ?_
        obtain ⟨w1, hw1, hE⟩ := xs_b hE
        refine xs_callVr (pc := 11) (as := [.int (v3), .int (v1), .int (v2)]) X (ok_T_weightAt l D ad cs hJ hk hw1) km_T_62 G (xs_wT ad cs _ hk) rfl ⟨by decide, by decide⟩ ⟨Nat.zero_le _, Nat.zero_le _⟩ rfl hl.1 rfl (Nat.le_of_ble_eq_true rfl) d_T_covers_11 (fun H locs G => ?_)
        refine lv_lstore (pc := 14) hx hb d_T_covers_14 hl (by decide) (lv' := [(4, .long (w1)), (0, .ref (ad (14 + 7 * k))), (1, .int (v1)), (2, .int (v2)), (3, .int (v3))]) rfl (fun ls hl => ?_)
        refine lv_lload (pc := 16) hx hb d_T_covers_16 (lv_at hl 0 rfl) ?_
        refine lv_lconst (pc := 18) (v := (0 : Int64)) hx hb d_T_covers_18 (by decide) ?_
        refine W.lcmp (pc := 19) hx hb d_T_covers_19 ?_
        refine lv_if_lt (pc := 20) (tgt := 38) hx hb d_T_covers_20 (by decide) (fun hc => ?_) (fun hc => ?_)
        · have hE := xs_t hE hc
          refine lv_iconst (pc := 38) (v := (0 : Int32)) hx hb d_T_covers_38 (by decide) ?_
          have er := kr _ (Option.some.inj hE).symm
          rw [← er]
          exact xs_zret (pc := 39) hx hb hr hlk G (Or.inl rfl) d_T_covers_39
        · have hE := xs_f hE hc
          refine lv_lload (pc := 23) hx hb d_T_covers_23 (lv_at hl 0 rfl) ?_
          refine lv_lconst (pc := 25) (v := (0 : Int64)) hx hb d_T_covers_25 (by decide) ?_
          refine W.lcmp (pc := 26) hx hb d_T_covers_26 ?_
          refine lv_if_ne (pc := 27) (tgt := 40) hx hb d_T_covers_27 (by decide) (fun hc => ?_) (fun hc => ?_)
          · have hE := xs_f hE hc
            refine lv_iinc (pc := 40) (v := (v3 + 1)) (k := 4) hx hb d_T_covers_40 hl rfl (xs_inc _) (by decide) (lv' := [(3, .int ((v3 + 1))), (4, .long (w1)), (0, .ref (ad (14 + 7 * k))), (1, .int (v1)), (2, .int (v2))]) rfl (fun ls hl => ?_)
            refine lv_goto (pc := 43) (tgt := 2) hx hb d_T_covers_43 (by decide) ?_
            exact ih _ _ _ _ _ _ _ hE G (lv_sub hl [2, 3, 4, 0] rfl) kr kk
          · have hE := xs_t hE hc
            refine lv_aload_n (pc := 30) hx hb d_T_covers_30 rfl (lv_at hl 1 rfl) ?_
            refine lv_iload_n (pc := 31) hx hb d_T_covers_31 rfl (lv_at hl 4 rfl) ?_
            obtain ⟨w2, hw2, hE⟩ := xs_b hE
            refine xs_callVr (pc := 32) (as := [.int (v3)]) X (ok_T_ownsItsEdge l D ad cs hJ hk hw2) km_T_66 G (xs_wT ad cs _ hk) rfl ⟨by decide, by decide⟩ ⟨Nat.zero_le _, Nat.zero_le _⟩ rfl hl.1 rfl (Nat.le_of_ble_eq_true rfl) d_T_covers_32 (fun H locs G => ?_)
            refine lv_if_ne (pc := 35) (tgt := 40) hx hb d_T_covers_35 (by decide) (fun hc => ?_) (fun hc => ?_)
            · have hE := xs_f hE hc
              refine lv_iinc (pc := 40) (v := (v3 + 1)) (k := 4) hx hb d_T_covers_40 hl rfl (xs_inc _) (by decide) (lv' := [(3, .int ((v3 + 1))), (4, .long (w1)), (0, .ref (ad (14 + 7 * k))), (1, .int (v1)), (2, .int (v2))]) rfl (fun ls hl => ?_)
              refine lv_goto (pc := 43) (tgt := 2) hx hb d_T_covers_43 (by decide) ?_
              exact ih _ _ _ _ _ _ _ hE G (lv_sub hl [2, 3, 4, 0] rfl) kr kk
            · have hE := xs_t hE hc
              refine lv_iconst (pc := 38) (v := (0 : Int32)) hx hb d_T_covers_38 (by decide) ?_
              have er := kr _ (Option.some.inj hE).symm
              rw [← er]
              exact xs_zret (pc := 39) hx hb hr hlk G (Or.inl rfl) d_T_covers_39
  unfold fn_T_covers at hE
  refine lv_iconst (pc := 0) (v := (0 : Int32)) hx hb d_T_covers_0 (by decide) ?_
  refine lv_istore_n (pc := 1) hx hb d_T_covers_1 rfl hl (by decide) (lv' := [(3, .int ((0 : Int32))), (0, .ref (ad (14 + 7 * k))), (1, .int (x0)), (2, .int (x1))]) rfl (fun ls hl => ?_)
  obtain ⟨z3, hz3, hE⟩ := xs_b hE
  refine L2 _ _ _ _ _ _ _ _ hz3 G (lv_sub hl [1, 2, 3, 0] rfl) (fun er h => xs_er1 hE h) (fun ez3 he H locs ls G hl => ?_)
  have hE := xs_el hE he
  refine lv_iconst (pc := 46) (v := (1 : Int32)) hx hb d_T_covers_46 (by decide) ?_
  cases hE
  exact xs_zret (pc := 47) hx hb hr hlk G (Or.inr rfl) d_T_covers_47
def fn_T_depthOver_L5 : Nat → xs_M → Nat → Int32 → Int32 → Int64 → Int32 →  Option (Int64 × Int32)
  | 0, _, _, _, _, _, _ => none
  | fu + 1, μ0, k, v1, v2, v3, v5 => (if (3 : Int32) ≤ v5 then some ((v3, v5)) else ((fn_T_weightAt μ0 k v5 v1 v2).bind fun w1 => (if xs_in ((v5 * (4 : Int32)) + (4 : Int32)) 13 = true then ((some (v3 + (w1 * (μ0.2 (14 + 7 * k + 1) ((v5 * (4 : Int32)) + (4 : Int32)).toNatClampNeg)))).bind fun a3 => fn_T_depthOver_L5 fu μ0 k v1 v2 a3 (v5 + 1)) else none)))
def fn_T_depthOver (μ0 : xs_M) (k : Nat) (x0 : Int32) (x1 : Int32) : Option Int64 :=
  ((fn_T_depthOver_L5 xs_FU μ0 k x0 x1 (0 : Int64) (0 : Int32)).bind fun z4 => some (z4.1))
set_option maxHeartbeats 4000000 in
set_option maxRecDepth 100000 in
theorem ok_T_depthOver (l : Launch) (D : va_G) (ad : Nat → Nat) (cs : xs_cs) (hJ : xs_J ad) {μ0 : xs_M} {k : Nat} {x0 : Int32} {x1 : Int32} (hk : k < 20) {rz : Int64} (hE : fn_T_depthOver μ0 k x0 x1 = some rz) : xs_I l D ad cs y_T_depthOver b_T_depthOver 6 (some .long) 1 23 [.ref (ad (14 + 7 * k)), .int (x0), .int (x1)] μ0 (some (.long rz)) μ0 := by
  refine xs_entry hJ (by decide) (Nat.le_of_ble_eq_true rfl) ?_
  intro p e s m below meth c ls X hr hlk G hl
  have X : xs_C p s m c b_T_depthOver 6 _ "ExactScene$Triangle" := X
  have hx := X.1
  have hb := X.2.1
  have hl : lv_has ls 6 [(0, .ref (ad (14 + 7 * k))), (1, .int (x0)), (2, .int (x1))] := hl
  have L5 : ∀ (fu : Nat) (v1 : Int32) (v2 : Int32) (v3 : Int64) (v5 : Int32) (H : Heap) (locs : List Loc) (ls : Array Slot) (z : (Int64 × Int32)), fn_T_depthOver_L5 fu μ0 k v1 v2 v3 v5 = some z → xs_G D ad cs s (xs_A ad s.heap.size) s.heap μ0 H locs → lv_has ls 6 [(0, .ref (ad (14 + 7 * k))), (1, .int (v1)), (2, .int (v2)), (3, .long (v3)), (5, .int (v5))] → (∀ (H : Heap) (locs : List Loc) (ls : Array Slot), xs_G D ad cs s (xs_A ad s.heap.size) s.heap μ0 H locs → lv_has ls 6 [(0, .ref (ad (14 + 7 * k))), (1, .int (v1)), (2, .int (v2)), (3, .long (z.1)), (5, .int (z.2))] → W p l e (xs_rm 1 23) s m ([.ref (ad (14 + 7 * k)), .int (x0), .int (x1)] : List Value).toArray below meth c H locs 0 0 (xs_E below D ad cs [.ref (ad (14 + 7 * k)), .int (x0), .int (x1)] s (some (.long rz)) μ0) (F0 m 40 ls [])) → W p l e (xs_rm 1 23) s m ([.ref (ad (14 + 7 * k)), .int (x0), .int (x1)] : List Value).toArray below meth c H locs 0 0 (xs_E below D ad cs [.ref (ad (14 + 7 * k)), .int (x0), .int (x1)] s (some (.long rz)) μ0) (F0 m 5 ls []) := by
    clear hE hl G
    intro fu
    induction fu with
    | zero =>
      intro v1 v2 v3 v5 H locs ls z hE
      rw [fn_T_depthOver_L5] at hE
      cases hE
    | succ fu ih =>
      intro v1 v2 v3 v5 H locs ls z hE G hl kk
      rw [fn_T_depthOver_L5] at hE
      refine lv_iload (pc := 5) hx hb d_T_depthOver_5 (lv_at hl 4 rfl) ?_
      refine lv_iconst (pc := 7) (v := (3 : Int32)) hx hb d_T_depthOver_7 (by decide) ?_
      refine lv_icmp_ge (pc := 8) (tgt := 40) hx hb d_T_depthOver_8 (by decide) (fun hc => ?_) (fun hc => ?_)
      · have hE := xs_t hE hc
        cases hE
        exact kk _ _ _ G (lv_sub hl [0, 1, 2, 3, 4] rfl)
      · have hE := xs_f hE hc
        refine lv_lload_n (pc := 11) hx hb d_T_depthOver_11 rfl (lv_at hl 3 rfl) ?_
        refine lv_aload_n (pc := 12) hx hb d_T_depthOver_12 rfl (lv_at hl 0 rfl) ?_
        refine lv_iload (pc := 13) hx hb d_T_depthOver_13 (lv_at hl 4 rfl) ?_
        refine lv_iload_n (pc := 15) hx hb d_T_depthOver_15 rfl (lv_at hl 1 rfl) ?_
        refine lv_iload_n (pc := 16) hx hb d_T_depthOver_16 rfl (lv_at hl 2 rfl) ?_
        obtain ⟨w1, hw1, hE⟩ := xs_b hE
        refine xs_callVr (pc := 17) (as := [.int (v5), .int (v1), .int (v2)]) X (ok_T_weightAt l D ad cs hJ hk hw1) km_T_62 G (xs_wT ad cs _ hk) rfl ⟨by decide, by decide⟩ ⟨Nat.zero_le _, Nat.zero_le _⟩ rfl hl.1 rfl (Nat.le_of_ble_eq_true rfl) d_T_depthOver_17 (fun H locs G => ?_)
        refine lv_aload_n (pc := 20) hx hb d_T_depthOver_20 rfl (lv_at hl 0 rfl) ?_
        refine gf_T_11 (pc := 21) X G hk d_T_depthOver_21 ?_
        refine lv_iload (pc := 24) hx hb d_T_depthOver_24 (lv_at hl 4 rfl) ?_
        refine lv_iconst (pc := 26) (v := (4 : Int32)) hx hb d_T_depthOver_26 (by decide) ?_
        refine lv_imul (pc := 27) hx hb d_T_depthOver_27 ?_
        refine lv_iconst (pc := 28) (v := (4 : Int32)) hx hb d_T_depthOver_28 (by decide) ?_
        refine lv_iadd (pc := 29) hx hb d_T_depthOver_29 ?_
        obtain ⟨hi2, hE⟩ := xs_n hE
        refine xs_lald (pc := 30) hx hb G (la_T1 hk) (xs_inP hi2) d_T_depthOver_30 ?_
        refine lv_lmul (pc := 31) hx hb d_T_depthOver_31 ?_
        refine lv_ladd (pc := 32) hx hb d_T_depthOver_32 ?_
        obtain ⟨a3, ha3, hE⟩ := xs_b hE
        refine xs_tl ha3 ?_
        clear ha3
        refine lv_lstore_n (pc := 33) hx hb d_T_depthOver_33 rfl hl (by decide) (lv' := [(3, .long (a3)), (0, .ref (ad (14 + 7 * k))), (1, .int (v1)), (2, .int (v2)), (5, .int (v5))]) rfl (fun ls hl => ?_)
        refine lv_iinc (pc := 34) (v := (v5 + 1)) (k := 4) hx hb d_T_depthOver_34 hl rfl (xs_inc _) (by decide) (lv' := [(5, .int ((v5 + 1))), (3, .long (a3)), (0, .ref (ad (14 + 7 * k))), (1, .int (v1)), (2, .int (v2))]) rfl (fun ls hl => ?_)
        refine lv_goto (pc := 37) (tgt := 5) hx hb d_T_depthOver_37 (by decide) ?_
        exact ih _ _ _ _ _ _ _ _ hE G (lv_sub hl [2, 3, 4, 1, 0] rfl) kk
  unfold fn_T_depthOver at hE
  refine lv_lconst (pc := 0) (v := (0 : Int64)) hx hb d_T_depthOver_0 (by decide) ?_
  refine lv_lstore_n (pc := 1) hx hb d_T_depthOver_1 rfl hl (by decide) (lv' := [(3, .long ((0 : Int64))), (0, .ref (ad (14 + 7 * k))), (1, .int (x0)), (2, .int (x1))]) rfl (fun ls hl => ?_)
  refine lv_iconst (pc := 2) (v := (0 : Int32)) hx hb d_T_depthOver_2 (by decide) ?_
  refine lv_istore (pc := 3) hx hb d_T_depthOver_3 hl (by decide) (lv' := [(5, .int ((0 : Int32))), (3, .long ((0 : Int64))), (0, .ref (ad (14 + 7 * k))), (1, .int (x0)), (2, .int (x1))]) rfl (fun ls hl => ?_)
  obtain ⟨z4, hz4, hE⟩ := xs_b hE
  refine L5 _ _ _ _ _ _ _ _ _ hz4 G (lv_sub hl [2, 3, 4, 1, 0] rfl) (fun H locs ls G hl => ?_)
  refine lv_lload_n (pc := 40) hx hb d_T_depthOver_40 rfl (lv_at hl 3 rfl) ?_
  cases hE
  exact xs_lret (pc := 41) hx hb hr hlk G d_T_depthOver_41
def fn_T_weigh_L9 : Nat → xs_M → Nat → Nat → Int32 → Int32 → Int64 → Int64 → Int32 →  Option (Int64 × Int64 × Int32)
  | 0, _, _, _, _, _, _, _, _ => none
  | fu + 1, μ0, k, q0, v2, v3, v4, v6, v8 => (if (3 : Int32) ≤ v8 then some ((v4, v6, v8)) else ((fn_T_weightAt μ0 k v8 v2 v3).bind fun w1 => (if xs_in v8 3 = true then ((some (v4 + (w1 * ((μ0.1 q0 v8.toNatClampNeg)).toInt64))).bind fun a3 => ((some (v6 + w1)).bind fun a4 => fn_T_weigh_L9 fu μ0 k q0 v2 v3 a3 a4 (v8 + 1))) else none)))
def fn_T_weigh (μ0 : xs_M) (k : Nat) (q0 : Nat) (x1 : Int32) (x2 : Int32) : Option Int64 :=
  ((fn_T_weigh_L9 xs_FU μ0 k q0 x1 x2 (0 : Int64) (0 : Int64) (0 : Int32)).bind fun z5 => ((fn_S_cutDown μ0 z5.1 z5.2.1).bind fun w6 => some (w6)))
set_option maxHeartbeats 4000000 in
set_option maxRecDepth 100000 in
theorem ok_T_weigh (l : Launch) (D : va_G) (ad : Nat → Nat) (cs : xs_cs) (hJ : xs_J ad) {μ0 : xs_M} {k : Nat} {q0 : Nat} {x1 : Int32} {x2 : Int32} (hk : k < 20) (hq0 : xs_IA ad cs q0 3) {rz : Int64} (hE : fn_T_weigh μ0 k q0 x1 x2 = some rz) : xs_I l D ad cs y_T_weigh b_T_weigh 11 (some .long) 2 48 [.ref (ad (14 + 7 * k)), .ref (ad q0), .int (x1), .int (x2)] μ0 (some (.long rz)) μ0 := by
  refine xs_entry hJ (by decide) (Nat.le_of_ble_eq_true rfl) ?_
  intro p e s m below meth c ls X hr hlk G hl
  have X : xs_C p s m c b_T_weigh 11 _ "ExactScene$Triangle" := X
  have hx := X.1
  have hb := X.2.1
  have hl : lv_has ls 11 [(0, .ref (ad (14 + 7 * k))), (1, .ref (ad q0)), (2, .int (x1)), (3, .int (x2))] := hl
  have L9 : ∀ (fu : Nat) (v2 : Int32) (v3 : Int32) (v4 : Int64) (v6 : Int64) (v8 : Int32) (H : Heap) (locs : List Loc) (ls : Array Slot) (z : (Int64 × Int64 × Int32)), fn_T_weigh_L9 fu μ0 k q0 v2 v3 v4 v6 v8 = some z → xs_G D ad cs s (xs_A ad s.heap.size) s.heap μ0 H locs → lv_has ls 11 [(0, .ref (ad (14 + 7 * k))), (1, .ref (ad q0)), (2, .int (v2)), (3, .int (v3)), (4, .long (v4)), (6, .long (v6)), (8, .int (v8))] → (∀ (H : Heap) (locs : List Loc) (ls : Array Slot), xs_G D ad cs s (xs_A ad s.heap.size) s.heap μ0 H locs → lv_has ls 11 [(0, .ref (ad (14 + 7 * k))), (1, .ref (ad q0)), (2, .int (v2)), (3, .int (v3)), (4, .long (z.1)), (6, .long (z.2.1)), (8, .int (z.2.2))] → W p l e (xs_rm 2 48) s m ([.ref (ad (14 + 7 * k)), .ref (ad q0), .int (x1), .int (x2)] : List Value).toArray below meth c H locs 0 0 (xs_E below D ad cs [.ref (ad (14 + 7 * k)), .ref (ad q0), .int (x1), .int (x2)] s (some (.long rz)) μ0) (F0 m 51 ls [])) → W p l e (xs_rm 2 48) s m ([.ref (ad (14 + 7 * k)), .ref (ad q0), .int (x1), .int (x2)] : List Value).toArray below meth c H locs 0 0 (xs_E below D ad cs [.ref (ad (14 + 7 * k)), .ref (ad q0), .int (x1), .int (x2)] s (some (.long rz)) μ0) (F0 m 9 ls []) := by
    clear hE hl G
    intro fu
    induction fu with
    | zero =>
      intro v2 v3 v4 v6 v8 H locs ls z hE
      rw [fn_T_weigh_L9] at hE
      cases hE
    | succ fu ih =>
      intro v2 v3 v4 v6 v8 H locs ls z hE G hl kk
      rw [fn_T_weigh_L9] at hE
      refine lv_iload (pc := 9) hx hb d_T_weigh_9 (lv_at hl 6 rfl) ?_
      refine lv_iconst (pc := 11) (v := (3 : Int32)) hx hb d_T_weigh_11 (by decide) ?_
      refine lv_icmp_ge (pc := 12) (tgt := 51) hx hb d_T_weigh_12 (by decide) (fun hc => ?_) (fun hc => ?_)
      · have hE := xs_t hE hc
        cases hE
        exact kk _ _ _ G (lv_sub hl [0, 1, 2, 3, 4, 5, 6] rfl)
      · have hE := xs_f hE hc
        refine lv_aload_n (pc := 15) hx hb d_T_weigh_15 rfl (lv_at hl 0 rfl) ?_
        refine lv_iload (pc := 16) hx hb d_T_weigh_16 (lv_at hl 6 rfl) ?_
        refine lv_iload_n (pc := 18) hx hb d_T_weigh_18 rfl (lv_at hl 2 rfl) ?_
        refine lv_iload_n (pc := 19) hx hb d_T_weigh_19 rfl (lv_at hl 3 rfl) ?_
        obtain ⟨w1, hw1, hE⟩ := xs_b hE
        refine xs_callVr (pc := 20) (as := [.int (v8), .int (v2), .int (v3)]) X (ok_T_weightAt l D ad cs hJ hk hw1) km_T_62 G (xs_wT ad cs _ hk) rfl ⟨by decide, by decide⟩ ⟨Nat.zero_le _, Nat.zero_le _⟩ rfl hl.1 rfl (Nat.le_of_ble_eq_true rfl) d_T_weigh_20 (fun H locs G => ?_)
        refine lv_lstore (pc := 23) hx hb d_T_weigh_23 hl (by decide) (lv' := [(9, .long (w1)), (0, .ref (ad (14 + 7 * k))), (1, .ref (ad q0)), (2, .int (v2)), (3, .int (v3)), (4, .long (v4)), (6, .long (v6)), (8, .int (v8))]) rfl (fun ls hl => ?_)
        refine lv_lload (pc := 25) hx hb d_T_weigh_25 (lv_at hl 5 rfl) ?_
        refine lv_lload (pc := 27) hx hb d_T_weigh_27 (lv_at hl 0 rfl) ?_
        refine lv_aload_n (pc := 29) hx hb d_T_weigh_29 rfl (lv_at hl 2 rfl) ?_
        refine lv_iload (pc := 30) hx hb d_T_weigh_30 (lv_at hl 7 rfl) ?_
        obtain ⟨hi2, hE⟩ := xs_n hE
        refine xs_iald (pc := 32) hx hb G hq0 (xs_inP hi2) d_T_weigh_32 ?_
        refine lv_i2l (pc := 33) hx hb d_T_weigh_33 rfl ?_
        refine lv_lmul (pc := 34) hx hb d_T_weigh_34 ?_
        refine lv_ladd (pc := 35) hx hb d_T_weigh_35 ?_
        obtain ⟨a3, ha3, hE⟩ := xs_b hE
        refine xs_tl ha3 ?_
        clear ha3
        refine lv_lstore (pc := 36) hx hb d_T_weigh_36 hl (by decide) (lv' := [(4, .long (a3)), (9, .long (w1)), (0, .ref (ad (14 + 7 * k))), (1, .ref (ad q0)), (2, .int (v2)), (3, .int (v3)), (6, .long (v6)), (8, .int (v8))]) rfl (fun ls hl => ?_)
        refine lv_lload (pc := 38) hx hb d_T_weigh_38 (lv_at hl 6 rfl) ?_
        refine lv_lload (pc := 40) hx hb d_T_weigh_40 (lv_at hl 1 rfl) ?_
        refine lv_ladd (pc := 42) hx hb d_T_weigh_42 ?_
        obtain ⟨a4, ha4, hE⟩ := xs_b hE
        refine xs_tl ha4 ?_
        clear ha4
        refine lv_lstore (pc := 43) hx hb d_T_weigh_43 hl (by decide) (lv' := [(6, .long (a4)), (4, .long (a3)), (9, .long (w1)), (0, .ref (ad (14 + 7 * k))), (1, .ref (ad q0)), (2, .int (v2)), (3, .int (v3)), (8, .int (v8))]) rfl (fun ls hl => ?_)
        refine lv_iinc (pc := 45) (v := (v8 + 1)) (k := 7) hx hb d_T_weigh_45 hl rfl (xs_inc _) (by decide) (lv' := [(8, .int ((v8 + 1))), (6, .long (a4)), (4, .long (a3)), (9, .long (w1)), (0, .ref (ad (14 + 7 * k))), (1, .ref (ad q0)), (2, .int (v2)), (3, .int (v3))]) rfl (fun ls hl => ?_)
        refine lv_goto (pc := 48) (tgt := 9) hx hb d_T_weigh_48 (by decide) ?_
        exact ih _ _ _ _ _ _ _ _ _ hE G (lv_sub hl [4, 5, 6, 7, 2, 1, 0] rfl) kk
  unfold fn_T_weigh at hE
  refine lv_lconst (pc := 0) (v := (0 : Int64)) hx hb d_T_weigh_0 (by decide) ?_
  refine lv_lstore (pc := 1) hx hb d_T_weigh_1 hl (by decide) (lv' := [(4, .long ((0 : Int64))), (0, .ref (ad (14 + 7 * k))), (1, .ref (ad q0)), (2, .int (x1)), (3, .int (x2))]) rfl (fun ls hl => ?_)
  refine lv_lconst (pc := 3) (v := (0 : Int64)) hx hb d_T_weigh_3 (by decide) ?_
  refine lv_lstore (pc := 4) hx hb d_T_weigh_4 hl (by decide) (lv' := [(6, .long ((0 : Int64))), (4, .long ((0 : Int64))), (0, .ref (ad (14 + 7 * k))), (1, .ref (ad q0)), (2, .int (x1)), (3, .int (x2))]) rfl (fun ls hl => ?_)
  refine lv_iconst (pc := 6) (v := (0 : Int32)) hx hb d_T_weigh_6 (by decide) ?_
  refine lv_istore (pc := 7) hx hb d_T_weigh_7 hl (by decide) (lv' := [(8, .int ((0 : Int32))), (6, .long ((0 : Int64))), (4, .long ((0 : Int64))), (0, .ref (ad (14 + 7 * k))), (1, .ref (ad q0)), (2, .int (x1)), (3, .int (x2))]) rfl (fun ls hl => ?_)
  obtain ⟨z5, hz5, hE⟩ := xs_b hE
  refine L9 _ _ _ _ _ _ _ _ _ _ hz5 G (lv_sub hl [3, 4, 5, 6, 2, 1, 0] rfl) (fun H locs ls G hl => ?_)
  refine lv_lload (pc := 51) hx hb d_T_weigh_51 (lv_at hl 4 rfl) ?_
  refine lv_lload (pc := 53) hx hb d_T_weigh_53 (lv_at hl 5 rfl) ?_
  obtain ⟨w6, hw6, hE⟩ := xs_b hE
  refine xs_callSNr (pc := 55) (as := [.long (z5.1), .long (z5.2.1)]) X (ok_S_cutDown l D ad cs hJ hw6) km_T_74 G ⟨by decide, by decide⟩ ⟨Nat.zero_le _, Nat.zero_le _⟩ rfl hl.1 rfl (Nat.le_of_ble_eq_true rfl) d_T_weigh_55 (fun H locs G => ?_)
  cases hE
  exact xs_lret (pc := 58) hx hb hr hlk G d_T_weigh_58
def fn_T_textureU (μ0 : xs_M) (k : Nat) (x0 : Int32) (x1 : Int32) : Option Int64 :=
  ((fn_T_weigh μ0 k (14 + 7 * k + 2) x0 x1).bind fun w1 => some (w1))
set_option maxHeartbeats 4000000 in
set_option maxRecDepth 100000 in
theorem ok_T_textureU (l : Launch) (D : va_G) (ad : Nat → Nat) (cs : xs_cs) (hJ : xs_J ad) {μ0 : xs_M} {k : Nat} {x0 : Int32} {x1 : Int32} (hk : k < 20) {rz : Int64} (hE : fn_T_textureU μ0 k x0 x1 = some rz) : xs_I l D ad cs y_T_textureU b_T_textureU 3 (some .long) 3 78 [.ref (ad (14 + 7 * k)), .int (x0), .int (x1)] μ0 (some (.long rz)) μ0 := by
  refine xs_entry hJ (by decide) (Nat.le_of_ble_eq_true rfl) ?_
  intro p e s m below meth c ls X hr hlk G hl
  have X : xs_C p s m c b_T_textureU 3 _ "ExactScene$Triangle" := X
  have hx := X.1
  have hb := X.2.1
  have hl : lv_has ls 3 [(0, .ref (ad (14 + 7 * k))), (1, .int (x0)), (2, .int (x1))] := hl
  unfold fn_T_textureU at hE
  refine lv_aload_n (pc := 0) hx hb d_T_textureU_0 rfl (lv_at hl 0 rfl) ?_
  refine lv_aload_n (pc := 1) hx hb d_T_textureU_1 rfl (lv_at hl 0 rfl) ?_
  refine gf_T_15 (pc := 2) X G hk d_T_textureU_2 ?_
  refine lv_iload_n (pc := 5) hx hb d_T_textureU_5 rfl (lv_at hl 1 rfl) ?_
  refine lv_iload_n (pc := 6) hx hb d_T_textureU_6 rfl (lv_at hl 2 rfl) ?_
  obtain ⟨w1, hw1, hE⟩ := xs_b hE
  refine xs_callVr (pc := 7) (as := [.ref (ad (14 + 7 * k + 2)), .int (x0), .int (x1)]) X (ok_T_weigh l D ad cs hJ hk (ia_T2 hk) hw1) km_T_70 G (xs_wT ad cs _ hk) rfl ⟨by decide, by decide⟩ ⟨Nat.zero_le _, Nat.zero_le _⟩ rfl hl.1 rfl (Nat.le_of_ble_eq_true rfl) d_T_textureU_7 (fun H locs G => ?_)
  cases hE
  exact xs_lret (pc := 10) hx hb hr hlk G d_T_textureU_10
def fn_T_textureV (μ0 : xs_M) (k : Nat) (x0 : Int32) (x1 : Int32) : Option Int64 :=
  ((fn_T_weigh μ0 k (14 + 7 * k + 3) x0 x1).bind fun w1 => some (w1))
set_option maxHeartbeats 4000000 in
set_option maxRecDepth 100000 in
theorem ok_T_textureV (l : Launch) (D : va_G) (ad : Nat → Nat) (cs : xs_cs) (hJ : xs_J ad) {μ0 : xs_M} {k : Nat} {x0 : Int32} {x1 : Int32} (hk : k < 20) {rz : Int64} (hE : fn_T_textureV μ0 k x0 x1 = some rz) : xs_I l D ad cs y_T_textureV b_T_textureV 3 (some .long) 3 78 [.ref (ad (14 + 7 * k)), .int (x0), .int (x1)] μ0 (some (.long rz)) μ0 := by
  refine xs_entry hJ (by decide) (Nat.le_of_ble_eq_true rfl) ?_
  intro p e s m below meth c ls X hr hlk G hl
  have X : xs_C p s m c b_T_textureV 3 _ "ExactScene$Triangle" := X
  have hx := X.1
  have hb := X.2.1
  have hl : lv_has ls 3 [(0, .ref (ad (14 + 7 * k))), (1, .int (x0)), (2, .int (x1))] := hl
  unfold fn_T_textureV at hE
  refine lv_aload_n (pc := 0) hx hb d_T_textureV_0 rfl (lv_at hl 0 rfl) ?_
  refine lv_aload_n (pc := 1) hx hb d_T_textureV_1 rfl (lv_at hl 0 rfl) ?_
  refine gf_T_19 (pc := 2) X G hk d_T_textureV_2 ?_
  refine lv_iload_n (pc := 5) hx hb d_T_textureV_5 rfl (lv_at hl 1 rfl) ?_
  refine lv_iload_n (pc := 6) hx hb d_T_textureV_6 rfl (lv_at hl 2 rfl) ?_
  obtain ⟨w1, hw1, hE⟩ := xs_b hE
  refine xs_callVr (pc := 7) (as := [.ref (ad (14 + 7 * k + 3)), .int (x0), .int (x1)]) X (ok_T_weigh l D ad cs hJ hk (ia_T3 hk) hw1) km_T_70 G (xs_wT ad cs _ hk) rfl ⟨by decide, by decide⟩ ⟨Nat.zero_le _, Nat.zero_le _⟩ rfl hl.1 rfl (Nat.le_of_ble_eq_true rfl) d_T_textureV_7 (fun H locs G => ?_)
  cases hE
  exact xs_lret (pc := 10) hx hb hr hlk G d_T_textureV_10
def fn_T_numberAt (μ0 : xs_M) (k : Nat) (x0 : Int32) : Option Int64 :=
  (if xs_in x0 13 = true then some ((μ0.2 (14 + 7 * k + 1) x0.toNatClampNeg)) else none)
set_option maxHeartbeats 4000000 in
set_option maxRecDepth 100000 in
theorem ok_T_numberAt (l : Launch) (D : va_G) (ad : Nat → Nat) (cs : xs_cs) (hJ : xs_J ad) {μ0 : xs_M} {k : Nat} {x0 : Int32} (hk : k < 20) {rz : Int64} (hE : fn_T_numberAt μ0 k x0 = some rz) : xs_I l D ad cs y_T_numberAt b_T_numberAt 2 (some .long) 0 0 [.ref (ad (14 + 7 * k)), .int (x0)] μ0 (some (.long rz)) μ0 := by
  refine xs_entry hJ (by decide) (Nat.le_of_ble_eq_true rfl) ?_
  intro p e s m below meth c ls X hr hlk G hl
  have X : xs_C p s m c b_T_numberAt 2 _ "ExactScene$Triangle" := X
  have hx := X.1
  have hb := X.2.1
  have hl : lv_has ls 2 [(0, .ref (ad (14 + 7 * k))), (1, .int (x0))] := hl
  unfold fn_T_numberAt at hE
  refine lv_aload_n (pc := 0) hx hb d_T_numberAt_0 rfl (lv_at hl 0 rfl) ?_
  refine gf_T_11 (pc := 1) X G hk d_T_numberAt_1 ?_
  refine lv_iload_n (pc := 4) hx hb d_T_numberAt_4 rfl (lv_at hl 1 rfl) ?_
  obtain ⟨hi1, hE⟩ := xs_n hE
  refine xs_lald (pc := 5) hx hb G (la_T1 hk) (xs_inP hi1) d_T_numberAt_5 ?_
  cases hE
  exact xs_lret (pc := 6) hx hb hr hlk G d_T_numberAt_6
end
