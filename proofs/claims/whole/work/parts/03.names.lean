/-! Names of the claim: classes, fields, methods; the words that the tables hold. Written by wip/gen/mknames.py. -/
def R_A : String := "FamilyShelf$Algebra"
def R_D : String := "FamilyShelf$Diagram"
def R_F : String := "FamilyShelf$Family"
def R_G : String := "FamilyShelf$Graph"
def R_W : String := "FamilyShelf$Weights"
def R_S : String := "FamilyShelf"
def R_M : String := "FamilyShelfModel"
def R_L : String := "FamilyShelfLaw"
def T_A : u_T := fun k => match k with
  | 0 => ("FamilyShelf$Algebra", "helper", "LFamilyShelf$Family;", true)
  | 1 => ("FamilyShelf$Algebra", "quotient", "LFamilyShelf$Family;", true)
  | 2 => ("FamilyShelf$Algebra", "shifted", "[J", true)
  | _ => ("FamilyShelf$Algebra", "lowsBySize", "[J", true)
def ty_A : Nat → FieldType := fun k => match k with
  | 0 => .object "FamilyShelf$Family"
  | 1 => .object "FamilyShelf$Family"
  | 2 => .array .long
  | _ => .array .long
theorem nm_A : ∀ a, a < 4 → ∀ b, b < 4 → a ≠ b → (T_A a).2.1 ≠ (T_A b).2.1 := by decide +kernel
theorem ty_A_ok : ∀ k, k < 4 → parseFieldDescriptor (T_A k).2.2.1 = some (ty_A k) := by decide +kernel
def T_D : u_T := fun k => match k with
  | 0 => ("FamilyShelf$Diagram", "kinds", "[I", true)
  | 1 => ("FamilyShelf$Diagram", "newest", "[I", true)
  | 2 => ("FamilyShelf$Diagram", "older", "[I", true)
  | 3 => ("FamilyShelf$Diagram", "lacking", "[I", true)
  | _ => ("FamilyShelf$Diagram", "end", "I", false)
def ty_D : Nat → FieldType := fun k => match k with
  | 0 => .array .int
  | 1 => .array .int
  | 2 => .array .int
  | 3 => .array .int
  | _ => .int
theorem nm_D : ∀ a, a < 5 → ∀ b, b < 5 → a ≠ b → (T_D a).2.1 ≠ (T_D b).2.1 := by decide +kernel
theorem ty_D_ok : ∀ k, k < 5 → parseFieldDescriptor (T_D k).2.2.1 = some (ty_D k) := by decide +kernel
def T_F : u_T := fun k => match k with
  | _ => ("FamilyShelf$Family", "words", "[J", true)
def ty_F : Nat → FieldType := fun k => match k with
  | _ => .array .long
theorem nm_F : ∀ a, a < 1 → ∀ b, b < 1 → a ≠ b → (T_F a).2.1 ≠ (T_F b).2.1 := by decide +kernel
theorem ty_F_ok : ∀ k, k < 1 → parseFieldDescriptor (T_F k).2.2.1 = some (ty_F k) := by decide +kernel
def T_G : u_T := fun k => match k with
  | _ => ("FamilyShelf$Graph", "ends", "[I", true)
def ty_G : Nat → FieldType := fun k => match k with
  | _ => .array .int
theorem nm_G : ∀ a, a < 1 → ∀ b, b < 1 → a ≠ b → (T_G a).2.1 ≠ (T_G b).2.1 := by decide +kernel
theorem ty_G_ok : ∀ k, k < 1 → parseFieldDescriptor (T_G k).2.2.1 = some (ty_G k) := by decide +kernel
def T_W : u_T := fun k => match k with
  | 0 => ("FamilyShelf$Weights", "byElement", "[I", true)
  | 1 => ("FamilyShelf$Weights", "highSums", "[I", true)
  | _ => ("FamilyShelf$Weights", "lowSums", "[I", true)
def ty_W : Nat → FieldType := fun k => match k with
  | 0 => .array .int
  | 1 => .array .int
  | _ => .array .int
theorem nm_W : ∀ a, a < 3 → ∀ b, b < 3 → a ≠ b → (T_W a).2.1 ≠ (T_W b).2.1 := by decide +kernel
theorem ty_W_ok : ∀ k, k < 3 → parseFieldDescriptor (T_W k).2.2.1 = some (ty_W k) := by decide +kernel
def T_S : u_T := fun k => match k with
  | 0 => ("FamilyShelf", "shelves", "[LFamilyShelf$Family;", true)
  | 1 => ("FamilyShelf", "algebra", "LFamilyShelf$Algebra;", true)
  | 2 => ("FamilyShelf", "graph", "LFamilyShelf$Graph;", true)
  | 3 => ("FamilyShelf", "weights", "LFamilyShelf$Weights;", true)
  | 4 => ("FamilyShelf", "diagram", "LFamilyShelf$Diagram;", true)
  | _ => ("FamilyShelf", "fresh", "LFamilyShelf$Family;", false)
def ty_S : Nat → FieldType := fun k => match k with
  | 0 => .array (.object "FamilyShelf$Family")
  | 1 => .object "FamilyShelf$Algebra"
  | 2 => .object "FamilyShelf$Graph"
  | 3 => .object "FamilyShelf$Weights"
  | 4 => .object "FamilyShelf$Diagram"
  | _ => .object "FamilyShelf$Family"
theorem nm_S : ∀ a, a < 6 → ∀ b, b < 6 → a ≠ b → (T_S a).2.1 ≠ (T_S b).2.1 := by decide +kernel
theorem ty_S_ok : ∀ k, k < 6 → parseFieldDescriptor (T_S k).2.2.1 = some (ty_S k) := by decide +kernel
def T_M : u_T := fun k => match k with
  | 0 => ("FamilyShelfModel", "thrown", "I", false)
  | 1 => ("FamilyShelfModel", "shelves", "[J", true)
  | 2 => ("FamilyShelfModel", "made", "[J", true)
  | 3 => ("FamilyShelfModel", "quotient", "[J", true)
  | 4 => ("FamilyShelfModel", "one", "[I", true)
  | 5 => ("FamilyShelfModel", "two", "[I", true)
  | 6 => ("FamilyShelfModel", "ends", "[I", true)
  | 7 => ("FamilyShelfModel", "others", "[I", true)
  | _ => ("FamilyShelfModel", "weights", "[I", true)
def ty_M : Nat → FieldType := fun k => match k with
  | 0 => .int
  | 1 => .array .long
  | 2 => .array .long
  | 3 => .array .long
  | 4 => .array .int
  | 5 => .array .int
  | 6 => .array .int
  | 7 => .array .int
  | _ => .array .int
theorem nm_M : ∀ a, a < 9 → ∀ b, b < 9 → a ≠ b → (T_M a).2.1 ≠ (T_M b).2.1 := by decide +kernel
theorem ty_M_ok : ∀ k, k < 9 → parseFieldDescriptor (T_M k).2.2.1 = some (ty_M k) := by decide +kernel
abbrev cl_ : List vw_C := [(R_A, T_A, 4), (R_D, T_D, 5), (R_F, T_F, 1), (R_G, T_G, 1), (R_W, T_W, 3), (R_S, T_S, 6), (R_M, T_M, 9)]
abbrev bc_S_init : ByteArray := prog_1_method_1_code
def my_S_init : MethodName := ⟨"FamilyShelf", "<init>", "()V"⟩
abbrev bc_Jo_init : ByteArray := object_method_1_code
def my_Jo_init : MethodName := ⟨"java/lang/Object", "<init>", "()V"⟩
abbrev bc_A_init : ByteArray := prog_2_method_1_code
def my_A_init : MethodName := ⟨"FamilyShelf$Algebra", "<init>", "()V"⟩
abbrev bc_F_init : ByteArray := prog_4_method_1_code
def my_F_init : MethodName := ⟨"FamilyShelf$Family", "<init>", "()V"⟩
abbrev bc_Ji_bitCount : ByteArray := prog_13_method_49_code
def my_Ji_bitCount : MethodName := ⟨"java/lang/Integer", "bitCount", "(I)I"⟩
abbrev bc_G_init : ByteArray := prog_5_method_1_code
def my_G_init : MethodName := ⟨"FamilyShelf$Graph", "<init>", "()V"⟩
abbrev bc_W_init : ByteArray := prog_6_method_1_code
def my_W_init : MethodName := ⟨"FamilyShelf$Weights", "<init>", "()V"⟩
abbrev bc_D_init : ByteArray := prog_3_method_1_code
def my_D_init : MethodName := ⟨"FamilyShelf$Diagram", "<init>", "()V"⟩
abbrev bc_L_put : ByteArray := method_3_code
def my_L_put : MethodName := ⟨"FamilyShelfLaw", "put", "(LFamilyShelf;II[J)I"⟩
abbrev bc_S_put : ByteArray := prog_1_method_2_code
def my_S_put : MethodName := ⟨"FamilyShelf", "put", "(II)Z"⟩
abbrev bc_S_checkShelf : ByteArray := prog_1_method_24_code
def my_S_checkShelf : MethodName := ⟨"FamilyShelf", "checkShelf", "(I)V"⟩
abbrev bc_Jt_init_V : ByteArray := prog_18_method_1_code
def my_Jt_init_V : MethodName := ⟨"java/lang/Throwable", "<init>", "()V"⟩
abbrev bc_Jx_init : ByteArray := prog_12_method_2_code
def my_Jx_init : MethodName := ⟨"java/lang/IndexOutOfBoundsException", "<init>", "(Ljava/lang/String;)V"⟩
abbrev bc_Jr_init : ByteArray := prog_15_method_2_code
def my_Jr_init : MethodName := ⟨"java/lang/RuntimeException", "<init>", "(Ljava/lang/String;)V"⟩
abbrev bc_Je_init : ByteArray := prog_10_method_2_code
def my_Je_init : MethodName := ⟨"java/lang/Exception", "<init>", "(Ljava/lang/String;)V"⟩
abbrev bc_Jt_init_LjavalangStr : ByteArray := prog_18_method_2_code
def my_Jt_init_LjavalangStr : MethodName := ⟨"java/lang/Throwable", "<init>", "(Ljava/lang/String;)V"⟩
abbrev bc_S_checkSet : ByteArray := prog_1_method_27_code
def my_S_checkSet : MethodName := ⟨"FamilyShelf", "checkSet", "(I)V"⟩
abbrev bc_S_checkRange : ByteArray := prog_1_method_28_code
def my_S_checkRange : MethodName := ⟨"FamilyShelf", "checkRange", "(III)V"⟩
abbrev bc_Jg_init : ByteArray := prog_11_method_2_code
def my_Jg_init : MethodName := ⟨"java/lang/IllegalArgumentException", "<init>", "(Ljava/lang/String;)V"⟩
abbrev bc_S_mirrored : ByteArray := prog_1_method_23_code
def my_S_mirrored : MethodName := ⟨"FamilyShelf", "mirrored", "(I)I"⟩
abbrev bc_S_bitOf : ByteArray := prog_1_method_22_code
def my_S_bitOf : MethodName := ⟨"FamilyShelf", "bitOf", "(I)I"⟩
abbrev bc_F_holds : ByteArray := prog_4_method_4_code
def my_F_holds : MethodName := ⟨"FamilyShelf$Family", "holds", "(I)Z"⟩
abbrev bc_F_include : ByteArray := prog_4_method_5_code
def my_F_include : MethodName := ⟨"FamilyShelf$Family", "include", "(I)V"⟩
abbrev bc_L_take : ByteArray := method_4_code
def my_L_take : MethodName := ⟨"FamilyShelfLaw", "take", "(LFamilyShelf;II[J)I"⟩
abbrev bc_S_take : ByteArray := prog_1_method_3_code
def my_S_take : MethodName := ⟨"FamilyShelf", "take", "(II)Z"⟩
abbrev bc_F_exclude : ByteArray := prog_4_method_6_code
def my_F_exclude : MethodName := ⟨"FamilyShelf$Family", "exclude", "(I)V"⟩
abbrev bc_L_clear : ByteArray := method_5_code
def my_L_clear : MethodName := ⟨"FamilyShelfLaw", "clear", "(LFamilyShelf;I[J)I"⟩
abbrev bc_S_clear : ByteArray := prog_1_method_4_code
def my_S_clear : MethodName := ⟨"FamilyShelf", "clear", "(I)I"⟩
abbrev bc_F_total : ByteArray := prog_4_method_7_code
def my_F_total : MethodName := ⟨"FamilyShelf$Family", "total", "()I"⟩
abbrev bc_F_totalOfWords : ByteArray := prog_4_method_9_code
def my_F_totalOfWords : MethodName := ⟨"FamilyShelf$Family", "totalOfWords", "(I)I"⟩
abbrev bc_Jl_bitCount : ByteArray := prog_14_method_50_code
def my_Jl_bitCount : MethodName := ⟨"java/lang/Long", "bitCount", "(J)I"⟩
abbrev bc_F_fill : ByteArray := prog_4_method_2_code
def my_F_fill : MethodName := ⟨"FamilyShelf$Family", "fill", "(J)V"⟩
abbrev bc_Ja_fill_JJV : ByteArray := prog_19_method_101_code
def my_Ja_fill_JJV : MethodName := ⟨"java/util/Arrays", "fill", "([JJ)V"⟩
abbrev bc_L_combine : ByteArray := method_6_code
def my_L_combine : MethodName := ⟨"FamilyShelfLaw", "combine", "(LFamilyShelf;IIII[J)I"⟩
abbrev bc_S_combine : ByteArray := prog_1_method_5_code
def my_S_combine : MethodName := ⟨"FamilyShelf", "combine", "(IIII)I"⟩
abbrev bc_S_checkDivisor : ByteArray := prog_1_method_30_code
def my_S_checkDivisor : MethodName := ⟨"FamilyShelf", "checkDivisor", "(LFamilyShelf$Family;)V"⟩
abbrev bc_Jm_init : ByteArray := prog_9_method_2_code
def my_Jm_init : MethodName := ⟨"java/lang/ArithmeticException", "<init>", "(Ljava/lang/String;)V"⟩
abbrev bc_A_combineInto : ByteArray := prog_2_method_2_code
def my_A_combineInto : MethodName := ⟨"FamilyShelf$Algebra", "combineInto", "(LFamilyShelf$Family;ILFamilyShelf$Family;LFamilyShelf$Family;)V"⟩
abbrev bc_A_unite : ByteArray := prog_2_method_3_code
def my_A_unite : MethodName := ⟨"FamilyShelf$Algebra", "unite", "(LFamilyShelf$Family;LFamilyShelf$Family;LFamilyShelf$Family;)V"⟩
abbrev bc_A_intersect : ByteArray := prog_2_method_4_code
def my_A_intersect : MethodName := ⟨"FamilyShelf$Algebra", "intersect", "(LFamilyShelf$Family;LFamilyShelf$Family;LFamilyShelf$Family;)V"⟩
abbrev bc_A_subtract : ByteArray := prog_2_method_5_code
def my_A_subtract : MethodName := ⟨"FamilyShelf$Algebra", "subtract", "(LFamilyShelf$Family;LFamilyShelf$Family;LFamilyShelf$Family;)V"⟩
abbrev bc_A_pair : ByteArray := prog_2_method_6_code
def my_A_pair : MethodName := ⟨"FamilyShelf$Algebra", "pair", "(LFamilyShelf$Family;LFamilyShelf$Family;LFamilyShelf$Family;Z)V"⟩
abbrev bc_A_lowsOf : ByteArray := prog_2_method_7_code
def my_A_lowsOf : MethodName := ⟨"FamilyShelf$Algebra", "lowsOf", "(LFamilyShelf$Family;)J"⟩
abbrev bc_A_shiftAll : ByteArray := prog_2_method_8_code
def my_A_shiftAll : MethodName := ⟨"FamilyShelf$Algebra", "shiftAll", "(LFamilyShelf$Family;IZ)V"⟩
abbrev bc_A_joinedWord : ByteArray := prog_2_method_9_code
def my_A_joinedWord : MethodName := ⟨"FamilyShelf$Algebra", "joinedWord", "(JI)J"⟩
abbrev bc_A_metWord : ByteArray := prog_2_method_10_code
def my_A_metWord : MethodName := ⟨"FamilyShelf$Algebra", "metWord", "(JI)J"⟩
abbrev bc_A_pairHighs : ByteArray := prog_2_method_11_code
def my_A_pairHighs : MethodName := ⟨"FamilyShelf$Algebra", "pairHighs", "(LFamilyShelf$Family;LFamilyShelf$Family;IZ)V"⟩
abbrev bc_F_copyFrom : ByteArray := prog_4_method_3_code
def my_F_copyFrom : MethodName := ⟨"FamilyShelf$Family", "copyFrom", "(LFamilyShelf$Family;)V"⟩
abbrev bc_F_close : ByteArray := prog_4_method_18_code
def my_F_close : MethodName := ⟨"FamilyShelf$Family", "close", "(Z)V"⟩
abbrev bc_F_moved : ByteArray := prog_4_method_17_code
def my_F_moved : MethodName := ⟨"FamilyShelf$Family", "moved", "(IIZ)J"⟩
abbrev bc_F_lowered : ByteArray := prog_4_method_15_code
def my_F_lowered : MethodName := ⟨"FamilyShelf$Family", "lowered", "(II)J"⟩
abbrev bc_F_having : ByteArray := prog_4_method_13_code
def my_F_having : MethodName := ⟨"FamilyShelf$Family", "having", "(II)J"⟩
abbrev bc_F_raised : ByteArray := prog_4_method_16_code
def my_F_raised : MethodName := ⟨"FamilyShelf$Family", "raised", "(II)J"⟩
abbrev bc_F_lacking : ByteArray := prog_4_method_14_code
def my_F_lacking : MethodName := ⟨"FamilyShelf$Family", "lacking", "(II)J"⟩
abbrev bc_A_divide : ByteArray := prog_2_method_12_code
def my_A_divide : MethodName := ⟨"FamilyShelf$Algebra", "divide", "(LFamilyShelf$Family;LFamilyShelf$Family;LFamilyShelf$Family;)V"⟩
abbrev bc_A_usedBits : ByteArray := prog_2_method_13_code
def my_A_usedBits : MethodName := ⟨"FamilyShelf$Algebra", "usedBits", "(LFamilyShelf$Family;)I"⟩
abbrev bc_A_fillDisjoint : ByteArray := prog_2_method_14_code
def my_A_fillDisjoint : MethodName := ⟨"FamilyShelf$Algebra", "fillDisjoint", "(LFamilyShelf$Family;I)V"⟩
abbrev bc_A_keepUnionsIn : ByteArray := prog_2_method_15_code
def my_A_keepUnionsIn : MethodName := ⟨"FamilyShelf$Algebra", "keepUnionsIn", "(LFamilyShelf$Family;LFamilyShelf$Family;I)V"⟩
abbrev bc_S_shelveFresh : ByteArray := prog_1_method_21_code
def my_S_shelveFresh : MethodName := ⟨"FamilyShelf", "shelveFresh", "(I)I"⟩
abbrev bc_L_change : ByteArray := method_7_code
def my_L_change : MethodName := ⟨"FamilyShelfLaw", "change", "(LFamilyShelf;IIII[J)I"⟩
abbrev bc_S_change : ByteArray := prog_1_method_6_code
def my_S_change : MethodName := ⟨"FamilyShelf", "change", "(IIII)I"⟩
abbrev bc_S_checkElement : ByteArray := prog_1_method_25_code
def my_S_checkElement : MethodName := ⟨"FamilyShelf", "checkElement", "(I)V"⟩
abbrev bc_A_changeInto : ByteArray := prog_2_method_16_code
def my_A_changeInto : MethodName := ⟨"FamilyShelf$Algebra", "changeInto", "(LFamilyShelf$Family;ILFamilyShelf$Family;I)V"⟩
abbrev bc_L_extreme : ByteArray := method_8_code
def my_L_extreme : MethodName := ⟨"FamilyShelfLaw", "extreme", "(LFamilyShelf;IIZ[J)I"⟩
abbrev bc_S_extreme : ByteArray := prog_1_method_7_code
def my_S_extreme : MethodName := ⟨"FamilyShelf", "extreme", "(IIZ)I"⟩
abbrev bc_A_extremeInto : ByteArray := prog_2_method_17_code
def my_A_extremeInto : MethodName := ⟨"FamilyShelf$Algebra", "extremeInto", "(LFamilyShelf$Family;LFamilyShelf$Family;Z)V"⟩
abbrev bc_A_stepped : ByteArray := prog_2_method_18_code
def my_A_stepped : MethodName := ⟨"FamilyShelf$Algebra", "stepped", "(IZ)J"⟩
abbrev bc_L_sized : ByteArray := method_9_code
def my_L_sized : MethodName := ⟨"FamilyShelfLaw", "sized", "(LFamilyShelf;III[J)I"⟩
abbrev bc_S_sized : ByteArray := prog_1_method_8_code
def my_S_sized : MethodName := ⟨"FamilyShelf", "sized", "(III)I"⟩
abbrev bc_A_sizedInto : ByteArray := prog_2_method_19_code
def my_A_sizedInto : MethodName := ⟨"FamilyShelf$Algebra", "sizedInto", "(LFamilyShelf$Family;LFamilyShelf$Family;I)V"⟩
abbrev bc_L_edge : ByteArray := method_10_code
def my_L_edge : MethodName := ⟨"FamilyShelfLaw", "edge", "(LFamilyShelf;III)I"⟩
abbrev bc_S_edge : ByteArray := prog_1_method_9_code
def my_S_edge : MethodName := ⟨"FamilyShelf", "edge", "(III)V"⟩
abbrev bc_S_checkVertex : ByteArray := prog_1_method_26_code
def my_S_checkVertex : MethodName := ⟨"FamilyShelf", "checkVertex", "(I)V"⟩
abbrev bc_S_checkDifferent : ByteArray := prog_1_method_29_code
def my_S_checkDifferent : MethodName := ⟨"FamilyShelf", "checkDifferent", "(II)V"⟩
abbrev bc_G_exchange : ByteArray := prog_5_method_2_code
def my_G_exchange : MethodName := ⟨"FamilyShelf$Graph", "exchange", "(II)I"⟩
abbrev bc_L_cut : ByteArray := method_11_code
def my_L_cut : MethodName := ⟨"FamilyShelfLaw", "cut", "(LFamilyShelf;I[J)I"⟩
abbrev bc_S_cut : ByteArray := prog_1_method_10_code
def my_S_cut : MethodName := ⟨"FamilyShelf", "cut", "(I)Z"⟩
abbrev bc_L_paths : ByteArray := method_12_code
def my_L_paths : MethodName := ⟨"FamilyShelfLaw", "paths", "(LFamilyShelf;III[J)I"⟩
abbrev bc_S_paths : ByteArray := prog_1_method_11_code
def my_S_paths : MethodName := ⟨"FamilyShelf", "paths", "(III)I"⟩
abbrev bc_G_pathsInto : ByteArray := prog_5_method_3_code
def my_G_pathsInto : MethodName := ⟨"FamilyShelf$Graph", "pathsInto", "(LFamilyShelf$Family;II)V"⟩
abbrev bc_G_walk : ByteArray := prog_5_method_4_code
def my_G_walk : MethodName := ⟨"FamilyShelf$Graph", "walk", "(LFamilyShelf$Family;[IIIII)V"⟩
abbrev bc_L_matchings : ByteArray := method_13_code
def my_L_matchings : MethodName := ⟨"FamilyShelfLaw", "matchings", "(LFamilyShelf;I[J)I"⟩
abbrev bc_S_matchings : ByteArray := prog_1_method_12_code
def my_S_matchings : MethodName := ⟨"FamilyShelf", "matchings", "(I)I"⟩
abbrev bc_G_matchingsInto : ByteArray := prog_5_method_5_code
def my_G_matchingsInto : MethodName := ⟨"FamilyShelf$Graph", "matchingsInto", "(LFamilyShelf$Family;)V"⟩
abbrev bc_G_match : ByteArray := prog_5_method_6_code
def my_G_match : MethodName := ⟨"FamilyShelf$Graph", "match", "(LFamilyShelf$Family;[IIII)V"⟩
abbrev bc_L_weight : ByteArray := method_14_code
def my_L_weight : MethodName := ⟨"FamilyShelfLaw", "weight", "(LFamilyShelf;II[J)I"⟩
abbrev bc_S_weight : ByteArray := prog_1_method_13_code
def my_S_weight : MethodName := ⟨"FamilyShelf", "weight", "(II)I"⟩
abbrev bc_W_exchange : ByteArray := prog_6_method_2_code
def my_W_exchange : MethodName := ⟨"FamilyShelf$Weights", "exchange", "(II)I"⟩
abbrev bc_L_count : ByteArray := method_15_code
def my_L_count : MethodName := ⟨"FamilyShelfLaw", "count", "(LFamilyShelf;I[J)I"⟩
abbrev bc_S_count : ByteArray := prog_1_method_14_code
def my_S_count : MethodName := ⟨"FamilyShelf", "count", "(I)I"⟩
abbrev bc_L_has : ByteArray := method_16_code
def my_L_has : MethodName := ⟨"FamilyShelfLaw", "has", "(LFamilyShelf;II[J)I"⟩
abbrev bc_S_has : ByteArray := prog_1_method_15_code
def my_S_has : MethodName := ⟨"FamilyShelf", "has", "(II)Z"⟩
abbrev bc_L_nth : ByteArray := method_17_code
def my_L_nth : MethodName := ⟨"FamilyShelfLaw", "nth", "(LFamilyShelf;II[J)I"⟩
abbrev bc_S_nth : ByteArray := prog_1_method_16_code
def my_S_nth : MethodName := ⟨"FamilyShelf", "nth", "(II)I"⟩
abbrev bc_F_placeAt : ByteArray := prog_4_method_10_code
def my_F_placeAt : MethodName := ⟨"FamilyShelf$Family", "placeAt", "(I)I"⟩
abbrev bc_F_lowPlaceAt : ByteArray := prog_4_method_11_code
def my_F_lowPlaceAt : MethodName := ⟨"FamilyShelf$Family", "lowPlaceAt", "(JI)I"⟩
abbrev bc_L_rank : ByteArray := method_18_code
def my_L_rank : MethodName := ⟨"FamilyShelfLaw", "rank", "(LFamilyShelf;II[J)I"⟩
abbrev bc_S_rank : ByteArray := prog_1_method_17_code
def my_S_rank : MethodName := ⟨"FamilyShelf", "rank", "(II)I"⟩
abbrev bc_F_totalBefore : ByteArray := prog_4_method_8_code
def my_F_totalBefore : MethodName := ⟨"FamilyShelf$Family", "totalBefore", "(I)I"⟩
abbrev bc_L_heaviest : ByteArray := method_19_code
def my_L_heaviest : MethodName := ⟨"FamilyShelfLaw", "heaviest", "(LFamilyShelf;I[J)I"⟩
abbrev bc_S_heaviest : ByteArray := prog_1_method_18_code
def my_S_heaviest : MethodName := ⟨"FamilyShelf", "heaviest", "(I)I"⟩
abbrev bc_W_heaviestPlace : ByteArray := prog_6_method_3_code
def my_W_heaviestPlace : MethodName := ⟨"FamilyShelf$Weights", "heaviestPlace", "(LFamilyShelf$Family;)I"⟩
abbrev bc_W_sumUp : ByteArray := prog_6_method_4_code
def my_W_sumUp : MethodName := ⟨"FamilyShelf$Weights", "sumUp", "([II)V"⟩
abbrev bc_S_checkFound : ByteArray := prog_1_method_31_code
def my_S_checkFound : MethodName := ⟨"FamilyShelf", "checkFound", "(I)V"⟩
abbrev bc_Jn_init : ByteArray := prog_20_method_4_code
def my_Jn_init : MethodName := ⟨"java/util/NoSuchElementException", "<init>", "(Ljava/lang/String;)V"⟩
abbrev bc_L_size : ByteArray := method_20_code
def my_L_size : MethodName := ⟨"FamilyShelfLaw", "size", "(LFamilyShelf;I[J)I"⟩
abbrev bc_S_size : ByteArray := prog_1_method_19_code
def my_S_size : MethodName := ⟨"FamilyShelf", "size", "(I)I"⟩
abbrev bc_D_nodesFor : ByteArray := prog_3_method_2_code
def my_D_nodesFor : MethodName := ⟨"FamilyShelf$Diagram", "nodesFor", "(LFamilyShelf$Family;)I"⟩
abbrev bc_Ja_fill_IIV : ByteArray := prog_19_method_103_code
def my_Ja_fill_IIV : MethodName := ⟨"java/util/Arrays", "fill", "([II)V"⟩
abbrev bc_D_kindOf : ByteArray := prog_3_method_3_code
def my_D_kindOf : MethodName := ⟨"FamilyShelf$Diagram", "kindOf", "(II)I"⟩
abbrev bc_D_newNode : ByteArray := prog_3_method_4_code
def my_D_newNode : MethodName := ⟨"FamilyShelf$Diagram", "newNode", "(II)I"⟩
abbrev bc_L_parts : ByteArray := method_21_code
def my_L_parts : MethodName := ⟨"FamilyShelfLaw", "parts", "(LFamilyShelf;I[J)I"⟩
abbrev bc_S_parts : ByteArray := prog_1_method_20_code
def my_S_parts : MethodName := ⟨"FamilyShelf", "parts", "(I)I"⟩
abbrev bc_F_isParted : ByteArray := prog_4_method_12_code
def my_F_isParted : MethodName := ⟨"FamilyShelf$Family", "isParted", "(I)Z"⟩
abbrev bc_M_init : ByteArray := prog_8_method_1_code
def my_M_init : MethodName := ⟨"FamilyShelfModel", "<init>", "()V"⟩
abbrev bc_M_thrown : ByteArray := prog_8_method_2_code
def my_M_thrown : MethodName := ⟨"FamilyShelfModel", "thrown", "()I"⟩
abbrev bc_M_put : ByteArray := prog_8_method_15_code
def my_M_put : MethodName := ⟨"FamilyShelfModel", "put", "(II)Z"⟩
abbrev bc_M_asked : ByteArray := prog_8_method_14_code
def my_M_asked : MethodName := ⟨"FamilyShelfModel", "asked", "(II)I"⟩
abbrev bc_M_noShelf : ByteArray := prog_8_method_11_code
def my_M_noShelf : MethodName := ⟨"FamilyShelfModel", "noShelf", "(I)Z"⟩
abbrev bc_M_turned : ByteArray := prog_8_method_3_code
def my_M_turned : MethodName := ⟨"FamilyShelfModel", "turned", "(I)I"⟩
abbrev bc_M_isIn : ByteArray := prog_8_method_4_code
def my_M_isIn : MethodName := ⟨"FamilyShelfModel", "isIn", "(II)Z"⟩
abbrev bc_M_take : ByteArray := prog_8_method_16_code
def my_M_take : MethodName := ⟨"FamilyShelfModel", "take", "(II)Z"⟩
abbrev bc_M_clear : ByteArray := prog_8_method_17_code
def my_M_clear : MethodName := ⟨"FamilyShelfModel", "clear", "(I)I"⟩
abbrev bc_M_countOf : ByteArray := prog_8_method_9_code
def my_M_countOf : MethodName := ⟨"FamilyShelfModel", "countOf", "(I)I"⟩
abbrev bc_M_ones : ByteArray := prog_8_method_8_code
def my_M_ones : MethodName := ⟨"FamilyShelfModel", "ones", "(J)I"⟩
abbrev bc_M_combine : ByteArray := prog_8_method_25_code
def my_M_combine : MethodName := ⟨"FamilyShelfModel", "combine", "(IIII)I"⟩
abbrev bc_M_begin : ByteArray := prog_8_method_6_code
def my_M_begin : MethodName := ⟨"FamilyShelfModel", "begin", "()V"⟩
abbrev bc_M_makePairs : ByteArray := prog_8_method_21_code
def my_M_makePairs : MethodName := ⟨"FamilyShelfModel", "makePairs", "(IIZ)V"⟩
abbrev bc_M_load : ByteArray := prog_8_method_18_code
def my_M_load : MethodName := ⟨"FamilyShelfModel", "load", "([II)V"⟩
abbrev bc_M_sum : ByteArray := prog_8_method_19_code
def my_M_sum : MethodName := ⟨"FamilyShelfModel", "sum", "([IZ)V"⟩
abbrev bc_M_part : ByteArray := prog_8_method_20_code
def my_M_part : MethodName := ⟨"FamilyShelfModel", "part", "([IZ)V"⟩
abbrev bc_M_make : ByteArray := prog_8_method_7_code
def my_M_make : MethodName := ⟨"FamilyShelfModel", "make", "(I)V"⟩
abbrev bc_M_makeFree : ByteArray := prog_8_method_22_code
def my_M_makeFree : MethodName := ⟨"FamilyShelfModel", "makeFree", "(IIZ)V"⟩
abbrev bc_M_makeQuotient : ByteArray := prog_8_method_23_code
def my_M_makeQuotient : MethodName := ⟨"FamilyShelfModel", "makeQuotient", "(II)V"⟩
abbrev bc_M_makeRemainder : ByteArray := prog_8_method_24_code
def my_M_makeRemainder : MethodName := ⟨"FamilyShelfModel", "makeRemainder", "(II)V"⟩
abbrev bc_M_lay : ByteArray := prog_8_method_10_code
def my_M_lay : MethodName := ⟨"FamilyShelfModel", "lay", "(I)I"⟩
abbrev bc_M_change : ByteArray := prog_8_method_27_code
def my_M_change : MethodName := ⟨"FamilyShelfModel", "change", "(IIII)I"⟩
abbrev bc_M_noElement : ByteArray := prog_8_method_12_code
def my_M_noElement : MethodName := ⟨"FamilyShelfModel", "noElement", "(I)Z"⟩
abbrev bc_M_bitOf : ByteArray := prog_8_method_26_code
def my_M_bitOf : MethodName := ⟨"FamilyShelfModel", "bitOf", "(I)I"⟩
abbrev bc_M_extreme : ByteArray := prog_8_method_28_code
def my_M_extreme : MethodName := ⟨"FamilyShelfModel", "extreme", "(IIZ)I"⟩
abbrev bc_M_sized : ByteArray := prog_8_method_29_code
def my_M_sized : MethodName := ⟨"FamilyShelfModel", "sized", "(III)I"⟩
abbrev bc_M_edge : ByteArray := prog_8_method_30_code
def my_M_edge : MethodName := ⟨"FamilyShelfModel", "edge", "(III)V"⟩
abbrev bc_M_noVertex : ByteArray := prog_8_method_13_code
def my_M_noVertex : MethodName := ⟨"FamilyShelfModel", "noVertex", "(I)Z"⟩
abbrev bc_M_cut : ByteArray := prog_8_method_31_code
def my_M_cut : MethodName := ⟨"FamilyShelfModel", "cut", "(I)Z"⟩
abbrev bc_M_paths : ByteArray := prog_8_method_35_code
def my_M_paths : MethodName := ⟨"FamilyShelfModel", "paths", "(III)I"⟩
abbrev bc_M_areEdges : ByteArray := prog_8_method_32_code
def my_M_areEdges : MethodName := ⟨"FamilyShelfModel", "areEdges", "(I)Z"⟩
abbrev bc_M_isPath : ByteArray := prog_8_method_34_code
def my_M_isPath : MethodName := ⟨"FamilyShelfModel", "isPath", "(III)Z"⟩
abbrev bc_M_onlyEdge : ByteArray := prog_8_method_33_code
def my_M_onlyEdge : MethodName := ⟨"FamilyShelfModel", "onlyEdge", "(II)I"⟩
abbrev bc_M_matchings : ByteArray := prog_8_method_37_code
def my_M_matchings : MethodName := ⟨"FamilyShelfModel", "matchings", "(I)I"⟩
abbrev bc_M_isMatching : ByteArray := prog_8_method_36_code
def my_M_isMatching : MethodName := ⟨"FamilyShelfModel", "isMatching", "(I)Z"⟩
abbrev bc_M_weight : ByteArray := prog_8_method_38_code
def my_M_weight : MethodName := ⟨"FamilyShelfModel", "weight", "(II)I"⟩
abbrev bc_M_count : ByteArray := prog_8_method_39_code
def my_M_count : MethodName := ⟨"FamilyShelfModel", "count", "(I)I"⟩
abbrev bc_M_has : ByteArray := prog_8_method_40_code
def my_M_has : MethodName := ⟨"FamilyShelfModel", "has", "(II)Z"⟩
abbrev bc_M_nth : ByteArray := prog_8_method_41_code
def my_M_nth : MethodName := ⟨"FamilyShelfModel", "nth", "(II)I"⟩
abbrev bc_M_rank : ByteArray := prog_8_method_42_code
def my_M_rank : MethodName := ⟨"FamilyShelfModel", "rank", "(II)I"⟩
abbrev bc_M_heaviest : ByteArray := prog_8_method_44_code
def my_M_heaviest : MethodName := ⟨"FamilyShelfModel", "heaviest", "(I)I"⟩
abbrev bc_M_weigh : ByteArray := prog_8_method_43_code
def my_M_weigh : MethodName := ⟨"FamilyShelfModel", "weigh", "(I)I"⟩
abbrev bc_M_size : ByteArray := prog_8_method_48_code
def my_M_size : MethodName := ⟨"FamilyShelfModel", "size", "(I)I"⟩
abbrev bc_M_different : ByteArray := prog_8_method_47_code
def my_M_different : MethodName := ⟨"FamilyShelfModel", "different", "(II)I"⟩
abbrev bc_M_isAny : ByteArray := prog_8_method_46_code
def my_M_isAny : MethodName := ⟨"FamilyShelfModel", "isAny", "(III)Z"⟩
abbrev bc_M_alike : ByteArray := prog_8_method_45_code
def my_M_alike : MethodName := ⟨"FamilyShelfModel", "alike", "(IIII)Z"⟩
abbrev bc_M_parts : ByteArray := prog_8_method_49_code
def my_M_parts : MethodName := ⟨"FamilyShelfModel", "parts", "(I)I"⟩
def tw_ : List Cond := lw_tbl.filter goodWord
theorem tw_of {w : Cond} (h : w ∈ tables_1) (hg : goodWord w = true) : w ∈ tw_ := List.mem_filter.mpr ⟨List.mem_append_right _ h, hg⟩
theorem tw_good : ∀ w ∈ tw_, goodWord w = true := fun w h => (List.mem_filter.mp h).2
theorem kw_0 : (Cond.initialized "FamilyShelfLaw") ∈ tw_ := tw_of (List.mem_of_getElem? (i := 0) (by decide +kernel)) (by decide +kernel)
theorem kw_1 : (Cond.initialized "FamilyShelf") ∈ tw_ := tw_of (List.mem_of_getElem? (i := 1) (by decide +kernel)) (by decide +kernel)
theorem kw_2 : (Cond.initialized "FamilyShelf$Algebra") ∈ tw_ := tw_of (List.mem_of_getElem? (i := 2) (by decide +kernel)) (by decide +kernel)
theorem kw_3 : (Cond.initialized "FamilyShelf$Family") ∈ tw_ := tw_of (List.mem_of_getElem? (i := 3) (by decide +kernel)) (by decide +kernel)
theorem kw_4 : (Cond.initialized "java/lang/Integer") ∈ tw_ := tw_of (List.mem_of_getElem? (i := 4) (by decide +kernel)) (by decide +kernel)
theorem kw_5 : (Cond.initialized "FamilyShelf$Graph") ∈ tw_ := tw_of (List.mem_of_getElem? (i := 5) (by decide +kernel)) (by decide +kernel)
theorem kw_6 : (Cond.initialized "FamilyShelf$Weights") ∈ tw_ := tw_of (List.mem_of_getElem? (i := 6) (by decide +kernel)) (by decide +kernel)
theorem kw_7 : (Cond.initialized "FamilyShelf$Diagram") ∈ tw_ := tw_of (List.mem_of_getElem? (i := 7) (by decide +kernel)) (by decide +kernel)
theorem kw_8 : (Cond.initialized "FamilyShelfModel") ∈ tw_ := tw_of (List.mem_of_getElem? (i := 8) (by decide +kernel)) (by decide +kernel)
theorem kw_9 : (Cond.initialized "java/lang/Throwable") ∈ tw_ := tw_of (List.mem_of_getElem? (i := 9) (by decide +kernel)) (by decide +kernel)
theorem kw_10 : (Cond.initialized "java/lang/Exception") ∈ tw_ := tw_of (List.mem_of_getElem? (i := 10) (by decide +kernel)) (by decide +kernel)
theorem kw_11 : (Cond.initialized "java/lang/RuntimeException") ∈ tw_ := tw_of (List.mem_of_getElem? (i := 11) (by decide +kernel)) (by decide +kernel)
theorem kw_12 : (Cond.initialized "java/lang/IndexOutOfBoundsException") ∈ tw_ := tw_of (List.mem_of_getElem? (i := 12) (by decide +kernel)) (by decide +kernel)
theorem kw_13 : (Cond.initialized "java/lang/IllegalArgumentException") ∈ tw_ := tw_of (List.mem_of_getElem? (i := 13) (by decide +kernel)) (by decide +kernel)
theorem kw_14 : (Cond.initialized "java/lang/Long") ∈ tw_ := tw_of (List.mem_of_getElem? (i := 14) (by decide +kernel)) (by decide +kernel)
theorem kw_15 : (Cond.initialized "java/util/Arrays") ∈ tw_ := tw_of (List.mem_of_getElem? (i := 15) (by decide +kernel)) (by decide +kernel)
theorem kw_16 : (Cond.initialized "java/lang/ArithmeticException") ∈ tw_ := tw_of (List.mem_of_getElem? (i := 16) (by decide +kernel)) (by decide +kernel)
theorem kw_17 : (Cond.initialized "java/lang/System") ∈ tw_ := tw_of (List.mem_of_getElem? (i := 17) (by decide +kernel)) (by decide +kernel)
theorem kw_18 : (Cond.initialized "java/util/NoSuchElementException") ∈ tw_ := tw_of (List.mem_of_getElem? (i := 18) (by decide +kernel)) (by decide +kernel)
theorem kw_19 : (Cond.classLink "FamilyShelfLaw" 8 "FamilyShelf") ∈ tw_ := tw_of (List.mem_of_getElem? (i := 19) (by decide +kernel)) (by decide +kernel)
theorem kw_20 : (Cond.instantiable "FamilyShelf" 6) ∈ tw_ := tw_of (List.mem_of_getElem? (i := 20) (by decide +kernel)) (by decide +kernel)
theorem kw_21 : (Cond.methodLink "FamilyShelfLaw" 82 my_S_init) ∈ tw_ := tw_of (List.mem_of_getElem? (i := 21) (by decide +kernel)) (by decide +kernel)
theorem kw_22 : (Cond.instanceMethod my_S_init) ∈ tw_ := tw_of (List.mem_of_getElem? (i := 22) (by decide +kernel)) (by decide +kernel)
theorem kw_23 : (Cond.code my_S_init prog_1_method_1_code 2 none) ∈ tw_ := tw_of (List.mem_of_getElem? (i := 23) (by decide +kernel)) (by decide +kernel)
theorem kw_24 : (Cond.methodLink "FamilyShelf" 3 my_Jo_init) ∈ tw_ := tw_of (List.mem_of_getElem? (i := 24) (by decide +kernel)) (by decide +kernel)
theorem kw_25 : (Cond.instanceMethod my_Jo_init) ∈ tw_ := tw_of (List.mem_of_getElem? (i := 25) (by decide +kernel)) (by decide +kernel)
theorem kw_26 : (Cond.code my_Jo_init object_method_1_code 1 none) ∈ tw_ := tw_of (List.mem_of_getElem? (i := 26) (by decide +kernel)) (by decide +kernel)
theorem kw_27 : (Cond.classLink "FamilyShelf" 9 "FamilyShelf$Family") ∈ tw_ := tw_of (List.mem_of_getElem? (i := 27) (by decide +kernel)) (by decide +kernel)
theorem kn_28 : (Cond.arrayOver (FieldType.object "FamilyShelf$Family")) ∈ lw_tbl := List.mem_append_right _ (List.mem_of_getElem? (i := 28) (by decide +kernel))
theorem kw_29 : (Cond.classLink "FamilyShelf" 15 "FamilyShelf$Algebra") ∈ tw_ := tw_of (List.mem_of_getElem? (i := 29) (by decide +kernel)) (by decide +kernel)
theorem kw_30 : (Cond.instantiable "FamilyShelf$Algebra" 4) ∈ tw_ := tw_of (List.mem_of_getElem? (i := 30) (by decide +kernel)) (by decide +kernel)
theorem kw_31 : (Cond.methodLink "FamilyShelf" 17 my_A_init) ∈ tw_ := tw_of (List.mem_of_getElem? (i := 31) (by decide +kernel)) (by decide +kernel)
theorem kw_32 : (Cond.instanceMethod my_A_init) ∈ tw_ := tw_of (List.mem_of_getElem? (i := 32) (by decide +kernel)) (by decide +kernel)
theorem kw_33 : (Cond.code my_A_init prog_2_method_1_code 2 none) ∈ tw_ := tw_of (List.mem_of_getElem? (i := 33) (by decide +kernel)) (by decide +kernel)
theorem kw_34 : (Cond.methodLink "FamilyShelf$Algebra" 3 my_Jo_init) ∈ tw_ := tw_of (List.mem_of_getElem? (i := 34) (by decide +kernel)) (by decide +kernel)
theorem kw_35 : (Cond.classLink "FamilyShelf$Algebra" 9 "FamilyShelf$Family") ∈ tw_ := tw_of (List.mem_of_getElem? (i := 35) (by decide +kernel)) (by decide +kernel)
theorem kw_36 : (Cond.instantiable "FamilyShelf$Family" 1) ∈ tw_ := tw_of (List.mem_of_getElem? (i := 36) (by decide +kernel)) (by decide +kernel)
theorem kn_37 : (Cond.methodLinkNest "FamilyShelf$Algebra" 11 my_F_init "FamilyShelf") ∈ lw_tbl := List.mem_append_right _ (List.mem_of_getElem? (i := 37) (by decide +kernel))
theorem kw_38 : (Cond.instanceMethod my_F_init) ∈ tw_ := tw_of (List.mem_of_getElem? (i := 38) (by decide +kernel)) (by decide +kernel)
theorem kw_39 : (Cond.code my_F_init prog_4_method_1_code 1 none) ∈ tw_ := tw_of (List.mem_of_getElem? (i := 39) (by decide +kernel)) (by decide +kernel)
theorem kw_40 : (Cond.methodLink "FamilyShelf$Family" 3 my_Jo_init) ∈ tw_ := tw_of (List.mem_of_getElem? (i := 40) (by decide +kernel)) (by decide +kernel)
theorem kw_41 : (Cond.fieldLink "FamilyShelf$Family" 9 "FamilyShelf$Family" "words" "[J") ∈ tw_ := tw_of (List.mem_of_getElem? (i := 41) (by decide +kernel)) (by decide +kernel)
theorem kw_42 : (Cond.fieldLink "FamilyShelf$Algebra" 59 "FamilyShelf$Family" "words" "[J") ∈ tw_ := tw_of (List.mem_of_getElem? (i := 42) (by decide +kernel)) (by decide +kernel)
theorem kw_43 : (Cond.laysFinal "FamilyShelf$Family" "FamilyShelf$Family" "words" "[J") ∈ tw_ := tw_of (List.mem_of_getElem? (i := 43) (by decide +kernel)) (by decide +kernel)
theorem kw_44 : (Cond.soleField "FamilyShelf$Family" "words") ∈ tw_ := tw_of (List.mem_of_getElem? (i := 44) (by decide +kernel)) (by decide +kernel)
theorem kw_45 : (Cond.superclass "FamilyShelf$Family" "java/lang/Object") ∈ tw_ := tw_of (List.mem_of_getElem? (i := 45) (by decide +kernel)) (by decide +kernel)
theorem kw_46 : (Cond.arrayClass FieldType.long) ∈ tw_ := tw_of (List.mem_of_getElem? (i := 46) (by decide +kernel)) (by decide +kernel)
theorem kw_47 : (Cond.methodLink "FamilyShelf$Algebra" 28 my_Ji_bitCount) ∈ tw_ := tw_of (List.mem_of_getElem? (i := 47) (by decide +kernel)) (by decide +kernel)
theorem kw_48 : (Cond.static my_Ji_bitCount) ∈ tw_ := tw_of (List.mem_of_getElem? (i := 48) (by decide +kernel)) (by decide +kernel)
theorem kw_49 : (Cond.code my_Ji_bitCount prog_13_method_49_code 1 (some .int)) ∈ tw_ := tw_of (List.mem_of_getElem? (i := 49) (by decide +kernel)) (by decide +kernel)
theorem kw_50 : (Cond.constant "java/lang/Integer" 265 (1431655765 : Int32)) ∈ tw_ := tw_of (List.mem_of_getElem? (i := 50) (by decide +kernel)) (by decide +kernel)
theorem kw_51 : (Cond.constant "java/lang/Integer" 266 (858993459 : Int32)) ∈ tw_ := tw_of (List.mem_of_getElem? (i := 51) (by decide +kernel)) (by decide +kernel)
theorem kw_52 : (Cond.constant "java/lang/Integer" 267 (252645135 : Int32)) ∈ tw_ := tw_of (List.mem_of_getElem? (i := 52) (by decide +kernel)) (by decide +kernel)
theorem kw_53 : (Cond.fieldLink "FamilyShelf$Algebra" 12 "FamilyShelf$Algebra" "helper" "LFamilyShelf$Family;") ∈ tw_ := tw_of (List.mem_of_getElem? (i := 53) (by decide +kernel)) (by decide +kernel)
theorem kw_54 : (Cond.fieldLink "FamilyShelf$Algebra" 18 "FamilyShelf$Algebra" "quotient" "LFamilyShelf$Family;") ∈ tw_ := tw_of (List.mem_of_getElem? (i := 54) (by decide +kernel)) (by decide +kernel)
theorem kw_55 : (Cond.fieldLink "FamilyShelf$Algebra" 21 "FamilyShelf$Algebra" "shifted" "[J") ∈ tw_ := tw_of (List.mem_of_getElem? (i := 55) (by decide +kernel)) (by decide +kernel)
theorem kw_56 : (Cond.fieldLink "FamilyShelf$Algebra" 25 "FamilyShelf$Algebra" "lowsBySize" "[J") ∈ tw_ := tw_of (List.mem_of_getElem? (i := 56) (by decide +kernel)) (by decide +kernel)
theorem kw_57 : (Cond.laysFinal "FamilyShelf$Algebra" "FamilyShelf$Algebra" "helper" "LFamilyShelf$Family;") ∈ tw_ := tw_of (List.mem_of_getElem? (i := 57) (by decide +kernel)) (by decide +kernel)
theorem kw_58 : (Cond.soleField "FamilyShelf$Algebra" "helper") ∈ tw_ := tw_of (List.mem_of_getElem? (i := 58) (by decide +kernel)) (by decide +kernel)
theorem kw_59 : (Cond.laysFinal "FamilyShelf$Algebra" "FamilyShelf$Algebra" "quotient" "LFamilyShelf$Family;") ∈ tw_ := tw_of (List.mem_of_getElem? (i := 59) (by decide +kernel)) (by decide +kernel)
theorem kw_60 : (Cond.soleField "FamilyShelf$Algebra" "quotient") ∈ tw_ := tw_of (List.mem_of_getElem? (i := 60) (by decide +kernel)) (by decide +kernel)
theorem kw_61 : (Cond.laysFinal "FamilyShelf$Algebra" "FamilyShelf$Algebra" "shifted" "[J") ∈ tw_ := tw_of (List.mem_of_getElem? (i := 61) (by decide +kernel)) (by decide +kernel)
theorem kw_62 : (Cond.soleField "FamilyShelf$Algebra" "shifted") ∈ tw_ := tw_of (List.mem_of_getElem? (i := 62) (by decide +kernel)) (by decide +kernel)
theorem kw_63 : (Cond.laysFinal "FamilyShelf$Algebra" "FamilyShelf$Algebra" "lowsBySize" "[J") ∈ tw_ := tw_of (List.mem_of_getElem? (i := 63) (by decide +kernel)) (by decide +kernel)
theorem kw_64 : (Cond.soleField "FamilyShelf$Algebra" "lowsBySize") ∈ tw_ := tw_of (List.mem_of_getElem? (i := 64) (by decide +kernel)) (by decide +kernel)
theorem kw_65 : (Cond.superclass "FamilyShelf$Algebra" "java/lang/Object") ∈ tw_ := tw_of (List.mem_of_getElem? (i := 65) (by decide +kernel)) (by decide +kernel)
theorem kw_66 : (Cond.classLink "FamilyShelf" 22 "FamilyShelf$Graph") ∈ tw_ := tw_of (List.mem_of_getElem? (i := 66) (by decide +kernel)) (by decide +kernel)
theorem kw_67 : (Cond.instantiable "FamilyShelf$Graph" 1) ∈ tw_ := tw_of (List.mem_of_getElem? (i := 67) (by decide +kernel)) (by decide +kernel)
theorem kn_68 : (Cond.methodLinkNest "FamilyShelf" 24 my_G_init "FamilyShelf") ∈ lw_tbl := List.mem_append_right _ (List.mem_of_getElem? (i := 68) (by decide +kernel))
theorem kw_69 : (Cond.instanceMethod my_G_init) ∈ tw_ := tw_of (List.mem_of_getElem? (i := 69) (by decide +kernel)) (by decide +kernel)
theorem kw_70 : (Cond.code my_G_init prog_5_method_1_code 1 none) ∈ tw_ := tw_of (List.mem_of_getElem? (i := 70) (by decide +kernel)) (by decide +kernel)
theorem kw_71 : (Cond.methodLink "FamilyShelf$Graph" 3 my_Jo_init) ∈ tw_ := tw_of (List.mem_of_getElem? (i := 71) (by decide +kernel)) (by decide +kernel)
theorem kw_72 : (Cond.fieldLink "FamilyShelf$Graph" 9 "FamilyShelf$Graph" "ends" "[I") ∈ tw_ := tw_of (List.mem_of_getElem? (i := 72) (by decide +kernel)) (by decide +kernel)
theorem kw_73 : (Cond.laysFinal "FamilyShelf$Graph" "FamilyShelf$Graph" "ends" "[I") ∈ tw_ := tw_of (List.mem_of_getElem? (i := 73) (by decide +kernel)) (by decide +kernel)
theorem kw_74 : (Cond.soleField "FamilyShelf$Graph" "ends") ∈ tw_ := tw_of (List.mem_of_getElem? (i := 74) (by decide +kernel)) (by decide +kernel)
theorem kw_75 : (Cond.superclass "FamilyShelf$Graph" "java/lang/Object") ∈ tw_ := tw_of (List.mem_of_getElem? (i := 75) (by decide +kernel)) (by decide +kernel)
theorem kw_76 : (Cond.arrayClass FieldType.int) ∈ tw_ := tw_of (List.mem_of_getElem? (i := 76) (by decide +kernel)) (by decide +kernel)
theorem kw_77 : (Cond.classLink "FamilyShelf" 29 "FamilyShelf$Weights") ∈ tw_ := tw_of (List.mem_of_getElem? (i := 77) (by decide +kernel)) (by decide +kernel)
theorem kw_78 : (Cond.instantiable "FamilyShelf$Weights" 3) ∈ tw_ := tw_of (List.mem_of_getElem? (i := 78) (by decide +kernel)) (by decide +kernel)
theorem kn_79 : (Cond.methodLinkNest "FamilyShelf" 31 my_W_init "FamilyShelf") ∈ lw_tbl := List.mem_append_right _ (List.mem_of_getElem? (i := 79) (by decide +kernel))
theorem kw_80 : (Cond.instanceMethod my_W_init) ∈ tw_ := tw_of (List.mem_of_getElem? (i := 80) (by decide +kernel)) (by decide +kernel)
theorem kw_81 : (Cond.code my_W_init prog_6_method_1_code 1 none) ∈ tw_ := tw_of (List.mem_of_getElem? (i := 81) (by decide +kernel)) (by decide +kernel)
theorem kw_82 : (Cond.methodLink "FamilyShelf$Weights" 3 my_Jo_init) ∈ tw_ := tw_of (List.mem_of_getElem? (i := 82) (by decide +kernel)) (by decide +kernel)
theorem kw_83 : (Cond.fieldLink "FamilyShelf$Weights" 9 "FamilyShelf$Weights" "byElement" "[I") ∈ tw_ := tw_of (List.mem_of_getElem? (i := 83) (by decide +kernel)) (by decide +kernel)
theorem kw_84 : (Cond.fieldLink "FamilyShelf$Weights" 15 "FamilyShelf$Weights" "highSums" "[I") ∈ tw_ := tw_of (List.mem_of_getElem? (i := 84) (by decide +kernel)) (by decide +kernel)
theorem kw_85 : (Cond.fieldLink "FamilyShelf$Weights" 18 "FamilyShelf$Weights" "lowSums" "[I") ∈ tw_ := tw_of (List.mem_of_getElem? (i := 85) (by decide +kernel)) (by decide +kernel)
theorem kw_86 : (Cond.laysFinal "FamilyShelf$Weights" "FamilyShelf$Weights" "byElement" "[I") ∈ tw_ := tw_of (List.mem_of_getElem? (i := 86) (by decide +kernel)) (by decide +kernel)
theorem kw_87 : (Cond.soleField "FamilyShelf$Weights" "byElement") ∈ tw_ := tw_of (List.mem_of_getElem? (i := 87) (by decide +kernel)) (by decide +kernel)
theorem kw_88 : (Cond.laysFinal "FamilyShelf$Weights" "FamilyShelf$Weights" "highSums" "[I") ∈ tw_ := tw_of (List.mem_of_getElem? (i := 88) (by decide +kernel)) (by decide +kernel)
theorem kw_89 : (Cond.soleField "FamilyShelf$Weights" "highSums") ∈ tw_ := tw_of (List.mem_of_getElem? (i := 89) (by decide +kernel)) (by decide +kernel)
theorem kw_90 : (Cond.laysFinal "FamilyShelf$Weights" "FamilyShelf$Weights" "lowSums" "[I") ∈ tw_ := tw_of (List.mem_of_getElem? (i := 90) (by decide +kernel)) (by decide +kernel)
theorem kw_91 : (Cond.soleField "FamilyShelf$Weights" "lowSums") ∈ tw_ := tw_of (List.mem_of_getElem? (i := 91) (by decide +kernel)) (by decide +kernel)
theorem kw_92 : (Cond.superclass "FamilyShelf$Weights" "java/lang/Object") ∈ tw_ := tw_of (List.mem_of_getElem? (i := 92) (by decide +kernel)) (by decide +kernel)
theorem kw_93 : (Cond.classLink "FamilyShelf" 36 "FamilyShelf$Diagram") ∈ tw_ := tw_of (List.mem_of_getElem? (i := 93) (by decide +kernel)) (by decide +kernel)
theorem kw_94 : (Cond.instantiable "FamilyShelf$Diagram" 5) ∈ tw_ := tw_of (List.mem_of_getElem? (i := 94) (by decide +kernel)) (by decide +kernel)
theorem kn_95 : (Cond.methodLinkNest "FamilyShelf" 38 my_D_init "FamilyShelf") ∈ lw_tbl := List.mem_append_right _ (List.mem_of_getElem? (i := 95) (by decide +kernel))
theorem kw_96 : (Cond.instanceMethod my_D_init) ∈ tw_ := tw_of (List.mem_of_getElem? (i := 96) (by decide +kernel)) (by decide +kernel)
theorem kw_97 : (Cond.code my_D_init prog_3_method_1_code 1 none) ∈ tw_ := tw_of (List.mem_of_getElem? (i := 97) (by decide +kernel)) (by decide +kernel)
theorem kw_98 : (Cond.methodLink "FamilyShelf$Diagram" 3 my_Jo_init) ∈ tw_ := tw_of (List.mem_of_getElem? (i := 98) (by decide +kernel)) (by decide +kernel)
theorem kw_99 : (Cond.fieldLink "FamilyShelf$Diagram" 9 "FamilyShelf$Diagram" "kinds" "[I") ∈ tw_ := tw_of (List.mem_of_getElem? (i := 99) (by decide +kernel)) (by decide +kernel)
theorem kw_100 : (Cond.fieldLink "FamilyShelf$Diagram" 15 "FamilyShelf$Diagram" "newest" "[I") ∈ tw_ := tw_of (List.mem_of_getElem? (i := 100) (by decide +kernel)) (by decide +kernel)
theorem kw_101 : (Cond.fieldLink "FamilyShelf$Diagram" 18 "FamilyShelf$Diagram" "older" "[I") ∈ tw_ := tw_of (List.mem_of_getElem? (i := 101) (by decide +kernel)) (by decide +kernel)
theorem kw_102 : (Cond.fieldLink "FamilyShelf$Diagram" 21 "FamilyShelf$Diagram" "lacking" "[I") ∈ tw_ := tw_of (List.mem_of_getElem? (i := 102) (by decide +kernel)) (by decide +kernel)
theorem kw_103 : (Cond.fieldLink "FamilyShelf$Diagram" 30 "FamilyShelf$Diagram" "end" "I") ∈ tw_ := tw_of (List.mem_of_getElem? (i := 103) (by decide +kernel)) (by decide +kernel)
theorem kw_104 : (Cond.laysFinal "FamilyShelf$Diagram" "FamilyShelf$Diagram" "kinds" "[I") ∈ tw_ := tw_of (List.mem_of_getElem? (i := 104) (by decide +kernel)) (by decide +kernel)
theorem kw_105 : (Cond.soleField "FamilyShelf$Diagram" "kinds") ∈ tw_ := tw_of (List.mem_of_getElem? (i := 105) (by decide +kernel)) (by decide +kernel)
theorem kw_106 : (Cond.laysFinal "FamilyShelf$Diagram" "FamilyShelf$Diagram" "newest" "[I") ∈ tw_ := tw_of (List.mem_of_getElem? (i := 106) (by decide +kernel)) (by decide +kernel)
theorem kw_107 : (Cond.soleField "FamilyShelf$Diagram" "newest") ∈ tw_ := tw_of (List.mem_of_getElem? (i := 107) (by decide +kernel)) (by decide +kernel)
theorem kw_108 : (Cond.laysFinal "FamilyShelf$Diagram" "FamilyShelf$Diagram" "older" "[I") ∈ tw_ := tw_of (List.mem_of_getElem? (i := 108) (by decide +kernel)) (by decide +kernel)
theorem kw_109 : (Cond.soleField "FamilyShelf$Diagram" "older") ∈ tw_ := tw_of (List.mem_of_getElem? (i := 109) (by decide +kernel)) (by decide +kernel)
theorem kw_110 : (Cond.laysFinal "FamilyShelf$Diagram" "FamilyShelf$Diagram" "lacking" "[I") ∈ tw_ := tw_of (List.mem_of_getElem? (i := 110) (by decide +kernel)) (by decide +kernel)
theorem kw_111 : (Cond.soleField "FamilyShelf$Diagram" "lacking") ∈ tw_ := tw_of (List.mem_of_getElem? (i := 111) (by decide +kernel)) (by decide +kernel)
theorem kw_112 : (Cond.lays "FamilyShelf$Diagram" "FamilyShelf$Diagram" "end" "I") ∈ tw_ := tw_of (List.mem_of_getElem? (i := 112) (by decide +kernel)) (by decide +kernel)
theorem kw_113 : (Cond.soleField "FamilyShelf$Diagram" "end") ∈ tw_ := tw_of (List.mem_of_getElem? (i := 113) (by decide +kernel)) (by decide +kernel)
theorem kw_114 : (Cond.superclass "FamilyShelf$Diagram" "java/lang/Object") ∈ tw_ := tw_of (List.mem_of_getElem? (i := 114) (by decide +kernel)) (by decide +kernel)
theorem kn_115 : (Cond.methodLinkNest "FamilyShelf" 43 my_F_init "FamilyShelf") ∈ lw_tbl := List.mem_append_right _ (List.mem_of_getElem? (i := 115) (by decide +kernel))
theorem kw_116 : (Cond.fieldLink "FamilyShelf" 11 "FamilyShelf" "shelves" "[LFamilyShelf$Family;") ∈ tw_ := tw_of (List.mem_of_getElem? (i := 116) (by decide +kernel)) (by decide +kernel)
theorem kw_117 : (Cond.fieldLink "FamilyShelf" 18 "FamilyShelf" "algebra" "LFamilyShelf$Algebra;") ∈ tw_ := tw_of (List.mem_of_getElem? (i := 117) (by decide +kernel)) (by decide +kernel)
theorem kw_118 : (Cond.fieldLink "FamilyShelf" 25 "FamilyShelf" "graph" "LFamilyShelf$Graph;") ∈ tw_ := tw_of (List.mem_of_getElem? (i := 118) (by decide +kernel)) (by decide +kernel)
theorem kw_119 : (Cond.fieldLink "FamilyShelf" 32 "FamilyShelf" "weights" "LFamilyShelf$Weights;") ∈ tw_ := tw_of (List.mem_of_getElem? (i := 119) (by decide +kernel)) (by decide +kernel)
theorem kw_120 : (Cond.fieldLink "FamilyShelf" 39 "FamilyShelf" "diagram" "LFamilyShelf$Diagram;") ∈ tw_ := tw_of (List.mem_of_getElem? (i := 120) (by decide +kernel)) (by decide +kernel)
theorem kw_121 : (Cond.fieldLink "FamilyShelf" 44 "FamilyShelf" "fresh" "LFamilyShelf$Family;") ∈ tw_ := tw_of (List.mem_of_getElem? (i := 121) (by decide +kernel)) (by decide +kernel)
theorem kw_122 : (Cond.laysFinal "FamilyShelf" "FamilyShelf" "shelves" "[LFamilyShelf$Family;") ∈ tw_ := tw_of (List.mem_of_getElem? (i := 122) (by decide +kernel)) (by decide +kernel)
theorem kw_123 : (Cond.soleField "FamilyShelf" "shelves") ∈ tw_ := tw_of (List.mem_of_getElem? (i := 123) (by decide +kernel)) (by decide +kernel)
theorem kw_124 : (Cond.laysFinal "FamilyShelf" "FamilyShelf" "algebra" "LFamilyShelf$Algebra;") ∈ tw_ := tw_of (List.mem_of_getElem? (i := 124) (by decide +kernel)) (by decide +kernel)
theorem kw_125 : (Cond.soleField "FamilyShelf" "algebra") ∈ tw_ := tw_of (List.mem_of_getElem? (i := 125) (by decide +kernel)) (by decide +kernel)
theorem kw_126 : (Cond.laysFinal "FamilyShelf" "FamilyShelf" "graph" "LFamilyShelf$Graph;") ∈ tw_ := tw_of (List.mem_of_getElem? (i := 126) (by decide +kernel)) (by decide +kernel)
theorem kw_127 : (Cond.soleField "FamilyShelf" "graph") ∈ tw_ := tw_of (List.mem_of_getElem? (i := 127) (by decide +kernel)) (by decide +kernel)
theorem kw_128 : (Cond.laysFinal "FamilyShelf" "FamilyShelf" "weights" "LFamilyShelf$Weights;") ∈ tw_ := tw_of (List.mem_of_getElem? (i := 128) (by decide +kernel)) (by decide +kernel)
theorem kw_129 : (Cond.soleField "FamilyShelf" "weights") ∈ tw_ := tw_of (List.mem_of_getElem? (i := 129) (by decide +kernel)) (by decide +kernel)
theorem kw_130 : (Cond.laysFinal "FamilyShelf" "FamilyShelf" "diagram" "LFamilyShelf$Diagram;") ∈ tw_ := tw_of (List.mem_of_getElem? (i := 130) (by decide +kernel)) (by decide +kernel)
theorem kw_131 : (Cond.soleField "FamilyShelf" "diagram") ∈ tw_ := tw_of (List.mem_of_getElem? (i := 131) (by decide +kernel)) (by decide +kernel)
theorem kw_132 : (Cond.lays "FamilyShelf" "FamilyShelf" "fresh" "LFamilyShelf$Family;") ∈ tw_ := tw_of (List.mem_of_getElem? (i := 132) (by decide +kernel)) (by decide +kernel)
theorem kw_133 : (Cond.soleField "FamilyShelf" "fresh") ∈ tw_ := tw_of (List.mem_of_getElem? (i := 133) (by decide +kernel)) (by decide +kernel)
theorem kw_134 : (Cond.superclass "FamilyShelf" "java/lang/Object") ∈ tw_ := tw_of (List.mem_of_getElem? (i := 134) (by decide +kernel)) (by decide +kernel)
theorem kw_135 : (Cond.methodLink "FamilyShelfLaw" 86 my_L_put) ∈ tw_ := tw_of (List.mem_of_getElem? (i := 135) (by decide +kernel)) (by decide +kernel)
theorem kw_136 : (Cond.static my_L_put) ∈ tw_ := tw_of (List.mem_of_getElem? (i := 136) (by decide +kernel)) (by decide +kernel)
theorem kw_137 : (Cond.codeWith my_L_put method_3_code 5 (some .int) [(0, 17, 20, 13), (0, 17, 24, 15)]) ∈ tw_ := tw_of (List.mem_of_getElem? (i := 137) (by decide +kernel)) (by decide +kernel)
theorem kw_138 : (Cond.classLink "FamilyShelfLaw" 13 "java/lang/IndexOutOfBoundsException") ∈ tw_ := tw_of (List.mem_of_getElem? (i := 138) (by decide +kernel)) (by decide +kernel)
theorem kw_139 : (Cond.classLink "FamilyShelfLaw" 15 "java/lang/IllegalArgumentException") ∈ tw_ := tw_of (List.mem_of_getElem? (i := 139) (by decide +kernel)) (by decide +kernel)
theorem kw_140 : (Cond.methodLink "FamilyShelfLaw" 7 my_S_put) ∈ tw_ := tw_of (List.mem_of_getElem? (i := 140) (by decide +kernel)) (by decide +kernel)
theorem kw_141 : (Cond.instanceMethod my_S_put) ∈ tw_ := tw_of (List.mem_of_getElem? (i := 141) (by decide +kernel)) (by decide +kernel)
theorem kw_142 : (Cond.selects "FamilyShelf" my_S_put my_S_put) ∈ tw_ := tw_of (List.mem_of_getElem? (i := 142) (by decide +kernel)) (by decide +kernel)
theorem kw_143 : (Cond.code my_S_put prog_1_method_2_code 5 (some .boolean)) ∈ tw_ := tw_of (List.mem_of_getElem? (i := 143) (by decide +kernel)) (by decide +kernel)
theorem kw_144 : (Cond.methodLink "FamilyShelf" 48 my_S_checkShelf) ∈ tw_ := tw_of (List.mem_of_getElem? (i := 144) (by decide +kernel)) (by decide +kernel)
theorem kw_145 : (Cond.static my_S_checkShelf) ∈ tw_ := tw_of (List.mem_of_getElem? (i := 145) (by decide +kernel)) (by decide +kernel)
theorem kw_146 : (Cond.code my_S_checkShelf prog_1_method_24_code 1 none) ∈ tw_ := tw_of (List.mem_of_getElem? (i := 146) (by decide +kernel)) (by decide +kernel)
theorem kw_147 : (Cond.classLink "FamilyShelf" 148 "java/lang/IndexOutOfBoundsException") ∈ tw_ := tw_of (List.mem_of_getElem? (i := 147) (by decide +kernel)) (by decide +kernel)
theorem kw_148 : (Cond.instantiable "java/lang/IndexOutOfBoundsException" 6) ∈ tw_ := tw_of (List.mem_of_getElem? (i := 148) (by decide +kernel)) (by decide +kernel)
theorem kn_149 : (Cond.castable "java/lang/IndexOutOfBoundsException" "java/lang/IndexOutOfBoundsException") ∈ lw_tbl := List.mem_append_right _ (List.mem_of_getElem? (i := 149) (by decide +kernel))
theorem kn_150 : (Cond.declares ⟨"java/lang/RuntimeException", "<init>", "()V"⟩) ∈ lw_tbl := List.mem_append_right _ (List.mem_of_getElem? (i := 150) (by decide +kernel))
theorem kn_151 : (Cond.declares my_Jr_init) ∈ lw_tbl := List.mem_append_right _ (List.mem_of_getElem? (i := 151) (by decide +kernel))
theorem kn_152 : (Cond.declares ⟨"java/lang/Exception", "<init>", "()V"⟩) ∈ lw_tbl := List.mem_append_right _ (List.mem_of_getElem? (i := 152) (by decide +kernel))
theorem kn_153 : (Cond.declares my_Je_init) ∈ lw_tbl := List.mem_append_right _ (List.mem_of_getElem? (i := 153) (by decide +kernel))
theorem kn_154 : (Cond.declares my_Jt_init_V) ∈ lw_tbl := List.mem_append_right _ (List.mem_of_getElem? (i := 154) (by decide +kernel))
theorem kn_155 : (Cond.declares my_Jt_init_LjavalangStr) ∈ lw_tbl := List.mem_append_right _ (List.mem_of_getElem? (i := 155) (by decide +kernel))
theorem kw_156 : (Cond.selects "java/lang/IndexOutOfBoundsException" ⟨"java/lang/Throwable", "fillInStackTrace", "(I)Ljava/lang/Throwable;"⟩ ⟨"java/lang/Throwable", "fillInStackTrace", "(I)Ljava/lang/Throwable;"⟩) ∈ tw_ := tw_of (List.mem_of_getElem? (i := 156) (by decide +kernel)) (by decide +kernel)
theorem kw_157 : (Cond.selects "java/lang/IndexOutOfBoundsException" ⟨"java/lang/Throwable", "fillInStackTrace", "()Ljava/lang/Throwable;"⟩ ⟨"java/lang/Throwable", "fillInStackTrace", "()Ljava/lang/Throwable;"⟩) ∈ tw_ := tw_of (List.mem_of_getElem? (i := 157) (by decide +kernel)) (by decide +kernel)
theorem kw_158 : (Cond.lays "java/lang/IndexOutOfBoundsException" "java/lang/Throwable" "cause" "Ljava/lang/Throwable;") ∈ tw_ := tw_of (List.mem_of_getElem? (i := 158) (by decide +kernel)) (by decide +kernel)
theorem kw_159 : (Cond.lays "java/lang/Throwable" "java/lang/Throwable" "cause" "Ljava/lang/Throwable;") ∈ tw_ := tw_of (List.mem_of_getElem? (i := 159) (by decide +kernel)) (by decide +kernel)
theorem kw_160 : (Cond.lays "java/lang/IndexOutOfBoundsException" "java/lang/Throwable" "stackTrace" "[Ljava/lang/StackTraceElement;") ∈ tw_ := tw_of (List.mem_of_getElem? (i := 160) (by decide +kernel)) (by decide +kernel)
theorem kw_161 : (Cond.lays "java/lang/Throwable" "java/lang/Throwable" "stackTrace" "[Ljava/lang/StackTraceElement;") ∈ tw_ := tw_of (List.mem_of_getElem? (i := 161) (by decide +kernel)) (by decide +kernel)
theorem kw_162 : (Cond.lays "java/lang/IndexOutOfBoundsException" "java/lang/Throwable" "suppressedExceptions" "Ljava/util/List;") ∈ tw_ := tw_of (List.mem_of_getElem? (i := 162) (by decide +kernel)) (by decide +kernel)
theorem kw_163 : (Cond.lays "java/lang/Throwable" "java/lang/Throwable" "suppressedExceptions" "Ljava/util/List;") ∈ tw_ := tw_of (List.mem_of_getElem? (i := 163) (by decide +kernel)) (by decide +kernel)
theorem kw_164 : (Cond.lays "java/lang/IndexOutOfBoundsException" "java/lang/Throwable" "detailMessage" "Ljava/lang/String;") ∈ tw_ := tw_of (List.mem_of_getElem? (i := 164) (by decide +kernel)) (by decide +kernel)
theorem kw_165 : (Cond.lays "java/lang/Throwable" "java/lang/Throwable" "detailMessage" "Ljava/lang/String;") ∈ tw_ := tw_of (List.mem_of_getElem? (i := 165) (by decide +kernel)) (by decide +kernel)
theorem kw_166 : (Cond.lays "java/lang/IndexOutOfBoundsException" "java/lang/Throwable" "backtrace" "Ljava/lang/Object;") ∈ tw_ := tw_of (List.mem_of_getElem? (i := 166) (by decide +kernel)) (by decide +kernel)
theorem kw_167 : (Cond.lays "java/lang/Throwable" "java/lang/Throwable" "backtrace" "Ljava/lang/Object;") ∈ tw_ := tw_of (List.mem_of_getElem? (i := 167) (by decide +kernel)) (by decide +kernel)
theorem kw_168 : (Cond.fieldLink "java/lang/Throwable" 198 "java/lang/Throwable" "backtrace" "Ljava/lang/Object;") ∈ tw_ := tw_of (List.mem_of_getElem? (i := 168) (by decide +kernel)) (by decide +kernel)
theorem kw_169 : (Cond.superclass "java/lang/Throwable" "java/lang/Object") ∈ tw_ := tw_of (List.mem_of_getElem? (i := 169) (by decide +kernel)) (by decide +kernel)
theorem kw_170 : (Cond.instanceMethod my_Jt_init_V) ∈ tw_ := tw_of (List.mem_of_getElem? (i := 170) (by decide +kernel)) (by decide +kernel)
theorem kw_171 : (Cond.code my_Jt_init_V prog_18_method_1_code 1 none) ∈ tw_ := tw_of (List.mem_of_getElem? (i := 171) (by decide +kernel)) (by decide +kernel)
theorem kw_172 : (Cond.methodLink "java/lang/Throwable" 1 my_Jo_init) ∈ tw_ := tw_of (List.mem_of_getElem? (i := 172) (by decide +kernel)) (by decide +kernel)
theorem kw_173 : (Cond.fieldLink "java/lang/Throwable" 13 "java/lang/Throwable" "UNASSIGNED_STACK" "[Ljava/lang/StackTraceElement;") ∈ tw_ := tw_of (List.mem_of_getElem? (i := 173) (by decide +kernel)) (by decide +kernel)
theorem kn_174 : (Cond.laysStatic "java/lang/Throwable" "UNASSIGNED_STACK" "[Ljava/lang/StackTraceElement;") ∈ lw_tbl := List.mem_append_right _ (List.mem_of_getElem? (i := 174) (by decide +kernel))
theorem kw_175 : (Cond.fieldLink "java/lang/Throwable" 20 "java/lang/Throwable" "SUPPRESSED_SENTINEL" "Ljava/util/List;") ∈ tw_ := tw_of (List.mem_of_getElem? (i := 175) (by decide +kernel)) (by decide +kernel)
theorem kn_176 : (Cond.laysStatic "java/lang/Throwable" "SUPPRESSED_SENTINEL" "Ljava/util/List;") ∈ lw_tbl := List.mem_append_right _ (List.mem_of_getElem? (i := 176) (by decide +kernel))
theorem kw_177 : (Cond.methodLink "java/lang/Throwable" 27 ⟨"java/lang/Throwable", "fillInStackTrace", "()Ljava/lang/Throwable;"⟩) ∈ tw_ := tw_of (List.mem_of_getElem? (i := 177) (by decide +kernel)) (by decide +kernel)
theorem kw_178 : (Cond.instanceMethod ⟨"java/lang/Throwable", "fillInStackTrace", "()Ljava/lang/Throwable;"⟩) ∈ tw_ := tw_of (List.mem_of_getElem? (i := 178) (by decide +kernel)) (by decide +kernel)
theorem kw_179 : (Cond.sameMethod "java/lang/Throwable" "java/lang/Throwable" "fillInStackTrace" "()Ljava/lang/Throwable;") ∈ tw_ := tw_of (List.mem_of_getElem? (i := 179) (by decide +kernel)) (by decide +kernel)
theorem kw_180 : (Cond.selects "java/lang/ArithmeticException" ⟨"java/lang/Throwable", "fillInStackTrace", "()Ljava/lang/Throwable;"⟩ ⟨"java/lang/Throwable", "fillInStackTrace", "()Ljava/lang/Throwable;"⟩) ∈ tw_ := tw_of (List.mem_of_getElem? (i := 180) (by decide +kernel)) (by decide +kernel)
theorem kw_181 : (Cond.selects "java/lang/IllegalArgumentException" ⟨"java/lang/Throwable", "fillInStackTrace", "()Ljava/lang/Throwable;"⟩ ⟨"java/lang/Throwable", "fillInStackTrace", "()Ljava/lang/Throwable;"⟩) ∈ tw_ := tw_of (List.mem_of_getElem? (i := 181) (by decide +kernel)) (by decide +kernel)
theorem kw_182 : (Cond.selects "java/util/NoSuchElementException" ⟨"java/lang/Throwable", "fillInStackTrace", "()Ljava/lang/Throwable;"⟩ ⟨"java/lang/Throwable", "fillInStackTrace", "()Ljava/lang/Throwable;"⟩) ∈ tw_ := tw_of (List.mem_of_getElem? (i := 182) (by decide +kernel)) (by decide +kernel)
theorem kn_183 : (Cond.codeSync ⟨"java/lang/Throwable", "fillInStackTrace", "()Ljava/lang/Throwable;"⟩ prog_18_method_18_code 1 (Option.some (FieldType.object "java/lang/Throwable"))) ∈ lw_tbl := List.mem_append_right _ (List.mem_of_getElem? (i := 183) (by decide +kernel))
theorem kw_184 : (Cond.methodLink "java/lang/Throwable" 202 ⟨"java/lang/Throwable", "fillInStackTrace", "(I)Ljava/lang/Throwable;"⟩) ∈ tw_ := tw_of (List.mem_of_getElem? (i := 184) (by decide +kernel)) (by decide +kernel)
theorem kn_185 : (Cond.privateMethod ⟨"java/lang/Throwable", "fillInStackTrace", "(I)Ljava/lang/Throwable;"⟩) ∈ lw_tbl := List.mem_append_right _ (List.mem_of_getElem? (i := 185) (by decide +kernel))
theorem kw_186 : (Cond.instanceMethod ⟨"java/lang/Throwable", "fillInStackTrace", "(I)Ljava/lang/Throwable;"⟩) ∈ tw_ := tw_of (List.mem_of_getElem? (i := 186) (by decide +kernel)) (by decide +kernel)
theorem kw_187 : (Cond.instantiable "java/lang/Throwable" 6) ∈ tw_ := tw_of (List.mem_of_getElem? (i := 187) (by decide +kernel)) (by decide +kernel)
theorem kw_188 : (Cond.native ⟨"java/lang/Throwable", "fillInStackTrace", "(I)Ljava/lang/Throwable;"⟩) ∈ tw_ := tw_of (List.mem_of_getElem? (i := 188) (by decide +kernel)) (by decide +kernel)
theorem kn_189 : (Cond.stringRef "FamilyShelf" 150 "no such shelf") ∈ lw_tbl := List.mem_append_right _ (List.mem_of_getElem? (i := 189) (by decide +kernel))
theorem kw_190 : (Cond.methodLink "FamilyShelf" 152 my_Jx_init) ∈ tw_ := tw_of (List.mem_of_getElem? (i := 190) (by decide +kernel)) (by decide +kernel)
theorem kw_191 : (Cond.instanceMethod my_Jx_init) ∈ tw_ := tw_of (List.mem_of_getElem? (i := 191) (by decide +kernel)) (by decide +kernel)
theorem kw_192 : (Cond.code my_Jx_init prog_12_method_2_code 2 none) ∈ tw_ := tw_of (List.mem_of_getElem? (i := 192) (by decide +kernel)) (by decide +kernel)
theorem kw_193 : (Cond.methodLink "java/lang/IndexOutOfBoundsException" 7 my_Jr_init) ∈ tw_ := tw_of (List.mem_of_getElem? (i := 193) (by decide +kernel)) (by decide +kernel)
theorem kw_194 : (Cond.instanceMethod my_Jr_init) ∈ tw_ := tw_of (List.mem_of_getElem? (i := 194) (by decide +kernel)) (by decide +kernel)
theorem kw_195 : (Cond.code my_Jr_init prog_15_method_2_code 2 none) ∈ tw_ := tw_of (List.mem_of_getElem? (i := 195) (by decide +kernel)) (by decide +kernel)
theorem kw_196 : (Cond.methodLink "java/lang/RuntimeException" 7 my_Je_init) ∈ tw_ := tw_of (List.mem_of_getElem? (i := 196) (by decide +kernel)) (by decide +kernel)
theorem kw_197 : (Cond.instanceMethod my_Je_init) ∈ tw_ := tw_of (List.mem_of_getElem? (i := 197) (by decide +kernel)) (by decide +kernel)
theorem kw_198 : (Cond.code my_Je_init prog_10_method_2_code 2 none) ∈ tw_ := tw_of (List.mem_of_getElem? (i := 198) (by decide +kernel)) (by decide +kernel)
theorem kw_199 : (Cond.methodLink "java/lang/Exception" 7 my_Jt_init_LjavalangStr) ∈ tw_ := tw_of (List.mem_of_getElem? (i := 199) (by decide +kernel)) (by decide +kernel)
theorem kw_200 : (Cond.instanceMethod my_Jt_init_LjavalangStr) ∈ tw_ := tw_of (List.mem_of_getElem? (i := 200) (by decide +kernel)) (by decide +kernel)
theorem kw_201 : (Cond.code my_Jt_init_LjavalangStr prog_18_method_2_code 2 none) ∈ tw_ := tw_of (List.mem_of_getElem? (i := 201) (by decide +kernel)) (by decide +kernel)
theorem kw_202 : (Cond.fieldLink "java/lang/Throwable" 198 "java/lang/Throwable" "backtrace" "Ljava/lang/Object;") ∈ tw_ := tw_of (List.mem_of_getElem? (i := 202) (by decide +kernel)) (by decide +kernel)
theorem kw_203 : (Cond.fieldLink "java/lang/Throwable" 31 "java/lang/Throwable" "detailMessage" "Ljava/lang/String;") ∈ tw_ := tw_of (List.mem_of_getElem? (i := 203) (by decide +kernel)) (by decide +kernel)
theorem kw_204 : (Cond.fieldLink "java/lang/Throwable" 7 "java/lang/Throwable" "cause" "Ljava/lang/Throwable;") ∈ tw_ := tw_of (List.mem_of_getElem? (i := 204) (by decide +kernel)) (by decide +kernel)
theorem kw_205 : (Cond.fieldLink "java/lang/Throwable" 17 "java/lang/Throwable" "stackTrace" "[Ljava/lang/StackTraceElement;") ∈ tw_ := tw_of (List.mem_of_getElem? (i := 205) (by decide +kernel)) (by decide +kernel)
theorem kw_206 : (Cond.fieldLink "java/lang/Throwable" 24 "java/lang/Throwable" "suppressedExceptions" "Ljava/util/List;") ∈ tw_ := tw_of (List.mem_of_getElem? (i := 206) (by decide +kernel)) (by decide +kernel)
theorem kw_207 : (Cond.soleField "java/lang/Throwable" "backtrace") ∈ tw_ := tw_of (List.mem_of_getElem? (i := 207) (by decide +kernel)) (by decide +kernel)
theorem kw_208 : (Cond.soleField "java/lang/Throwable" "detailMessage") ∈ tw_ := tw_of (List.mem_of_getElem? (i := 208) (by decide +kernel)) (by decide +kernel)
theorem kw_209 : (Cond.soleField "java/lang/Throwable" "cause") ∈ tw_ := tw_of (List.mem_of_getElem? (i := 209) (by decide +kernel)) (by decide +kernel)
theorem kw_210 : (Cond.soleField "java/lang/Throwable" "stackTrace") ∈ tw_ := tw_of (List.mem_of_getElem? (i := 210) (by decide +kernel)) (by decide +kernel)
theorem kw_211 : (Cond.lays "java/lang/IndexOutOfBoundsException" "java/lang/Throwable" "depth" "I") ∈ tw_ := tw_of (List.mem_of_getElem? (i := 211) (by decide +kernel)) (by decide +kernel)
theorem kw_212 : (Cond.soleField "java/lang/Throwable" "depth") ∈ tw_ := tw_of (List.mem_of_getElem? (i := 212) (by decide +kernel)) (by decide +kernel)
theorem kw_213 : (Cond.soleField "java/lang/Throwable" "suppressedExceptions") ∈ tw_ := tw_of (List.mem_of_getElem? (i := 213) (by decide +kernel)) (by decide +kernel)
theorem kw_214 : (Cond.superclass "java/lang/IndexOutOfBoundsException" "java/lang/RuntimeException") ∈ tw_ := tw_of (List.mem_of_getElem? (i := 214) (by decide +kernel)) (by decide +kernel)
theorem kw_215 : (Cond.arrayClass FieldType.byte) ∈ tw_ := tw_of (List.mem_of_getElem? (i := 215) (by decide +kernel)) (by decide +kernel)
theorem kw_216 : (Cond.methodLink "FamilyShelf" 52 my_S_checkSet) ∈ tw_ := tw_of (List.mem_of_getElem? (i := 216) (by decide +kernel)) (by decide +kernel)
theorem kw_217 : (Cond.static my_S_checkSet) ∈ tw_ := tw_of (List.mem_of_getElem? (i := 217) (by decide +kernel)) (by decide +kernel)
theorem kw_218 : (Cond.code my_S_checkSet prog_1_method_27_code 1 none) ∈ tw_ := tw_of (List.mem_of_getElem? (i := 218) (by decide +kernel)) (by decide +kernel)
theorem kw_219 : (Cond.methodLink "FamilyShelf" 77 my_S_checkRange) ∈ tw_ := tw_of (List.mem_of_getElem? (i := 219) (by decide +kernel)) (by decide +kernel)
theorem kw_220 : (Cond.static my_S_checkRange) ∈ tw_ := tw_of (List.mem_of_getElem? (i := 220) (by decide +kernel)) (by decide +kernel)
theorem kw_221 : (Cond.code my_S_checkRange prog_1_method_28_code 3 none) ∈ tw_ := tw_of (List.mem_of_getElem? (i := 221) (by decide +kernel)) (by decide +kernel)
theorem kw_222 : (Cond.classLink "FamilyShelf" 159 "java/lang/IllegalArgumentException") ∈ tw_ := tw_of (List.mem_of_getElem? (i := 222) (by decide +kernel)) (by decide +kernel)
theorem kw_223 : (Cond.instantiable "java/lang/IllegalArgumentException" 6) ∈ tw_ := tw_of (List.mem_of_getElem? (i := 223) (by decide +kernel)) (by decide +kernel)
theorem kn_224 : (Cond.castable "java/lang/IllegalArgumentException" "java/lang/IllegalArgumentException") ∈ lw_tbl := List.mem_append_right _ (List.mem_of_getElem? (i := 224) (by decide +kernel))
theorem kw_225 : (Cond.selects "java/lang/IllegalArgumentException" ⟨"java/lang/Throwable", "fillInStackTrace", "(I)Ljava/lang/Throwable;"⟩ ⟨"java/lang/Throwable", "fillInStackTrace", "(I)Ljava/lang/Throwable;"⟩) ∈ tw_ := tw_of (List.mem_of_getElem? (i := 225) (by decide +kernel)) (by decide +kernel)
theorem kw_226 : (Cond.lays "java/lang/IllegalArgumentException" "java/lang/Throwable" "cause" "Ljava/lang/Throwable;") ∈ tw_ := tw_of (List.mem_of_getElem? (i := 226) (by decide +kernel)) (by decide +kernel)
theorem kw_227 : (Cond.lays "java/lang/IllegalArgumentException" "java/lang/Throwable" "stackTrace" "[Ljava/lang/StackTraceElement;") ∈ tw_ := tw_of (List.mem_of_getElem? (i := 227) (by decide +kernel)) (by decide +kernel)
theorem kw_228 : (Cond.lays "java/lang/IllegalArgumentException" "java/lang/Throwable" "suppressedExceptions" "Ljava/util/List;") ∈ tw_ := tw_of (List.mem_of_getElem? (i := 228) (by decide +kernel)) (by decide +kernel)
theorem kw_229 : (Cond.lays "java/lang/IllegalArgumentException" "java/lang/Throwable" "detailMessage" "Ljava/lang/String;") ∈ tw_ := tw_of (List.mem_of_getElem? (i := 229) (by decide +kernel)) (by decide +kernel)
theorem kw_230 : (Cond.lays "java/lang/IllegalArgumentException" "java/lang/Throwable" "backtrace" "Ljava/lang/Object;") ∈ tw_ := tw_of (List.mem_of_getElem? (i := 230) (by decide +kernel)) (by decide +kernel)
theorem kn_231 : (Cond.stringRef "FamilyShelf" 161 "an argument outside its range") ∈ lw_tbl := List.mem_append_right _ (List.mem_of_getElem? (i := 231) (by decide +kernel))
theorem kw_232 : (Cond.methodLink "FamilyShelf" 163 my_Jg_init) ∈ tw_ := tw_of (List.mem_of_getElem? (i := 232) (by decide +kernel)) (by decide +kernel)
theorem kw_233 : (Cond.instanceMethod my_Jg_init) ∈ tw_ := tw_of (List.mem_of_getElem? (i := 233) (by decide +kernel)) (by decide +kernel)
theorem kw_234 : (Cond.code my_Jg_init prog_11_method_2_code 2 none) ∈ tw_ := tw_of (List.mem_of_getElem? (i := 234) (by decide +kernel)) (by decide +kernel)
theorem kw_235 : (Cond.methodLink "java/lang/IllegalArgumentException" 7 my_Jr_init) ∈ tw_ := tw_of (List.mem_of_getElem? (i := 235) (by decide +kernel)) (by decide +kernel)
theorem kw_236 : (Cond.lays "java/lang/IllegalArgumentException" "java/lang/Throwable" "depth" "I") ∈ tw_ := tw_of (List.mem_of_getElem? (i := 236) (by decide +kernel)) (by decide +kernel)
theorem kw_237 : (Cond.superclass "java/lang/IllegalArgumentException" "java/lang/RuntimeException") ∈ tw_ := tw_of (List.mem_of_getElem? (i := 237) (by decide +kernel)) (by decide +kernel)
theorem kw_238 : (Cond.methodLink "FamilyShelf" 55 my_S_mirrored) ∈ tw_ := tw_of (List.mem_of_getElem? (i := 238) (by decide +kernel)) (by decide +kernel)
theorem kw_239 : (Cond.static my_S_mirrored) ∈ tw_ := tw_of (List.mem_of_getElem? (i := 239) (by decide +kernel)) (by decide +kernel)
theorem kw_240 : (Cond.code my_S_mirrored prog_1_method_23_code 3 (some .int)) ∈ tw_ := tw_of (List.mem_of_getElem? (i := 240) (by decide +kernel)) (by decide +kernel)
theorem kw_241 : (Cond.methodLink "FamilyShelf" 95 my_S_bitOf) ∈ tw_ := tw_of (List.mem_of_getElem? (i := 241) (by decide +kernel)) (by decide +kernel)
theorem kw_242 : (Cond.static my_S_bitOf) ∈ tw_ := tw_of (List.mem_of_getElem? (i := 242) (by decide +kernel)) (by decide +kernel)
theorem kw_243 : (Cond.code my_S_bitOf prog_1_method_22_code 1 (some .int)) ∈ tw_ := tw_of (List.mem_of_getElem? (i := 243) (by decide +kernel)) (by decide +kernel)
theorem kw_244 : (Cond.methodLink "FamilyShelf" 59 my_F_holds) ∈ tw_ := tw_of (List.mem_of_getElem? (i := 244) (by decide +kernel)) (by decide +kernel)
theorem kw_245 : (Cond.instanceMethod my_F_holds) ∈ tw_ := tw_of (List.mem_of_getElem? (i := 245) (by decide +kernel)) (by decide +kernel)
theorem kw_246 : (Cond.selects "FamilyShelf$Family" my_F_holds my_F_holds) ∈ tw_ := tw_of (List.mem_of_getElem? (i := 246) (by decide +kernel)) (by decide +kernel)
theorem kw_247 : (Cond.code my_F_holds prog_4_method_4_code 2 (some .boolean)) ∈ tw_ := tw_of (List.mem_of_getElem? (i := 247) (by decide +kernel)) (by decide +kernel)
theorem kw_248 : (Cond.methodLink "FamilyShelf" 63 my_F_include) ∈ tw_ := tw_of (List.mem_of_getElem? (i := 248) (by decide +kernel)) (by decide +kernel)
theorem kw_249 : (Cond.instanceMethod my_F_include) ∈ tw_ := tw_of (List.mem_of_getElem? (i := 249) (by decide +kernel)) (by decide +kernel)
theorem kw_250 : (Cond.selects "FamilyShelf$Family" my_F_include my_F_include) ∈ tw_ := tw_of (List.mem_of_getElem? (i := 250) (by decide +kernel)) (by decide +kernel)
theorem kw_251 : (Cond.code my_F_include prog_4_method_5_code 2 none) ∈ tw_ := tw_of (List.mem_of_getElem? (i := 251) (by decide +kernel)) (by decide +kernel)
theorem kw_252 : (Cond.methodLink "FamilyShelfLaw" 96 my_L_take) ∈ tw_ := tw_of (List.mem_of_getElem? (i := 252) (by decide +kernel)) (by decide +kernel)
theorem kw_253 : (Cond.static my_L_take) ∈ tw_ := tw_of (List.mem_of_getElem? (i := 253) (by decide +kernel)) (by decide +kernel)
theorem kw_254 : (Cond.codeWith my_L_take method_4_code 5 (some .int) [(0, 17, 20, 13), (0, 17, 24, 15)]) ∈ tw_ := tw_of (List.mem_of_getElem? (i := 254) (by decide +kernel)) (by decide +kernel)
theorem kw_255 : (Cond.methodLink "FamilyShelfLaw" 17 my_S_take) ∈ tw_ := tw_of (List.mem_of_getElem? (i := 255) (by decide +kernel)) (by decide +kernel)
theorem kw_256 : (Cond.instanceMethod my_S_take) ∈ tw_ := tw_of (List.mem_of_getElem? (i := 256) (by decide +kernel)) (by decide +kernel)
theorem kw_257 : (Cond.selects "FamilyShelf" my_S_take my_S_take) ∈ tw_ := tw_of (List.mem_of_getElem? (i := 257) (by decide +kernel)) (by decide +kernel)
theorem kw_258 : (Cond.code my_S_take prog_1_method_3_code 5 (some .boolean)) ∈ tw_ := tw_of (List.mem_of_getElem? (i := 258) (by decide +kernel)) (by decide +kernel)
theorem kw_259 : (Cond.methodLink "FamilyShelf" 66 my_F_exclude) ∈ tw_ := tw_of (List.mem_of_getElem? (i := 259) (by decide +kernel)) (by decide +kernel)
theorem kw_260 : (Cond.instanceMethod my_F_exclude) ∈ tw_ := tw_of (List.mem_of_getElem? (i := 260) (by decide +kernel)) (by decide +kernel)
theorem kw_261 : (Cond.selects "FamilyShelf$Family" my_F_exclude my_F_exclude) ∈ tw_ := tw_of (List.mem_of_getElem? (i := 261) (by decide +kernel)) (by decide +kernel)
theorem kw_262 : (Cond.code my_F_exclude prog_4_method_6_code 2 none) ∈ tw_ := tw_of (List.mem_of_getElem? (i := 262) (by decide +kernel)) (by decide +kernel)
theorem kw_263 : (Cond.constantLong "FamilyShelf$Family" 27 (-1 : Int64)) ∈ tw_ := tw_of (List.mem_of_getElem? (i := 263) (by decide +kernel)) (by decide +kernel)
theorem kw_264 : (Cond.methodLink "FamilyShelfLaw" 99 my_L_clear) ∈ tw_ := tw_of (List.mem_of_getElem? (i := 264) (by decide +kernel)) (by decide +kernel)
theorem kw_265 : (Cond.static my_L_clear) ∈ tw_ := tw_of (List.mem_of_getElem? (i := 265) (by decide +kernel)) (by decide +kernel)
theorem kw_266 : (Cond.codeWith my_L_clear method_5_code 4 (some .int) [(0, 9, 12, 13)]) ∈ tw_ := tw_of (List.mem_of_getElem? (i := 266) (by decide +kernel)) (by decide +kernel)
theorem kw_267 : (Cond.methodLink "FamilyShelfLaw" 20 my_S_clear) ∈ tw_ := tw_of (List.mem_of_getElem? (i := 267) (by decide +kernel)) (by decide +kernel)
theorem kw_268 : (Cond.instanceMethod my_S_clear) ∈ tw_ := tw_of (List.mem_of_getElem? (i := 268) (by decide +kernel)) (by decide +kernel)
theorem kw_269 : (Cond.selects "FamilyShelf" my_S_clear my_S_clear) ∈ tw_ := tw_of (List.mem_of_getElem? (i := 269) (by decide +kernel)) (by decide +kernel)
theorem kw_270 : (Cond.code my_S_clear prog_1_method_4_code 3 (some .int)) ∈ tw_ := tw_of (List.mem_of_getElem? (i := 270) (by decide +kernel)) (by decide +kernel)
theorem kw_271 : (Cond.methodLink "FamilyShelf" 69 my_F_total) ∈ tw_ := tw_of (List.mem_of_getElem? (i := 271) (by decide +kernel)) (by decide +kernel)
theorem kw_272 : (Cond.instanceMethod my_F_total) ∈ tw_ := tw_of (List.mem_of_getElem? (i := 272) (by decide +kernel)) (by decide +kernel)
theorem kw_273 : (Cond.selects "FamilyShelf$Family" my_F_total my_F_total) ∈ tw_ := tw_of (List.mem_of_getElem? (i := 273) (by decide +kernel)) (by decide +kernel)
theorem kw_274 : (Cond.code my_F_total prog_4_method_7_code 1 (some .int)) ∈ tw_ := tw_of (List.mem_of_getElem? (i := 274) (by decide +kernel)) (by decide +kernel)
theorem kw_275 : (Cond.methodLink "FamilyShelf$Family" 29 my_F_totalOfWords) ∈ tw_ := tw_of (List.mem_of_getElem? (i := 275) (by decide +kernel)) (by decide +kernel)
theorem kn_276 : (Cond.privateMethod my_F_totalOfWords) ∈ lw_tbl := List.mem_append_right _ (List.mem_of_getElem? (i := 276) (by decide +kernel))
theorem kw_277 : (Cond.instanceMethod my_F_totalOfWords) ∈ tw_ := tw_of (List.mem_of_getElem? (i := 277) (by decide +kernel)) (by decide +kernel)
theorem kw_278 : (Cond.code my_F_totalOfWords prog_4_method_9_code 4 (some .int)) ∈ tw_ := tw_of (List.mem_of_getElem? (i := 278) (by decide +kernel)) (by decide +kernel)
theorem kw_279 : (Cond.methodLink "FamilyShelf$Family" 33 my_Jl_bitCount) ∈ tw_ := tw_of (List.mem_of_getElem? (i := 279) (by decide +kernel)) (by decide +kernel)
theorem kw_280 : (Cond.static my_Jl_bitCount) ∈ tw_ := tw_of (List.mem_of_getElem? (i := 280) (by decide +kernel)) (by decide +kernel)
theorem kw_281 : (Cond.code my_Jl_bitCount prog_14_method_50_code 2 (some .int)) ∈ tw_ := tw_of (List.mem_of_getElem? (i := 281) (by decide +kernel)) (by decide +kernel)
theorem kw_282 : (Cond.constantLong "java/lang/Long" 314 (6148914691236517205 : Int64)) ∈ tw_ := tw_of (List.mem_of_getElem? (i := 282) (by decide +kernel)) (by decide +kernel)
theorem kw_283 : (Cond.constantLong "java/lang/Long" 316 (3689348814741910323 : Int64)) ∈ tw_ := tw_of (List.mem_of_getElem? (i := 283) (by decide +kernel)) (by decide +kernel)
theorem kw_284 : (Cond.constantLong "java/lang/Long" 318 (1085102592571150095 : Int64)) ∈ tw_ := tw_of (List.mem_of_getElem? (i := 284) (by decide +kernel)) (by decide +kernel)
theorem kw_285 : (Cond.methodLink "FamilyShelf" 73 my_F_fill) ∈ tw_ := tw_of (List.mem_of_getElem? (i := 285) (by decide +kernel)) (by decide +kernel)
theorem kw_286 : (Cond.instanceMethod my_F_fill) ∈ tw_ := tw_of (List.mem_of_getElem? (i := 286) (by decide +kernel)) (by decide +kernel)
theorem kw_287 : (Cond.selects "FamilyShelf$Family" my_F_fill my_F_fill) ∈ tw_ := tw_of (List.mem_of_getElem? (i := 287) (by decide +kernel)) (by decide +kernel)
theorem kw_288 : (Cond.code my_F_fill prog_4_method_2_code 3 none) ∈ tw_ := tw_of (List.mem_of_getElem? (i := 288) (by decide +kernel)) (by decide +kernel)
theorem kw_289 : (Cond.methodLink "FamilyShelf$Family" 15 my_Ja_fill_JJV) ∈ tw_ := tw_of (List.mem_of_getElem? (i := 289) (by decide +kernel)) (by decide +kernel)
theorem kw_290 : (Cond.static my_Ja_fill_JJV) ∈ tw_ := tw_of (List.mem_of_getElem? (i := 290) (by decide +kernel)) (by decide +kernel)
theorem kw_291 : (Cond.code my_Ja_fill_JJV prog_19_method_101_code 5 none) ∈ tw_ := tw_of (List.mem_of_getElem? (i := 291) (by decide +kernel)) (by decide +kernel)
theorem kw_292 : (Cond.methodLink "FamilyShelfLaw" 103 my_L_combine) ∈ tw_ := tw_of (List.mem_of_getElem? (i := 292) (by decide +kernel)) (by decide +kernel)
theorem kw_293 : (Cond.static my_L_combine) ∈ tw_ := tw_of (List.mem_of_getElem? (i := 293) (by decide +kernel)) (by decide +kernel)
theorem kw_294 : (Cond.codeWith my_L_combine method_6_code 7 (some .int) [(0, 14, 17, 13), (0, 14, 21, 15), (0, 14, 25, 28)]) ∈ tw_ := tw_of (List.mem_of_getElem? (i := 294) (by decide +kernel)) (by decide +kernel)
theorem kw_295 : (Cond.classLink "FamilyShelfLaw" 28 "java/lang/ArithmeticException") ∈ tw_ := tw_of (List.mem_of_getElem? (i := 295) (by decide +kernel)) (by decide +kernel)
theorem kw_296 : (Cond.methodLink "FamilyShelfLaw" 24 my_S_combine) ∈ tw_ := tw_of (List.mem_of_getElem? (i := 296) (by decide +kernel)) (by decide +kernel)
theorem kw_297 : (Cond.instanceMethod my_S_combine) ∈ tw_ := tw_of (List.mem_of_getElem? (i := 297) (by decide +kernel)) (by decide +kernel)
theorem kw_298 : (Cond.selects "FamilyShelf" my_S_combine my_S_combine) ∈ tw_ := tw_of (List.mem_of_getElem? (i := 298) (by decide +kernel)) (by decide +kernel)
theorem kw_299 : (Cond.code my_S_combine prog_1_method_5_code 5 (some .int)) ∈ tw_ := tw_of (List.mem_of_getElem? (i := 299) (by decide +kernel)) (by decide +kernel)
theorem kw_300 : (Cond.methodLink "FamilyShelf" 81 my_S_checkDivisor) ∈ tw_ := tw_of (List.mem_of_getElem? (i := 300) (by decide +kernel)) (by decide +kernel)
theorem kw_301 : (Cond.static my_S_checkDivisor) ∈ tw_ := tw_of (List.mem_of_getElem? (i := 301) (by decide +kernel)) (by decide +kernel)
theorem kw_302 : (Cond.code my_S_checkDivisor prog_1_method_30_code 1 none) ∈ tw_ := tw_of (List.mem_of_getElem? (i := 302) (by decide +kernel)) (by decide +kernel)
theorem kw_303 : (Cond.classLink "FamilyShelf" 166 "java/lang/ArithmeticException") ∈ tw_ := tw_of (List.mem_of_getElem? (i := 303) (by decide +kernel)) (by decide +kernel)
theorem kw_304 : (Cond.instantiable "java/lang/ArithmeticException" 6) ∈ tw_ := tw_of (List.mem_of_getElem? (i := 304) (by decide +kernel)) (by decide +kernel)
theorem kn_305 : (Cond.castable "java/lang/ArithmeticException" "java/lang/ArithmeticException") ∈ lw_tbl := List.mem_append_right _ (List.mem_of_getElem? (i := 305) (by decide +kernel))
theorem kw_306 : (Cond.selects "java/lang/ArithmeticException" ⟨"java/lang/Throwable", "fillInStackTrace", "(I)Ljava/lang/Throwable;"⟩ ⟨"java/lang/Throwable", "fillInStackTrace", "(I)Ljava/lang/Throwable;"⟩) ∈ tw_ := tw_of (List.mem_of_getElem? (i := 306) (by decide +kernel)) (by decide +kernel)
theorem kw_307 : (Cond.lays "java/lang/ArithmeticException" "java/lang/Throwable" "cause" "Ljava/lang/Throwable;") ∈ tw_ := tw_of (List.mem_of_getElem? (i := 307) (by decide +kernel)) (by decide +kernel)
theorem kw_308 : (Cond.lays "java/lang/ArithmeticException" "java/lang/Throwable" "stackTrace" "[Ljava/lang/StackTraceElement;") ∈ tw_ := tw_of (List.mem_of_getElem? (i := 308) (by decide +kernel)) (by decide +kernel)
theorem kw_309 : (Cond.lays "java/lang/ArithmeticException" "java/lang/Throwable" "suppressedExceptions" "Ljava/util/List;") ∈ tw_ := tw_of (List.mem_of_getElem? (i := 309) (by decide +kernel)) (by decide +kernel)
theorem kw_310 : (Cond.lays "java/lang/ArithmeticException" "java/lang/Throwable" "detailMessage" "Ljava/lang/String;") ∈ tw_ := tw_of (List.mem_of_getElem? (i := 310) (by decide +kernel)) (by decide +kernel)
theorem kw_311 : (Cond.lays "java/lang/ArithmeticException" "java/lang/Throwable" "backtrace" "Ljava/lang/Object;") ∈ tw_ := tw_of (List.mem_of_getElem? (i := 311) (by decide +kernel)) (by decide +kernel)
theorem kn_312 : (Cond.stringRef "FamilyShelf" 168 "division by a family without sets") ∈ lw_tbl := List.mem_append_right _ (List.mem_of_getElem? (i := 312) (by decide +kernel))
theorem kw_313 : (Cond.methodLink "FamilyShelf" 170 my_Jm_init) ∈ tw_ := tw_of (List.mem_of_getElem? (i := 313) (by decide +kernel)) (by decide +kernel)
theorem kw_314 : (Cond.instanceMethod my_Jm_init) ∈ tw_ := tw_of (List.mem_of_getElem? (i := 314) (by decide +kernel)) (by decide +kernel)
theorem kw_315 : (Cond.code my_Jm_init prog_9_method_2_code 2 none) ∈ tw_ := tw_of (List.mem_of_getElem? (i := 315) (by decide +kernel)) (by decide +kernel)
theorem kw_316 : (Cond.methodLink "java/lang/ArithmeticException" 7 my_Jr_init) ∈ tw_ := tw_of (List.mem_of_getElem? (i := 316) (by decide +kernel)) (by decide +kernel)
theorem kw_317 : (Cond.lays "java/lang/ArithmeticException" "java/lang/Throwable" "depth" "I") ∈ tw_ := tw_of (List.mem_of_getElem? (i := 317) (by decide +kernel)) (by decide +kernel)
theorem kw_318 : (Cond.superclass "java/lang/ArithmeticException" "java/lang/RuntimeException") ∈ tw_ := tw_of (List.mem_of_getElem? (i := 318) (by decide +kernel)) (by decide +kernel)
theorem kw_319 : (Cond.methodLink "FamilyShelf" 85 my_A_combineInto) ∈ tw_ := tw_of (List.mem_of_getElem? (i := 319) (by decide +kernel)) (by decide +kernel)
theorem kw_320 : (Cond.instanceMethod my_A_combineInto) ∈ tw_ := tw_of (List.mem_of_getElem? (i := 320) (by decide +kernel)) (by decide +kernel)
theorem kw_321 : (Cond.selects "FamilyShelf$Algebra" my_A_combineInto my_A_combineInto) ∈ tw_ := tw_of (List.mem_of_getElem? (i := 321) (by decide +kernel)) (by decide +kernel)
theorem kw_322 : (Cond.code my_A_combineInto prog_2_method_2_code 5 none) ∈ tw_ := tw_of (List.mem_of_getElem? (i := 322) (by decide +kernel)) (by decide +kernel)
theorem kw_323 : (Cond.methodLink "FamilyShelf$Algebra" 34 my_A_unite) ∈ tw_ := tw_of (List.mem_of_getElem? (i := 323) (by decide +kernel)) (by decide +kernel)
theorem kw_324 : (Cond.static my_A_unite) ∈ tw_ := tw_of (List.mem_of_getElem? (i := 324) (by decide +kernel)) (by decide +kernel)
theorem kw_325 : (Cond.code my_A_unite prog_2_method_3_code 4 none) ∈ tw_ := tw_of (List.mem_of_getElem? (i := 325) (by decide +kernel)) (by decide +kernel)
theorem kw_326 : (Cond.methodLink "FamilyShelf$Algebra" 38 my_A_intersect) ∈ tw_ := tw_of (List.mem_of_getElem? (i := 326) (by decide +kernel)) (by decide +kernel)
theorem kw_327 : (Cond.static my_A_intersect) ∈ tw_ := tw_of (List.mem_of_getElem? (i := 327) (by decide +kernel)) (by decide +kernel)
theorem kw_328 : (Cond.code my_A_intersect prog_2_method_4_code 4 none) ∈ tw_ := tw_of (List.mem_of_getElem? (i := 328) (by decide +kernel)) (by decide +kernel)
theorem kw_329 : (Cond.methodLink "FamilyShelf$Algebra" 41 my_A_subtract) ∈ tw_ := tw_of (List.mem_of_getElem? (i := 329) (by decide +kernel)) (by decide +kernel)
theorem kw_330 : (Cond.static my_A_subtract) ∈ tw_ := tw_of (List.mem_of_getElem? (i := 330) (by decide +kernel)) (by decide +kernel)
theorem kw_331 : (Cond.code my_A_subtract prog_2_method_5_code 4 none) ∈ tw_ := tw_of (List.mem_of_getElem? (i := 331) (by decide +kernel)) (by decide +kernel)
theorem kw_332 : (Cond.constantLong "FamilyShelf$Algebra" 62 (-1 : Int64)) ∈ tw_ := tw_of (List.mem_of_getElem? (i := 332) (by decide +kernel)) (by decide +kernel)
theorem kw_333 : (Cond.methodLink "FamilyShelf$Algebra" 44 my_A_pair) ∈ tw_ := tw_of (List.mem_of_getElem? (i := 333) (by decide +kernel)) (by decide +kernel)
theorem kn_334 : (Cond.privateMethod my_A_pair) ∈ lw_tbl := List.mem_append_right _ (List.mem_of_getElem? (i := 334) (by decide +kernel))
theorem kw_335 : (Cond.instanceMethod my_A_pair) ∈ tw_ := tw_of (List.mem_of_getElem? (i := 335) (by decide +kernel)) (by decide +kernel)
theorem kw_336 : (Cond.code my_A_pair prog_2_method_6_code 11 none) ∈ tw_ := tw_of (List.mem_of_getElem? (i := 336) (by decide +kernel)) (by decide +kernel)
theorem kw_337 : (Cond.methodLink "FamilyShelf$Algebra" 64 my_F_total) ∈ tw_ := tw_of (List.mem_of_getElem? (i := 337) (by decide +kernel)) (by decide +kernel)
theorem kw_338 : (Cond.methodLink "FamilyShelf$Algebra" 68 my_A_lowsOf) ∈ tw_ := tw_of (List.mem_of_getElem? (i := 338) (by decide +kernel)) (by decide +kernel)
theorem kw_339 : (Cond.static my_A_lowsOf) ∈ tw_ := tw_of (List.mem_of_getElem? (i := 339) (by decide +kernel)) (by decide +kernel)
theorem kw_340 : (Cond.code my_A_lowsOf prog_2_method_7_code 4 (some .long)) ∈ tw_ := tw_of (List.mem_of_getElem? (i := 340) (by decide +kernel)) (by decide +kernel)
theorem kw_341 : (Cond.methodLink "FamilyShelf$Algebra" 72 my_F_fill) ∈ tw_ := tw_of (List.mem_of_getElem? (i := 341) (by decide +kernel)) (by decide +kernel)
theorem kw_342 : (Cond.methodLink "FamilyShelf$Algebra" 76 my_A_shiftAll) ∈ tw_ := tw_of (List.mem_of_getElem? (i := 342) (by decide +kernel)) (by decide +kernel)
theorem kn_343 : (Cond.privateMethod my_A_shiftAll) ∈ lw_tbl := List.mem_append_right _ (List.mem_of_getElem? (i := 343) (by decide +kernel))
theorem kw_344 : (Cond.instanceMethod my_A_shiftAll) ∈ tw_ := tw_of (List.mem_of_getElem? (i := 344) (by decide +kernel)) (by decide +kernel)
theorem kw_345 : (Cond.code my_A_shiftAll prog_2_method_8_code 5 none) ∈ tw_ := tw_of (List.mem_of_getElem? (i := 345) (by decide +kernel)) (by decide +kernel)
theorem kw_346 : (Cond.methodLink "FamilyShelf$Algebra" 84 my_A_joinedWord) ∈ tw_ := tw_of (List.mem_of_getElem? (i := 346) (by decide +kernel)) (by decide +kernel)
theorem kw_347 : (Cond.static my_A_joinedWord) ∈ tw_ := tw_of (List.mem_of_getElem? (i := 347) (by decide +kernel)) (by decide +kernel)
theorem kw_348 : (Cond.code my_A_joinedWord prog_2_method_9_code 6 (some .long)) ∈ tw_ := tw_of (List.mem_of_getElem? (i := 348) (by decide +kernel)) (by decide +kernel)
theorem kn_349 : (Cond.fieldLinkNest "FamilyShelf$Algebra" 91 "FamilyShelf" "HAVING" "[J" "FamilyShelf") ∈ lw_tbl := List.mem_append_right _ (List.mem_of_getElem? (i := 349) (by decide +kernel))
theorem kn_350 : (Cond.laysStatic "FamilyShelf" "HAVING" "[J") ∈ lw_tbl := List.mem_append_right _ (List.mem_of_getElem? (i := 350) (by decide +kernel))
theorem kw_351 : (Cond.methodLink "FamilyShelf$Algebra" 88 my_A_metWord) ∈ tw_ := tw_of (List.mem_of_getElem? (i := 351) (by decide +kernel)) (by decide +kernel)
theorem kw_352 : (Cond.static my_A_metWord) ∈ tw_ := tw_of (List.mem_of_getElem? (i := 352) (by decide +kernel)) (by decide +kernel)
theorem kw_353 : (Cond.code my_A_metWord prog_2_method_10_code 6 (some .long)) ∈ tw_ := tw_of (List.mem_of_getElem? (i := 353) (by decide +kernel)) (by decide +kernel)
theorem kw_354 : (Cond.methodLink "FamilyShelf$Algebra" 80 my_A_pairHighs) ∈ tw_ := tw_of (List.mem_of_getElem? (i := 354) (by decide +kernel)) (by decide +kernel)
theorem kn_355 : (Cond.privateMethod my_A_pairHighs) ∈ lw_tbl := List.mem_append_right _ (List.mem_of_getElem? (i := 355) (by decide +kernel))
theorem kw_356 : (Cond.instanceMethod my_A_pairHighs) ∈ tw_ := tw_of (List.mem_of_getElem? (i := 356) (by decide +kernel)) (by decide +kernel)
theorem kw_357 : (Cond.code my_A_pairHighs prog_2_method_11_code 7 none) ∈ tw_ := tw_of (List.mem_of_getElem? (i := 357) (by decide +kernel)) (by decide +kernel)
theorem kw_358 : (Cond.methodLink "FamilyShelf$Algebra" 94 my_F_holds) ∈ tw_ := tw_of (List.mem_of_getElem? (i := 358) (by decide +kernel)) (by decide +kernel)
theorem kw_359 : (Cond.methodLink "FamilyShelf$Algebra" 48 my_F_copyFrom) ∈ tw_ := tw_of (List.mem_of_getElem? (i := 359) (by decide +kernel)) (by decide +kernel)
theorem kw_360 : (Cond.instanceMethod my_F_copyFrom) ∈ tw_ := tw_of (List.mem_of_getElem? (i := 360) (by decide +kernel)) (by decide +kernel)
theorem kw_361 : (Cond.selects "FamilyShelf$Family" my_F_copyFrom my_F_copyFrom) ∈ tw_ := tw_of (List.mem_of_getElem? (i := 361) (by decide +kernel)) (by decide +kernel)
theorem kw_362 : (Cond.code my_F_copyFrom prog_4_method_3_code 2 none) ∈ tw_ := tw_of (List.mem_of_getElem? (i := 362) (by decide +kernel)) (by decide +kernel)
theorem kw_363 : (Cond.methodLink "FamilyShelf$Family" 21 ⟨"java/lang/System", "arraycopy", "(Ljava/lang/Object;ILjava/lang/Object;II)V"⟩) ∈ tw_ := tw_of (List.mem_of_getElem? (i := 363) (by decide +kernel)) (by decide +kernel)
theorem kw_364 : (Cond.static ⟨"java/lang/System", "arraycopy", "(Ljava/lang/Object;ILjava/lang/Object;II)V"⟩) ∈ tw_ := tw_of (List.mem_of_getElem? (i := 364) (by decide +kernel)) (by decide +kernel)
theorem kw_365 : (Cond.native ⟨"java/lang/System", "arraycopy", "(Ljava/lang/Object;ILjava/lang/Object;II)V"⟩) ∈ tw_ := tw_of (List.mem_of_getElem? (i := 365) (by decide +kernel)) (by decide +kernel)
theorem kw_366 : (Cond.methodLink "FamilyShelf$Algebra" 52 my_F_close) ∈ tw_ := tw_of (List.mem_of_getElem? (i := 366) (by decide +kernel)) (by decide +kernel)
theorem kw_367 : (Cond.instanceMethod my_F_close) ∈ tw_ := tw_of (List.mem_of_getElem? (i := 367) (by decide +kernel)) (by decide +kernel)
theorem kw_368 : (Cond.selects "FamilyShelf$Family" my_F_close my_F_close) ∈ tw_ := tw_of (List.mem_of_getElem? (i := 368) (by decide +kernel)) (by decide +kernel)
theorem kw_369 : (Cond.code my_F_close prog_4_method_18_code 4 none) ∈ tw_ := tw_of (List.mem_of_getElem? (i := 369) (by decide +kernel)) (by decide +kernel)
theorem kw_370 : (Cond.methodLink "FamilyShelf$Family" 59 my_F_moved) ∈ tw_ := tw_of (List.mem_of_getElem? (i := 370) (by decide +kernel)) (by decide +kernel)
theorem kw_371 : (Cond.instanceMethod my_F_moved) ∈ tw_ := tw_of (List.mem_of_getElem? (i := 371) (by decide +kernel)) (by decide +kernel)
theorem kw_372 : (Cond.selects "FamilyShelf$Family" my_F_moved my_F_moved) ∈ tw_ := tw_of (List.mem_of_getElem? (i := 372) (by decide +kernel)) (by decide +kernel)
theorem kw_373 : (Cond.code my_F_moved prog_4_method_17_code 4 (some .long)) ∈ tw_ := tw_of (List.mem_of_getElem? (i := 373) (by decide +kernel)) (by decide +kernel)
theorem kw_374 : (Cond.methodLink "FamilyShelf$Family" 53 my_F_lowered) ∈ tw_ := tw_of (List.mem_of_getElem? (i := 374) (by decide +kernel)) (by decide +kernel)
theorem kw_375 : (Cond.instanceMethod my_F_lowered) ∈ tw_ := tw_of (List.mem_of_getElem? (i := 375) (by decide +kernel)) (by decide +kernel)
theorem kw_376 : (Cond.selects "FamilyShelf$Family" my_F_lowered my_F_lowered) ∈ tw_ := tw_of (List.mem_of_getElem? (i := 376) (by decide +kernel)) (by decide +kernel)
theorem kw_377 : (Cond.code my_F_lowered prog_4_method_15_code 4 (some .long)) ∈ tw_ := tw_of (List.mem_of_getElem? (i := 377) (by decide +kernel)) (by decide +kernel)
theorem kw_378 : (Cond.methodLink "FamilyShelf$Family" 43 my_F_having) ∈ tw_ := tw_of (List.mem_of_getElem? (i := 378) (by decide +kernel)) (by decide +kernel)
theorem kw_379 : (Cond.instanceMethod my_F_having) ∈ tw_ := tw_of (List.mem_of_getElem? (i := 379) (by decide +kernel)) (by decide +kernel)
theorem kw_380 : (Cond.selects "FamilyShelf$Family" my_F_having my_F_having) ∈ tw_ := tw_of (List.mem_of_getElem? (i := 380) (by decide +kernel)) (by decide +kernel)
theorem kw_381 : (Cond.code my_F_having prog_4_method_13_code 3 (some .long)) ∈ tw_ := tw_of (List.mem_of_getElem? (i := 381) (by decide +kernel)) (by decide +kernel)
theorem kn_382 : (Cond.fieldLinkNest "FamilyShelf$Family" 50 "FamilyShelf" "HAVING" "[J" "FamilyShelf") ∈ lw_tbl := List.mem_append_right _ (List.mem_of_getElem? (i := 382) (by decide +kernel))
theorem kw_383 : (Cond.methodLink "FamilyShelf$Family" 56 my_F_raised) ∈ tw_ := tw_of (List.mem_of_getElem? (i := 383) (by decide +kernel)) (by decide +kernel)
theorem kw_384 : (Cond.instanceMethod my_F_raised) ∈ tw_ := tw_of (List.mem_of_getElem? (i := 384) (by decide +kernel)) (by decide +kernel)
theorem kw_385 : (Cond.selects "FamilyShelf$Family" my_F_raised my_F_raised) ∈ tw_ := tw_of (List.mem_of_getElem? (i := 385) (by decide +kernel)) (by decide +kernel)
theorem kw_386 : (Cond.code my_F_raised prog_4_method_16_code 4 (some .long)) ∈ tw_ := tw_of (List.mem_of_getElem? (i := 386) (by decide +kernel)) (by decide +kernel)
theorem kw_387 : (Cond.methodLink "FamilyShelf$Family" 47 my_F_lacking) ∈ tw_ := tw_of (List.mem_of_getElem? (i := 387) (by decide +kernel)) (by decide +kernel)
theorem kw_388 : (Cond.instanceMethod my_F_lacking) ∈ tw_ := tw_of (List.mem_of_getElem? (i := 388) (by decide +kernel)) (by decide +kernel)
theorem kw_389 : (Cond.selects "FamilyShelf$Family" my_F_lacking my_F_lacking) ∈ tw_ := tw_of (List.mem_of_getElem? (i := 389) (by decide +kernel)) (by decide +kernel)
theorem kw_390 : (Cond.code my_F_lacking prog_4_method_14_code 3 (some .long)) ∈ tw_ := tw_of (List.mem_of_getElem? (i := 390) (by decide +kernel)) (by decide +kernel)
theorem kw_391 : (Cond.methodLink "FamilyShelf$Algebra" 56 my_A_divide) ∈ tw_ := tw_of (List.mem_of_getElem? (i := 391) (by decide +kernel)) (by decide +kernel)
theorem kw_392 : (Cond.static my_A_divide) ∈ tw_ := tw_of (List.mem_of_getElem? (i := 392) (by decide +kernel)) (by decide +kernel)
theorem kw_393 : (Cond.code my_A_divide prog_2_method_12_code 4 none) ∈ tw_ := tw_of (List.mem_of_getElem? (i := 393) (by decide +kernel)) (by decide +kernel)
theorem kw_394 : (Cond.methodLink "FamilyShelf$Algebra" 98 my_A_usedBits) ∈ tw_ := tw_of (List.mem_of_getElem? (i := 394) (by decide +kernel)) (by decide +kernel)
theorem kw_395 : (Cond.static my_A_usedBits) ∈ tw_ := tw_of (List.mem_of_getElem? (i := 395) (by decide +kernel)) (by decide +kernel)
theorem kw_396 : (Cond.code my_A_usedBits prog_2_method_13_code 3 (some .int)) ∈ tw_ := tw_of (List.mem_of_getElem? (i := 396) (by decide +kernel)) (by decide +kernel)
theorem kw_397 : (Cond.methodLink "FamilyShelf$Algebra" 102 my_A_fillDisjoint) ∈ tw_ := tw_of (List.mem_of_getElem? (i := 397) (by decide +kernel)) (by decide +kernel)
theorem kw_398 : (Cond.static my_A_fillDisjoint) ∈ tw_ := tw_of (List.mem_of_getElem? (i := 398) (by decide +kernel)) (by decide +kernel)
theorem kw_399 : (Cond.code my_A_fillDisjoint prog_2_method_14_code 6 none) ∈ tw_ := tw_of (List.mem_of_getElem? (i := 399) (by decide +kernel)) (by decide +kernel)
theorem kw_400 : (Cond.methodLink "FamilyShelf$Algebra" 106 my_A_keepUnionsIn) ∈ tw_ := tw_of (List.mem_of_getElem? (i := 400) (by decide +kernel)) (by decide +kernel)
theorem kw_401 : (Cond.static my_A_keepUnionsIn) ∈ tw_ := tw_of (List.mem_of_getElem? (i := 401) (by decide +kernel)) (by decide +kernel)
theorem kw_402 : (Cond.code my_A_keepUnionsIn prog_2_method_15_code 6 none) ∈ tw_ := tw_of (List.mem_of_getElem? (i := 402) (by decide +kernel)) (by decide +kernel)
theorem kw_403 : (Cond.methodLink "FamilyShelf" 89 my_S_shelveFresh) ∈ tw_ := tw_of (List.mem_of_getElem? (i := 403) (by decide +kernel)) (by decide +kernel)
theorem kn_404 : (Cond.privateMethod my_S_shelveFresh) ∈ lw_tbl := List.mem_append_right _ (List.mem_of_getElem? (i := 404) (by decide +kernel))
theorem kw_405 : (Cond.instanceMethod my_S_shelveFresh) ∈ tw_ := tw_of (List.mem_of_getElem? (i := 405) (by decide +kernel)) (by decide +kernel)
theorem kw_406 : (Cond.code my_S_shelveFresh prog_1_method_21_code 3 (some .int)) ∈ tw_ := tw_of (List.mem_of_getElem? (i := 406) (by decide +kernel)) (by decide +kernel)
theorem kw_407 : (Cond.methodLink "FamilyShelfLaw" 107 my_L_change) ∈ tw_ := tw_of (List.mem_of_getElem? (i := 407) (by decide +kernel)) (by decide +kernel)
theorem kw_408 : (Cond.static my_L_change) ∈ tw_ := tw_of (List.mem_of_getElem? (i := 408) (by decide +kernel)) (by decide +kernel)
theorem kw_409 : (Cond.codeWith my_L_change method_7_code 7 (some .int) [(0, 14, 17, 13), (0, 14, 21, 15)]) ∈ tw_ := tw_of (List.mem_of_getElem? (i := 409) (by decide +kernel)) (by decide +kernel)
theorem kw_410 : (Cond.methodLink "FamilyShelfLaw" 30 my_S_change) ∈ tw_ := tw_of (List.mem_of_getElem? (i := 410) (by decide +kernel)) (by decide +kernel)
theorem kw_411 : (Cond.instanceMethod my_S_change) ∈ tw_ := tw_of (List.mem_of_getElem? (i := 411) (by decide +kernel)) (by decide +kernel)
theorem kw_412 : (Cond.selects "FamilyShelf" my_S_change my_S_change) ∈ tw_ := tw_of (List.mem_of_getElem? (i := 412) (by decide +kernel)) (by decide +kernel)
theorem kw_413 : (Cond.code my_S_change prog_1_method_6_code 5 (some .int)) ∈ tw_ := tw_of (List.mem_of_getElem? (i := 413) (by decide +kernel)) (by decide +kernel)
theorem kw_414 : (Cond.methodLink "FamilyShelf" 92 my_S_checkElement) ∈ tw_ := tw_of (List.mem_of_getElem? (i := 414) (by decide +kernel)) (by decide +kernel)
theorem kw_415 : (Cond.static my_S_checkElement) ∈ tw_ := tw_of (List.mem_of_getElem? (i := 415) (by decide +kernel)) (by decide +kernel)
theorem kw_416 : (Cond.code my_S_checkElement prog_1_method_25_code 1 none) ∈ tw_ := tw_of (List.mem_of_getElem? (i := 416) (by decide +kernel)) (by decide +kernel)
theorem kn_417 : (Cond.stringRef "FamilyShelf" 155 "no such element") ∈ lw_tbl := List.mem_append_right _ (List.mem_of_getElem? (i := 417) (by decide +kernel))
theorem kw_418 : (Cond.methodLink "FamilyShelf" 98 my_A_changeInto) ∈ tw_ := tw_of (List.mem_of_getElem? (i := 418) (by decide +kernel)) (by decide +kernel)
theorem kw_419 : (Cond.instanceMethod my_A_changeInto) ∈ tw_ := tw_of (List.mem_of_getElem? (i := 419) (by decide +kernel)) (by decide +kernel)
theorem kw_420 : (Cond.selects "FamilyShelf$Algebra" my_A_changeInto my_A_changeInto) ∈ tw_ := tw_of (List.mem_of_getElem? (i := 420) (by decide +kernel)) (by decide +kernel)
theorem kw_421 : (Cond.code my_A_changeInto prog_2_method_16_code 6 none) ∈ tw_ := tw_of (List.mem_of_getElem? (i := 421) (by decide +kernel)) (by decide +kernel)
theorem kw_422 : (Cond.methodLink "FamilyShelf$Algebra" 110 my_F_lowered) ∈ tw_ := tw_of (List.mem_of_getElem? (i := 422) (by decide +kernel)) (by decide +kernel)
theorem kw_423 : (Cond.methodLink "FamilyShelf$Algebra" 114 my_F_lacking) ∈ tw_ := tw_of (List.mem_of_getElem? (i := 423) (by decide +kernel)) (by decide +kernel)
theorem kw_424 : (Cond.methodLink "FamilyShelf$Algebra" 117 my_F_raised) ∈ tw_ := tw_of (List.mem_of_getElem? (i := 424) (by decide +kernel)) (by decide +kernel)
theorem kw_425 : (Cond.methodLink "FamilyShelfLaw" 110 my_L_extreme) ∈ tw_ := tw_of (List.mem_of_getElem? (i := 425) (by decide +kernel)) (by decide +kernel)
theorem kw_426 : (Cond.static my_L_extreme) ∈ tw_ := tw_of (List.mem_of_getElem? (i := 426) (by decide +kernel)) (by decide +kernel)
theorem kw_427 : (Cond.codeWith my_L_extreme method_8_code 6 (some .int) [(0, 12, 15, 13)]) ∈ tw_ := tw_of (List.mem_of_getElem? (i := 427) (by decide +kernel)) (by decide +kernel)
theorem kw_428 : (Cond.methodLink "FamilyShelfLaw" 33 my_S_extreme) ∈ tw_ := tw_of (List.mem_of_getElem? (i := 428) (by decide +kernel)) (by decide +kernel)
theorem kw_429 : (Cond.instanceMethod my_S_extreme) ∈ tw_ := tw_of (List.mem_of_getElem? (i := 429) (by decide +kernel)) (by decide +kernel)
theorem kw_430 : (Cond.selects "FamilyShelf" my_S_extreme my_S_extreme) ∈ tw_ := tw_of (List.mem_of_getElem? (i := 430) (by decide +kernel)) (by decide +kernel)
theorem kw_431 : (Cond.code my_S_extreme prog_1_method_7_code 4 (some .int)) ∈ tw_ := tw_of (List.mem_of_getElem? (i := 431) (by decide +kernel)) (by decide +kernel)
theorem kw_432 : (Cond.methodLink "FamilyShelf" 102 my_A_extremeInto) ∈ tw_ := tw_of (List.mem_of_getElem? (i := 432) (by decide +kernel)) (by decide +kernel)
theorem kw_433 : (Cond.instanceMethod my_A_extremeInto) ∈ tw_ := tw_of (List.mem_of_getElem? (i := 433) (by decide +kernel)) (by decide +kernel)
theorem kw_434 : (Cond.selects "FamilyShelf$Algebra" my_A_extremeInto my_A_extremeInto) ∈ tw_ := tw_of (List.mem_of_getElem? (i := 434) (by decide +kernel)) (by decide +kernel)
theorem kw_435 : (Cond.code my_A_extremeInto prog_2_method_17_code 5 none) ∈ tw_ := tw_of (List.mem_of_getElem? (i := 435) (by decide +kernel)) (by decide +kernel)
theorem kw_436 : (Cond.methodLink "FamilyShelf$Algebra" 120 my_A_stepped) ∈ tw_ := tw_of (List.mem_of_getElem? (i := 436) (by decide +kernel)) (by decide +kernel)
theorem kn_437 : (Cond.privateMethod my_A_stepped) ∈ lw_tbl := List.mem_append_right _ (List.mem_of_getElem? (i := 437) (by decide +kernel))
theorem kw_438 : (Cond.instanceMethod my_A_stepped) ∈ tw_ := tw_of (List.mem_of_getElem? (i := 438) (by decide +kernel)) (by decide +kernel)
theorem kw_439 : (Cond.code my_A_stepped prog_2_method_18_code 6 (some .long)) ∈ tw_ := tw_of (List.mem_of_getElem? (i := 439) (by decide +kernel)) (by decide +kernel)
theorem kw_440 : (Cond.methodLink "FamilyShelf$Algebra" 124 my_F_moved) ∈ tw_ := tw_of (List.mem_of_getElem? (i := 440) (by decide +kernel)) (by decide +kernel)
theorem kw_441 : (Cond.methodLink "FamilyShelfLaw" 114 my_L_sized) ∈ tw_ := tw_of (List.mem_of_getElem? (i := 441) (by decide +kernel)) (by decide +kernel)
theorem kw_442 : (Cond.static my_L_sized) ∈ tw_ := tw_of (List.mem_of_getElem? (i := 442) (by decide +kernel)) (by decide +kernel)
theorem kw_443 : (Cond.codeWith my_L_sized method_9_code 6 (some .int) [(0, 12, 15, 13), (0, 12, 19, 15)]) ∈ tw_ := tw_of (List.mem_of_getElem? (i := 443) (by decide +kernel)) (by decide +kernel)
theorem kw_444 : (Cond.methodLink "FamilyShelfLaw" 37 my_S_sized) ∈ tw_ := tw_of (List.mem_of_getElem? (i := 444) (by decide +kernel)) (by decide +kernel)
theorem kw_445 : (Cond.instanceMethod my_S_sized) ∈ tw_ := tw_of (List.mem_of_getElem? (i := 445) (by decide +kernel)) (by decide +kernel)
theorem kw_446 : (Cond.selects "FamilyShelf" my_S_sized my_S_sized) ∈ tw_ := tw_of (List.mem_of_getElem? (i := 446) (by decide +kernel)) (by decide +kernel)
theorem kw_447 : (Cond.code my_S_sized prog_1_method_8_code 4 (some .int)) ∈ tw_ := tw_of (List.mem_of_getElem? (i := 447) (by decide +kernel)) (by decide +kernel)
theorem kw_448 : (Cond.methodLink "FamilyShelf" 106 my_A_sizedInto) ∈ tw_ := tw_of (List.mem_of_getElem? (i := 448) (by decide +kernel)) (by decide +kernel)
theorem kw_449 : (Cond.instanceMethod my_A_sizedInto) ∈ tw_ := tw_of (List.mem_of_getElem? (i := 449) (by decide +kernel)) (by decide +kernel)
theorem kw_450 : (Cond.selects "FamilyShelf$Algebra" my_A_sizedInto my_A_sizedInto) ∈ tw_ := tw_of (List.mem_of_getElem? (i := 450) (by decide +kernel)) (by decide +kernel)
theorem kw_451 : (Cond.code my_A_sizedInto prog_2_method_19_code 7 none) ∈ tw_ := tw_of (List.mem_of_getElem? (i := 451) (by decide +kernel)) (by decide +kernel)
theorem kw_452 : (Cond.methodLink "FamilyShelfLaw" 118 my_L_edge) ∈ tw_ := tw_of (List.mem_of_getElem? (i := 452) (by decide +kernel)) (by decide +kernel)
theorem kw_453 : (Cond.static my_L_edge) ∈ tw_ := tw_of (List.mem_of_getElem? (i := 453) (by decide +kernel)) (by decide +kernel)
theorem kw_454 : (Cond.codeWith my_L_edge method_10_code 5 (some .int) [(0, 7, 10, 13), (0, 7, 14, 15)]) ∈ tw_ := tw_of (List.mem_of_getElem? (i := 454) (by decide +kernel)) (by decide +kernel)
theorem kw_455 : (Cond.methodLink "FamilyShelfLaw" 41 my_S_edge) ∈ tw_ := tw_of (List.mem_of_getElem? (i := 455) (by decide +kernel)) (by decide +kernel)
theorem kw_456 : (Cond.instanceMethod my_S_edge) ∈ tw_ := tw_of (List.mem_of_getElem? (i := 456) (by decide +kernel)) (by decide +kernel)
theorem kw_457 : (Cond.selects "FamilyShelf" my_S_edge my_S_edge) ∈ tw_ := tw_of (List.mem_of_getElem? (i := 457) (by decide +kernel)) (by decide +kernel)
theorem kw_458 : (Cond.code my_S_edge prog_1_method_9_code 4 none) ∈ tw_ := tw_of (List.mem_of_getElem? (i := 458) (by decide +kernel)) (by decide +kernel)
theorem kw_459 : (Cond.methodLink "FamilyShelf" 110 my_S_checkVertex) ∈ tw_ := tw_of (List.mem_of_getElem? (i := 459) (by decide +kernel)) (by decide +kernel)
theorem kw_460 : (Cond.static my_S_checkVertex) ∈ tw_ := tw_of (List.mem_of_getElem? (i := 460) (by decide +kernel)) (by decide +kernel)
theorem kw_461 : (Cond.code my_S_checkVertex prog_1_method_26_code 1 none) ∈ tw_ := tw_of (List.mem_of_getElem? (i := 461) (by decide +kernel)) (by decide +kernel)
theorem kn_462 : (Cond.stringRef "FamilyShelf" 157 "no such vertex") ∈ lw_tbl := List.mem_append_right _ (List.mem_of_getElem? (i := 462) (by decide +kernel))
theorem kw_463 : (Cond.methodLink "FamilyShelf" 113 my_S_checkDifferent) ∈ tw_ := tw_of (List.mem_of_getElem? (i := 463) (by decide +kernel)) (by decide +kernel)
theorem kw_464 : (Cond.static my_S_checkDifferent) ∈ tw_ := tw_of (List.mem_of_getElem? (i := 464) (by decide +kernel)) (by decide +kernel)
theorem kw_465 : (Cond.code my_S_checkDifferent prog_1_method_29_code 2 none) ∈ tw_ := tw_of (List.mem_of_getElem? (i := 465) (by decide +kernel)) (by decide +kernel)
theorem kn_466 : (Cond.stringRef "FamilyShelf" 164 "an edge from a vertex to itself") ∈ lw_tbl := List.mem_append_right _ (List.mem_of_getElem? (i := 466) (by decide +kernel))
theorem kw_467 : (Cond.methodLink "FamilyShelf" 117 my_G_exchange) ∈ tw_ := tw_of (List.mem_of_getElem? (i := 467) (by decide +kernel)) (by decide +kernel)
theorem kw_468 : (Cond.instanceMethod my_G_exchange) ∈ tw_ := tw_of (List.mem_of_getElem? (i := 468) (by decide +kernel)) (by decide +kernel)
theorem kw_469 : (Cond.selects "FamilyShelf$Graph" my_G_exchange my_G_exchange) ∈ tw_ := tw_of (List.mem_of_getElem? (i := 469) (by decide +kernel)) (by decide +kernel)
theorem kw_470 : (Cond.code my_G_exchange prog_5_method_2_code 4 (some .int)) ∈ tw_ := tw_of (List.mem_of_getElem? (i := 470) (by decide +kernel)) (by decide +kernel)
theorem kw_471 : (Cond.methodLink "FamilyShelfLaw" 122 my_L_cut) ∈ tw_ := tw_of (List.mem_of_getElem? (i := 471) (by decide +kernel)) (by decide +kernel)
theorem kw_472 : (Cond.static my_L_cut) ∈ tw_ := tw_of (List.mem_of_getElem? (i := 472) (by decide +kernel)) (by decide +kernel)
theorem kw_473 : (Cond.codeWith my_L_cut method_11_code 4 (some .int) [(0, 16, 19, 13)]) ∈ tw_ := tw_of (List.mem_of_getElem? (i := 473) (by decide +kernel)) (by decide +kernel)
theorem kw_474 : (Cond.methodLink "FamilyShelfLaw" 45 my_S_cut) ∈ tw_ := tw_of (List.mem_of_getElem? (i := 474) (by decide +kernel)) (by decide +kernel)
theorem kw_475 : (Cond.instanceMethod my_S_cut) ∈ tw_ := tw_of (List.mem_of_getElem? (i := 475) (by decide +kernel)) (by decide +kernel)
theorem kw_476 : (Cond.selects "FamilyShelf" my_S_cut my_S_cut) ∈ tw_ := tw_of (List.mem_of_getElem? (i := 476) (by decide +kernel)) (by decide +kernel)
theorem kw_477 : (Cond.code my_S_cut prog_1_method_10_code 2 (some .boolean)) ∈ tw_ := tw_of (List.mem_of_getElem? (i := 477) (by decide +kernel)) (by decide +kernel)
theorem kw_478 : (Cond.methodLink "FamilyShelfLaw" 125 my_L_paths) ∈ tw_ := tw_of (List.mem_of_getElem? (i := 478) (by decide +kernel)) (by decide +kernel)
theorem kw_479 : (Cond.static my_L_paths) ∈ tw_ := tw_of (List.mem_of_getElem? (i := 479) (by decide +kernel)) (by decide +kernel)
theorem kw_480 : (Cond.codeWith my_L_paths method_12_code 6 (some .int) [(0, 12, 15, 13)]) ∈ tw_ := tw_of (List.mem_of_getElem? (i := 480) (by decide +kernel)) (by decide +kernel)
theorem kw_481 : (Cond.methodLink "FamilyShelfLaw" 49 my_S_paths) ∈ tw_ := tw_of (List.mem_of_getElem? (i := 481) (by decide +kernel)) (by decide +kernel)
theorem kw_482 : (Cond.instanceMethod my_S_paths) ∈ tw_ := tw_of (List.mem_of_getElem? (i := 482) (by decide +kernel)) (by decide +kernel)
theorem kw_483 : (Cond.selects "FamilyShelf" my_S_paths my_S_paths) ∈ tw_ := tw_of (List.mem_of_getElem? (i := 483) (by decide +kernel)) (by decide +kernel)
theorem kw_484 : (Cond.code my_S_paths prog_1_method_11_code 4 (some .int)) ∈ tw_ := tw_of (List.mem_of_getElem? (i := 484) (by decide +kernel)) (by decide +kernel)
theorem kw_485 : (Cond.methodLink "FamilyShelf" 121 my_G_pathsInto) ∈ tw_ := tw_of (List.mem_of_getElem? (i := 485) (by decide +kernel)) (by decide +kernel)
theorem kw_486 : (Cond.instanceMethod my_G_pathsInto) ∈ tw_ := tw_of (List.mem_of_getElem? (i := 486) (by decide +kernel)) (by decide +kernel)
theorem kw_487 : (Cond.selects "FamilyShelf$Graph" my_G_pathsInto my_G_pathsInto) ∈ tw_ := tw_of (List.mem_of_getElem? (i := 487) (by decide +kernel)) (by decide +kernel)
theorem kw_488 : (Cond.code my_G_pathsInto prog_5_method_3_code 4 none) ∈ tw_ := tw_of (List.mem_of_getElem? (i := 488) (by decide +kernel)) (by decide +kernel)
theorem kw_489 : (Cond.methodLink "FamilyShelf$Graph" 15 my_F_fill) ∈ tw_ := tw_of (List.mem_of_getElem? (i := 489) (by decide +kernel)) (by decide +kernel)
theorem kw_490 : (Cond.methodLink "FamilyShelf$Graph" 21 my_G_walk) ∈ tw_ := tw_of (List.mem_of_getElem? (i := 490) (by decide +kernel)) (by decide +kernel)
theorem kw_491 : (Cond.static my_G_walk) ∈ tw_ := tw_of (List.mem_of_getElem? (i := 491) (by decide +kernel)) (by decide +kernel)
theorem kw_492 : (Cond.code my_G_walk prog_5_method_4_code 7 none) ∈ tw_ := tw_of (List.mem_of_getElem? (i := 492) (by decide +kernel)) (by decide +kernel)
theorem kw_493 : (Cond.methodLink "FamilyShelf$Graph" 25 my_F_include) ∈ tw_ := tw_of (List.mem_of_getElem? (i := 493) (by decide +kernel)) (by decide +kernel)
theorem kn_494 : (Cond.methodLinkNest "FamilyShelf$Graph" 29 my_S_bitOf "FamilyShelf") ∈ lw_tbl := List.mem_append_right _ (List.mem_of_getElem? (i := 494) (by decide +kernel))
theorem kw_495 : (Cond.methodLink "FamilyShelfLaw" 128 my_L_matchings) ∈ tw_ := tw_of (List.mem_of_getElem? (i := 495) (by decide +kernel)) (by decide +kernel)
theorem kw_496 : (Cond.static my_L_matchings) ∈ tw_ := tw_of (List.mem_of_getElem? (i := 496) (by decide +kernel)) (by decide +kernel)
theorem kw_497 : (Cond.codeWith my_L_matchings method_13_code 4 (some .int) [(0, 9, 12, 13)]) ∈ tw_ := tw_of (List.mem_of_getElem? (i := 497) (by decide +kernel)) (by decide +kernel)
theorem kw_498 : (Cond.methodLink "FamilyShelfLaw" 52 my_S_matchings) ∈ tw_ := tw_of (List.mem_of_getElem? (i := 498) (by decide +kernel)) (by decide +kernel)
theorem kw_499 : (Cond.instanceMethod my_S_matchings) ∈ tw_ := tw_of (List.mem_of_getElem? (i := 499) (by decide +kernel)) (by decide +kernel)
theorem kw_500 : (Cond.selects "FamilyShelf" my_S_matchings my_S_matchings) ∈ tw_ := tw_of (List.mem_of_getElem? (i := 500) (by decide +kernel)) (by decide +kernel)
theorem kw_501 : (Cond.code my_S_matchings prog_1_method_12_code 2 (some .int)) ∈ tw_ := tw_of (List.mem_of_getElem? (i := 501) (by decide +kernel)) (by decide +kernel)
theorem kw_502 : (Cond.methodLink "FamilyShelf" 125 my_G_matchingsInto) ∈ tw_ := tw_of (List.mem_of_getElem? (i := 502) (by decide +kernel)) (by decide +kernel)
theorem kw_503 : (Cond.instanceMethod my_G_matchingsInto) ∈ tw_ := tw_of (List.mem_of_getElem? (i := 503) (by decide +kernel)) (by decide +kernel)
theorem kw_504 : (Cond.selects "FamilyShelf$Graph" my_G_matchingsInto my_G_matchingsInto) ∈ tw_ := tw_of (List.mem_of_getElem? (i := 504) (by decide +kernel)) (by decide +kernel)
theorem kw_505 : (Cond.code my_G_matchingsInto prog_5_method_5_code 2 none) ∈ tw_ := tw_of (List.mem_of_getElem? (i := 505) (by decide +kernel)) (by decide +kernel)
theorem kw_506 : (Cond.methodLink "FamilyShelf$Graph" 33 my_G_match) ∈ tw_ := tw_of (List.mem_of_getElem? (i := 506) (by decide +kernel)) (by decide +kernel)
theorem kw_507 : (Cond.static my_G_match) ∈ tw_ := tw_of (List.mem_of_getElem? (i := 507) (by decide +kernel)) (by decide +kernel)
theorem kw_508 : (Cond.code my_G_match prog_5_method_6_code 5 none) ∈ tw_ := tw_of (List.mem_of_getElem? (i := 508) (by decide +kernel)) (by decide +kernel)
theorem kw_509 : (Cond.methodLink "FamilyShelfLaw" 131 my_L_weight) ∈ tw_ := tw_of (List.mem_of_getElem? (i := 509) (by decide +kernel)) (by decide +kernel)
theorem kw_510 : (Cond.static my_L_weight) ∈ tw_ := tw_of (List.mem_of_getElem? (i := 510) (by decide +kernel)) (by decide +kernel)
theorem kw_511 : (Cond.codeWith my_L_weight method_14_code 5 (some .int) [(0, 10, 13, 13), (0, 10, 17, 15)]) ∈ tw_ := tw_of (List.mem_of_getElem? (i := 511) (by decide +kernel)) (by decide +kernel)
theorem kw_512 : (Cond.methodLink "FamilyShelfLaw" 55 my_S_weight) ∈ tw_ := tw_of (List.mem_of_getElem? (i := 512) (by decide +kernel)) (by decide +kernel)
theorem kw_513 : (Cond.instanceMethod my_S_weight) ∈ tw_ := tw_of (List.mem_of_getElem? (i := 513) (by decide +kernel)) (by decide +kernel)
theorem kw_514 : (Cond.selects "FamilyShelf" my_S_weight my_S_weight) ∈ tw_ := tw_of (List.mem_of_getElem? (i := 514) (by decide +kernel)) (by decide +kernel)
theorem kw_515 : (Cond.code my_S_weight prog_1_method_13_code 3 (some .int)) ∈ tw_ := tw_of (List.mem_of_getElem? (i := 515) (by decide +kernel)) (by decide +kernel)
theorem kw_516 : (Cond.methodLink "FamilyShelf" 128 my_W_exchange) ∈ tw_ := tw_of (List.mem_of_getElem? (i := 516) (by decide +kernel)) (by decide +kernel)
theorem kw_517 : (Cond.instanceMethod my_W_exchange) ∈ tw_ := tw_of (List.mem_of_getElem? (i := 517) (by decide +kernel)) (by decide +kernel)
theorem kw_518 : (Cond.selects "FamilyShelf$Weights" my_W_exchange my_W_exchange) ∈ tw_ := tw_of (List.mem_of_getElem? (i := 518) (by decide +kernel)) (by decide +kernel)
theorem kw_519 : (Cond.code my_W_exchange prog_6_method_2_code 4 (some .int)) ∈ tw_ := tw_of (List.mem_of_getElem? (i := 519) (by decide +kernel)) (by decide +kernel)
theorem kw_520 : (Cond.methodLink "FamilyShelfLaw" 134 my_L_count) ∈ tw_ := tw_of (List.mem_of_getElem? (i := 520) (by decide +kernel)) (by decide +kernel)
theorem kw_521 : (Cond.static my_L_count) ∈ tw_ := tw_of (List.mem_of_getElem? (i := 521) (by decide +kernel)) (by decide +kernel)
theorem kw_522 : (Cond.codeWith my_L_count method_15_code 4 (some .int) [(0, 9, 12, 13)]) ∈ tw_ := tw_of (List.mem_of_getElem? (i := 522) (by decide +kernel)) (by decide +kernel)
theorem kw_523 : (Cond.methodLink "FamilyShelfLaw" 59 my_S_count) ∈ tw_ := tw_of (List.mem_of_getElem? (i := 523) (by decide +kernel)) (by decide +kernel)
theorem kw_524 : (Cond.instanceMethod my_S_count) ∈ tw_ := tw_of (List.mem_of_getElem? (i := 524) (by decide +kernel)) (by decide +kernel)
theorem kw_525 : (Cond.selects "FamilyShelf" my_S_count my_S_count) ∈ tw_ := tw_of (List.mem_of_getElem? (i := 525) (by decide +kernel)) (by decide +kernel)
theorem kw_526 : (Cond.code my_S_count prog_1_method_14_code 2 (some .int)) ∈ tw_ := tw_of (List.mem_of_getElem? (i := 526) (by decide +kernel)) (by decide +kernel)
theorem kw_527 : (Cond.methodLink "FamilyShelfLaw" 137 my_L_has) ∈ tw_ := tw_of (List.mem_of_getElem? (i := 527) (by decide +kernel)) (by decide +kernel)
theorem kw_528 : (Cond.static my_L_has) ∈ tw_ := tw_of (List.mem_of_getElem? (i := 528) (by decide +kernel)) (by decide +kernel)
theorem kw_529 : (Cond.codeWith my_L_has method_16_code 5 (some .int) [(0, 17, 20, 13), (0, 17, 24, 15)]) ∈ tw_ := tw_of (List.mem_of_getElem? (i := 529) (by decide +kernel)) (by decide +kernel)
theorem kw_530 : (Cond.methodLink "FamilyShelfLaw" 62 my_S_has) ∈ tw_ := tw_of (List.mem_of_getElem? (i := 530) (by decide +kernel)) (by decide +kernel)
theorem kw_531 : (Cond.instanceMethod my_S_has) ∈ tw_ := tw_of (List.mem_of_getElem? (i := 531) (by decide +kernel)) (by decide +kernel)
theorem kw_532 : (Cond.selects "FamilyShelf" my_S_has my_S_has) ∈ tw_ := tw_of (List.mem_of_getElem? (i := 532) (by decide +kernel)) (by decide +kernel)
theorem kw_533 : (Cond.code my_S_has prog_1_method_15_code 3 (some .boolean)) ∈ tw_ := tw_of (List.mem_of_getElem? (i := 533) (by decide +kernel)) (by decide +kernel)
theorem kw_534 : (Cond.methodLink "FamilyShelfLaw" 140 my_L_nth) ∈ tw_ := tw_of (List.mem_of_getElem? (i := 534) (by decide +kernel)) (by decide +kernel)
theorem kw_535 : (Cond.static my_L_nth) ∈ tw_ := tw_of (List.mem_of_getElem? (i := 535) (by decide +kernel)) (by decide +kernel)
theorem kw_536 : (Cond.codeWith my_L_nth method_17_code 5 (some .int) [(0, 10, 13, 13)]) ∈ tw_ := tw_of (List.mem_of_getElem? (i := 536) (by decide +kernel)) (by decide +kernel)
theorem kw_537 : (Cond.methodLink "FamilyShelfLaw" 65 my_S_nth) ∈ tw_ := tw_of (List.mem_of_getElem? (i := 537) (by decide +kernel)) (by decide +kernel)
theorem kw_538 : (Cond.instanceMethod my_S_nth) ∈ tw_ := tw_of (List.mem_of_getElem? (i := 538) (by decide +kernel)) (by decide +kernel)
theorem kw_539 : (Cond.selects "FamilyShelf" my_S_nth my_S_nth) ∈ tw_ := tw_of (List.mem_of_getElem? (i := 539) (by decide +kernel)) (by decide +kernel)
theorem kw_540 : (Cond.code my_S_nth prog_1_method_16_code 4 (some .int)) ∈ tw_ := tw_of (List.mem_of_getElem? (i := 540) (by decide +kernel)) (by decide +kernel)
theorem kw_541 : (Cond.methodLink "FamilyShelf" 129 my_F_placeAt) ∈ tw_ := tw_of (List.mem_of_getElem? (i := 541) (by decide +kernel)) (by decide +kernel)
theorem kw_542 : (Cond.instanceMethod my_F_placeAt) ∈ tw_ := tw_of (List.mem_of_getElem? (i := 542) (by decide +kernel)) (by decide +kernel)
theorem kw_543 : (Cond.selects "FamilyShelf$Family" my_F_placeAt my_F_placeAt) ∈ tw_ := tw_of (List.mem_of_getElem? (i := 543) (by decide +kernel)) (by decide +kernel)
theorem kw_544 : (Cond.code my_F_placeAt prog_4_method_10_code 5 (some .int)) ∈ tw_ := tw_of (List.mem_of_getElem? (i := 544) (by decide +kernel)) (by decide +kernel)
theorem kw_545 : (Cond.methodLink "FamilyShelf$Family" 39 my_F_lowPlaceAt) ∈ tw_ := tw_of (List.mem_of_getElem? (i := 545) (by decide +kernel)) (by decide +kernel)
theorem kw_546 : (Cond.static my_F_lowPlaceAt) ∈ tw_ := tw_of (List.mem_of_getElem? (i := 546) (by decide +kernel)) (by decide +kernel)
theorem kw_547 : (Cond.code my_F_lowPlaceAt prog_4_method_11_code 5 (some .int)) ∈ tw_ := tw_of (List.mem_of_getElem? (i := 547) (by decide +kernel)) (by decide +kernel)
theorem kw_548 : (Cond.methodLink "FamilyShelfLaw" 143 my_L_rank) ∈ tw_ := tw_of (List.mem_of_getElem? (i := 548) (by decide +kernel)) (by decide +kernel)
theorem kw_549 : (Cond.static my_L_rank) ∈ tw_ := tw_of (List.mem_of_getElem? (i := 549) (by decide +kernel)) (by decide +kernel)
theorem kw_550 : (Cond.codeWith my_L_rank method_18_code 5 (some .int) [(0, 10, 13, 13), (0, 10, 17, 15)]) ∈ tw_ := tw_of (List.mem_of_getElem? (i := 550) (by decide +kernel)) (by decide +kernel)
theorem kw_551 : (Cond.methodLink "FamilyShelfLaw" 68 my_S_rank) ∈ tw_ := tw_of (List.mem_of_getElem? (i := 551) (by decide +kernel)) (by decide +kernel)
theorem kw_552 : (Cond.instanceMethod my_S_rank) ∈ tw_ := tw_of (List.mem_of_getElem? (i := 552) (by decide +kernel)) (by decide +kernel)
theorem kw_553 : (Cond.selects "FamilyShelf" my_S_rank my_S_rank) ∈ tw_ := tw_of (List.mem_of_getElem? (i := 553) (by decide +kernel)) (by decide +kernel)
theorem kw_554 : (Cond.code my_S_rank prog_1_method_17_code 3 (some .int)) ∈ tw_ := tw_of (List.mem_of_getElem? (i := 554) (by decide +kernel)) (by decide +kernel)
theorem kw_555 : (Cond.methodLink "FamilyShelf" 132 my_F_totalBefore) ∈ tw_ := tw_of (List.mem_of_getElem? (i := 555) (by decide +kernel)) (by decide +kernel)
theorem kw_556 : (Cond.instanceMethod my_F_totalBefore) ∈ tw_ := tw_of (List.mem_of_getElem? (i := 556) (by decide +kernel)) (by decide +kernel)
theorem kw_557 : (Cond.selects "FamilyShelf$Family" my_F_totalBefore my_F_totalBefore) ∈ tw_ := tw_of (List.mem_of_getElem? (i := 557) (by decide +kernel)) (by decide +kernel)
theorem kw_558 : (Cond.code my_F_totalBefore prog_4_method_8_code 5 (some .int)) ∈ tw_ := tw_of (List.mem_of_getElem? (i := 558) (by decide +kernel)) (by decide +kernel)
theorem kw_559 : (Cond.methodLink "FamilyShelfLaw" 146 my_L_heaviest) ∈ tw_ := tw_of (List.mem_of_getElem? (i := 559) (by decide +kernel)) (by decide +kernel)
theorem kw_560 : (Cond.static my_L_heaviest) ∈ tw_ := tw_of (List.mem_of_getElem? (i := 560) (by decide +kernel)) (by decide +kernel)
theorem kw_561 : (Cond.codeWith my_L_heaviest method_19_code 4 (some .int) [(0, 9, 12, 13), (0, 9, 15, 74)]) ∈ tw_ := tw_of (List.mem_of_getElem? (i := 561) (by decide +kernel)) (by decide +kernel)
theorem kw_562 : (Cond.classLink "FamilyShelfLaw" 74 "java/util/NoSuchElementException") ∈ tw_ := tw_of (List.mem_of_getElem? (i := 562) (by decide +kernel)) (by decide +kernel)
theorem kw_563 : (Cond.methodLink "FamilyShelfLaw" 71 my_S_heaviest) ∈ tw_ := tw_of (List.mem_of_getElem? (i := 563) (by decide +kernel)) (by decide +kernel)
theorem kw_564 : (Cond.instanceMethod my_S_heaviest) ∈ tw_ := tw_of (List.mem_of_getElem? (i := 564) (by decide +kernel)) (by decide +kernel)
theorem kw_565 : (Cond.selects "FamilyShelf" my_S_heaviest my_S_heaviest) ∈ tw_ := tw_of (List.mem_of_getElem? (i := 565) (by decide +kernel)) (by decide +kernel)
theorem kw_566 : (Cond.code my_S_heaviest prog_1_method_18_code 3 (some .int)) ∈ tw_ := tw_of (List.mem_of_getElem? (i := 566) (by decide +kernel)) (by decide +kernel)
theorem kw_567 : (Cond.methodLink "FamilyShelf" 135 my_W_heaviestPlace) ∈ tw_ := tw_of (List.mem_of_getElem? (i := 567) (by decide +kernel)) (by decide +kernel)
theorem kw_568 : (Cond.instanceMethod my_W_heaviestPlace) ∈ tw_ := tw_of (List.mem_of_getElem? (i := 568) (by decide +kernel)) (by decide +kernel)
theorem kw_569 : (Cond.selects "FamilyShelf$Weights" my_W_heaviestPlace my_W_heaviestPlace) ∈ tw_ := tw_of (List.mem_of_getElem? (i := 569) (by decide +kernel)) (by decide +kernel)
theorem kw_570 : (Cond.code my_W_heaviestPlace prog_6_method_3_code 6 (some .int)) ∈ tw_ := tw_of (List.mem_of_getElem? (i := 570) (by decide +kernel)) (by decide +kernel)
theorem kw_571 : (Cond.methodLink "FamilyShelf$Weights" 21 my_W_sumUp) ∈ tw_ := tw_of (List.mem_of_getElem? (i := 571) (by decide +kernel)) (by decide +kernel)
theorem kn_572 : (Cond.privateMethod my_W_sumUp) ∈ lw_tbl := List.mem_append_right _ (List.mem_of_getElem? (i := 572) (by decide +kernel))
theorem kw_573 : (Cond.instanceMethod my_W_sumUp) ∈ tw_ := tw_of (List.mem_of_getElem? (i := 573) (by decide +kernel)) (by decide +kernel)
theorem kw_574 : (Cond.code my_W_sumUp prog_6_method_4_code 7 none) ∈ tw_ := tw_of (List.mem_of_getElem? (i := 574) (by decide +kernel)) (by decide +kernel)
theorem kn_575 : (Cond.methodLinkNest "FamilyShelf$Weights" 31 my_S_bitOf "FamilyShelf") ∈ lw_tbl := List.mem_append_right _ (List.mem_of_getElem? (i := 575) (by decide +kernel))
theorem kw_576 : (Cond.methodLink "FamilyShelf$Weights" 25 my_F_holds) ∈ tw_ := tw_of (List.mem_of_getElem? (i := 576) (by decide +kernel)) (by decide +kernel)
theorem kw_577 : (Cond.methodLink "FamilyShelf" 139 my_S_checkFound) ∈ tw_ := tw_of (List.mem_of_getElem? (i := 577) (by decide +kernel)) (by decide +kernel)
theorem kw_578 : (Cond.static my_S_checkFound) ∈ tw_ := tw_of (List.mem_of_getElem? (i := 578) (by decide +kernel)) (by decide +kernel)
theorem kw_579 : (Cond.code my_S_checkFound prog_1_method_31_code 1 none) ∈ tw_ := tw_of (List.mem_of_getElem? (i := 579) (by decide +kernel)) (by decide +kernel)
theorem kw_580 : (Cond.classLink "FamilyShelf" 171 "java/util/NoSuchElementException") ∈ tw_ := tw_of (List.mem_of_getElem? (i := 580) (by decide +kernel)) (by decide +kernel)
theorem kw_581 : (Cond.instantiable "java/util/NoSuchElementException" 6) ∈ tw_ := tw_of (List.mem_of_getElem? (i := 581) (by decide +kernel)) (by decide +kernel)
theorem kn_582 : (Cond.castable "java/util/NoSuchElementException" "java/util/NoSuchElementException") ∈ lw_tbl := List.mem_append_right _ (List.mem_of_getElem? (i := 582) (by decide +kernel))
theorem kw_583 : (Cond.selects "java/util/NoSuchElementException" ⟨"java/lang/Throwable", "fillInStackTrace", "(I)Ljava/lang/Throwable;"⟩ ⟨"java/lang/Throwable", "fillInStackTrace", "(I)Ljava/lang/Throwable;"⟩) ∈ tw_ := tw_of (List.mem_of_getElem? (i := 583) (by decide +kernel)) (by decide +kernel)
theorem kw_584 : (Cond.lays "java/util/NoSuchElementException" "java/lang/Throwable" "cause" "Ljava/lang/Throwable;") ∈ tw_ := tw_of (List.mem_of_getElem? (i := 584) (by decide +kernel)) (by decide +kernel)
theorem kw_585 : (Cond.lays "java/util/NoSuchElementException" "java/lang/Throwable" "stackTrace" "[Ljava/lang/StackTraceElement;") ∈ tw_ := tw_of (List.mem_of_getElem? (i := 585) (by decide +kernel)) (by decide +kernel)
theorem kw_586 : (Cond.lays "java/util/NoSuchElementException" "java/lang/Throwable" "suppressedExceptions" "Ljava/util/List;") ∈ tw_ := tw_of (List.mem_of_getElem? (i := 586) (by decide +kernel)) (by decide +kernel)
theorem kw_587 : (Cond.lays "java/util/NoSuchElementException" "java/lang/Throwable" "detailMessage" "Ljava/lang/String;") ∈ tw_ := tw_of (List.mem_of_getElem? (i := 587) (by decide +kernel)) (by decide +kernel)
theorem kw_588 : (Cond.lays "java/util/NoSuchElementException" "java/lang/Throwable" "backtrace" "Ljava/lang/Object;") ∈ tw_ := tw_of (List.mem_of_getElem? (i := 588) (by decide +kernel)) (by decide +kernel)
theorem kn_589 : (Cond.stringRef "FamilyShelf" 173 "a family without sets") ∈ lw_tbl := List.mem_append_right _ (List.mem_of_getElem? (i := 589) (by decide +kernel))
theorem kw_590 : (Cond.methodLink "FamilyShelf" 175 my_Jn_init) ∈ tw_ := tw_of (List.mem_of_getElem? (i := 590) (by decide +kernel)) (by decide +kernel)
theorem kw_591 : (Cond.instanceMethod my_Jn_init) ∈ tw_ := tw_of (List.mem_of_getElem? (i := 591) (by decide +kernel)) (by decide +kernel)
theorem kw_592 : (Cond.code my_Jn_init prog_20_method_4_code 2 none) ∈ tw_ := tw_of (List.mem_of_getElem? (i := 592) (by decide +kernel)) (by decide +kernel)
theorem kw_593 : (Cond.methodLink "java/util/NoSuchElementException" 13 my_Jr_init) ∈ tw_ := tw_of (List.mem_of_getElem? (i := 593) (by decide +kernel)) (by decide +kernel)
theorem kw_594 : (Cond.lays "java/util/NoSuchElementException" "java/lang/Throwable" "depth" "I") ∈ tw_ := tw_of (List.mem_of_getElem? (i := 594) (by decide +kernel)) (by decide +kernel)
theorem kw_595 : (Cond.superclass "java/util/NoSuchElementException" "java/lang/RuntimeException") ∈ tw_ := tw_of (List.mem_of_getElem? (i := 595) (by decide +kernel)) (by decide +kernel)
theorem kw_596 : (Cond.methodLink "FamilyShelfLaw" 149 my_L_size) ∈ tw_ := tw_of (List.mem_of_getElem? (i := 596) (by decide +kernel)) (by decide +kernel)
theorem kw_597 : (Cond.static my_L_size) ∈ tw_ := tw_of (List.mem_of_getElem? (i := 597) (by decide +kernel)) (by decide +kernel)
theorem kw_598 : (Cond.codeWith my_L_size method_20_code 4 (some .int) [(0, 9, 12, 13)]) ∈ tw_ := tw_of (List.mem_of_getElem? (i := 598) (by decide +kernel)) (by decide +kernel)
theorem kw_599 : (Cond.methodLink "FamilyShelfLaw" 76 my_S_size) ∈ tw_ := tw_of (List.mem_of_getElem? (i := 599) (by decide +kernel)) (by decide +kernel)
theorem kw_600 : (Cond.instanceMethod my_S_size) ∈ tw_ := tw_of (List.mem_of_getElem? (i := 600) (by decide +kernel)) (by decide +kernel)
theorem kw_601 : (Cond.selects "FamilyShelf" my_S_size my_S_size) ∈ tw_ := tw_of (List.mem_of_getElem? (i := 601) (by decide +kernel)) (by decide +kernel)
theorem kw_602 : (Cond.code my_S_size prog_1_method_19_code 2 (some .int)) ∈ tw_ := tw_of (List.mem_of_getElem? (i := 602) (by decide +kernel)) (by decide +kernel)
theorem kw_603 : (Cond.methodLink "FamilyShelf" 142 my_D_nodesFor) ∈ tw_ := tw_of (List.mem_of_getElem? (i := 603) (by decide +kernel)) (by decide +kernel)
theorem kw_604 : (Cond.instanceMethod my_D_nodesFor) ∈ tw_ := tw_of (List.mem_of_getElem? (i := 604) (by decide +kernel)) (by decide +kernel)
theorem kw_605 : (Cond.selects "FamilyShelf$Diagram" my_D_nodesFor my_D_nodesFor) ∈ tw_ := tw_of (List.mem_of_getElem? (i := 605) (by decide +kernel)) (by decide +kernel)
theorem kw_606 : (Cond.code my_D_nodesFor prog_3_method_2_code 4 (some .int)) ∈ tw_ := tw_of (List.mem_of_getElem? (i := 606) (by decide +kernel)) (by decide +kernel)
theorem kw_607 : (Cond.methodLink "FamilyShelf$Diagram" 24 my_F_holds) ∈ tw_ := tw_of (List.mem_of_getElem? (i := 607) (by decide +kernel)) (by decide +kernel)
theorem kw_608 : (Cond.methodLink "FamilyShelf$Diagram" 34 my_Ja_fill_IIV) ∈ tw_ := tw_of (List.mem_of_getElem? (i := 608) (by decide +kernel)) (by decide +kernel)
theorem kw_609 : (Cond.static my_Ja_fill_IIV) ∈ tw_ := tw_of (List.mem_of_getElem? (i := 609) (by decide +kernel)) (by decide +kernel)
theorem kw_610 : (Cond.code my_Ja_fill_IIV prog_19_method_103_code 4 none) ∈ tw_ := tw_of (List.mem_of_getElem? (i := 610) (by decide +kernel)) (by decide +kernel)
theorem kw_611 : (Cond.methodLink "FamilyShelf$Diagram" 40 my_D_kindOf) ∈ tw_ := tw_of (List.mem_of_getElem? (i := 611) (by decide +kernel)) (by decide +kernel)
theorem kn_612 : (Cond.privateMethod my_D_kindOf) ∈ lw_tbl := List.mem_append_right _ (List.mem_of_getElem? (i := 612) (by decide +kernel))
theorem kw_613 : (Cond.instanceMethod my_D_kindOf) ∈ tw_ := tw_of (List.mem_of_getElem? (i := 613) (by decide +kernel)) (by decide +kernel)
theorem kw_614 : (Cond.code my_D_kindOf prog_3_method_3_code 5 (some .int)) ∈ tw_ := tw_of (List.mem_of_getElem? (i := 614) (by decide +kernel)) (by decide +kernel)
theorem kw_615 : (Cond.methodLink "FamilyShelf$Diagram" 44 my_D_newNode) ∈ tw_ := tw_of (List.mem_of_getElem? (i := 615) (by decide +kernel)) (by decide +kernel)
theorem kn_616 : (Cond.privateMethod my_D_newNode) ∈ lw_tbl := List.mem_append_right _ (List.mem_of_getElem? (i := 616) (by decide +kernel))
theorem kw_617 : (Cond.instanceMethod my_D_newNode) ∈ tw_ := tw_of (List.mem_of_getElem? (i := 617) (by decide +kernel)) (by decide +kernel)
theorem kw_618 : (Cond.code my_D_newNode prog_3_method_4_code 4 (some .int)) ∈ tw_ := tw_of (List.mem_of_getElem? (i := 618) (by decide +kernel)) (by decide +kernel)
theorem kw_619 : (Cond.methodLink "FamilyShelfLaw" 152 my_L_parts) ∈ tw_ := tw_of (List.mem_of_getElem? (i := 619) (by decide +kernel)) (by decide +kernel)
theorem kw_620 : (Cond.static my_L_parts) ∈ tw_ := tw_of (List.mem_of_getElem? (i := 620) (by decide +kernel)) (by decide +kernel)
theorem kw_621 : (Cond.codeWith my_L_parts method_21_code 4 (some .int) [(0, 9, 12, 13)]) ∈ tw_ := tw_of (List.mem_of_getElem? (i := 621) (by decide +kernel)) (by decide +kernel)
theorem kw_622 : (Cond.methodLink "FamilyShelfLaw" 79 my_S_parts) ∈ tw_ := tw_of (List.mem_of_getElem? (i := 622) (by decide +kernel)) (by decide +kernel)
theorem kw_623 : (Cond.instanceMethod my_S_parts) ∈ tw_ := tw_of (List.mem_of_getElem? (i := 623) (by decide +kernel)) (by decide +kernel)
theorem kw_624 : (Cond.selects "FamilyShelf" my_S_parts my_S_parts) ∈ tw_ := tw_of (List.mem_of_getElem? (i := 624) (by decide +kernel)) (by decide +kernel)
theorem kw_625 : (Cond.code my_S_parts prog_1_method_20_code 3 (some .int)) ∈ tw_ := tw_of (List.mem_of_getElem? (i := 625) (by decide +kernel)) (by decide +kernel)
theorem kw_626 : (Cond.methodLink "FamilyShelf" 145 my_F_isParted) ∈ tw_ := tw_of (List.mem_of_getElem? (i := 626) (by decide +kernel)) (by decide +kernel)
theorem kw_627 : (Cond.instanceMethod my_F_isParted) ∈ tw_ := tw_of (List.mem_of_getElem? (i := 627) (by decide +kernel)) (by decide +kernel)
theorem kw_628 : (Cond.selects "FamilyShelf$Family" my_F_isParted my_F_isParted) ∈ tw_ := tw_of (List.mem_of_getElem? (i := 628) (by decide +kernel)) (by decide +kernel)
theorem kw_629 : (Cond.code my_F_isParted prog_4_method_12_code 7 (some .boolean)) ∈ tw_ := tw_of (List.mem_of_getElem? (i := 629) (by decide +kernel)) (by decide +kernel)
theorem kw_630 : (Cond.classLink "FamilyShelfLaw" 83 "FamilyShelfModel") ∈ tw_ := tw_of (List.mem_of_getElem? (i := 630) (by decide +kernel)) (by decide +kernel)
theorem kw_631 : (Cond.instantiable "FamilyShelfModel" 9) ∈ tw_ := tw_of (List.mem_of_getElem? (i := 631) (by decide +kernel)) (by decide +kernel)
theorem kw_632 : (Cond.methodLink "FamilyShelfLaw" 85 my_M_init) ∈ tw_ := tw_of (List.mem_of_getElem? (i := 632) (by decide +kernel)) (by decide +kernel)
theorem kw_633 : (Cond.instanceMethod my_M_init) ∈ tw_ := tw_of (List.mem_of_getElem? (i := 633) (by decide +kernel)) (by decide +kernel)
theorem kw_634 : (Cond.code my_M_init prog_8_method_1_code 1 none) ∈ tw_ := tw_of (List.mem_of_getElem? (i := 634) (by decide +kernel)) (by decide +kernel)
theorem kw_635 : (Cond.methodLink "FamilyShelfModel" 1 my_Jo_init) ∈ tw_ := tw_of (List.mem_of_getElem? (i := 635) (by decide +kernel)) (by decide +kernel)
theorem kw_636 : (Cond.fieldLink "FamilyShelfModel" 35 "FamilyShelfModel" "thrown" "I") ∈ tw_ := tw_of (List.mem_of_getElem? (i := 636) (by decide +kernel)) (by decide +kernel)
theorem kw_637 : (Cond.fieldLink "FamilyShelfModel" 7 "FamilyShelfModel" "shelves" "[J") ∈ tw_ := tw_of (List.mem_of_getElem? (i := 637) (by decide +kernel)) (by decide +kernel)
theorem kw_638 : (Cond.fieldLink "FamilyShelfModel" 13 "FamilyShelfModel" "made" "[J") ∈ tw_ := tw_of (List.mem_of_getElem? (i := 638) (by decide +kernel)) (by decide +kernel)
theorem kw_639 : (Cond.fieldLink "FamilyShelfModel" 16 "FamilyShelfModel" "quotient" "[J") ∈ tw_ := tw_of (List.mem_of_getElem? (i := 639) (by decide +kernel)) (by decide +kernel)
theorem kw_640 : (Cond.fieldLink "FamilyShelfModel" 19 "FamilyShelfModel" "one" "[I") ∈ tw_ := tw_of (List.mem_of_getElem? (i := 640) (by decide +kernel)) (by decide +kernel)
theorem kw_641 : (Cond.fieldLink "FamilyShelfModel" 23 "FamilyShelfModel" "two" "[I") ∈ tw_ := tw_of (List.mem_of_getElem? (i := 641) (by decide +kernel)) (by decide +kernel)
theorem kw_642 : (Cond.fieldLink "FamilyShelfModel" 26 "FamilyShelfModel" "ends" "[I") ∈ tw_ := tw_of (List.mem_of_getElem? (i := 642) (by decide +kernel)) (by decide +kernel)
theorem kw_643 : (Cond.fieldLink "FamilyShelfModel" 29 "FamilyShelfModel" "others" "[I") ∈ tw_ := tw_of (List.mem_of_getElem? (i := 643) (by decide +kernel)) (by decide +kernel)
theorem kw_644 : (Cond.fieldLink "FamilyShelfModel" 32 "FamilyShelfModel" "weights" "[I") ∈ tw_ := tw_of (List.mem_of_getElem? (i := 644) (by decide +kernel)) (by decide +kernel)
theorem kw_645 : (Cond.lays "FamilyShelfModel" "FamilyShelfModel" "thrown" "I") ∈ tw_ := tw_of (List.mem_of_getElem? (i := 645) (by decide +kernel)) (by decide +kernel)
theorem kw_646 : (Cond.soleField "FamilyShelfModel" "thrown") ∈ tw_ := tw_of (List.mem_of_getElem? (i := 646) (by decide +kernel)) (by decide +kernel)
theorem kw_647 : (Cond.laysFinal "FamilyShelfModel" "FamilyShelfModel" "shelves" "[J") ∈ tw_ := tw_of (List.mem_of_getElem? (i := 647) (by decide +kernel)) (by decide +kernel)
theorem kw_648 : (Cond.soleField "FamilyShelfModel" "shelves") ∈ tw_ := tw_of (List.mem_of_getElem? (i := 648) (by decide +kernel)) (by decide +kernel)
theorem kw_649 : (Cond.laysFinal "FamilyShelfModel" "FamilyShelfModel" "made" "[J") ∈ tw_ := tw_of (List.mem_of_getElem? (i := 649) (by decide +kernel)) (by decide +kernel)
theorem kw_650 : (Cond.soleField "FamilyShelfModel" "made") ∈ tw_ := tw_of (List.mem_of_getElem? (i := 650) (by decide +kernel)) (by decide +kernel)
theorem kw_651 : (Cond.laysFinal "FamilyShelfModel" "FamilyShelfModel" "quotient" "[J") ∈ tw_ := tw_of (List.mem_of_getElem? (i := 651) (by decide +kernel)) (by decide +kernel)
theorem kw_652 : (Cond.soleField "FamilyShelfModel" "quotient") ∈ tw_ := tw_of (List.mem_of_getElem? (i := 652) (by decide +kernel)) (by decide +kernel)
theorem kw_653 : (Cond.laysFinal "FamilyShelfModel" "FamilyShelfModel" "one" "[I") ∈ tw_ := tw_of (List.mem_of_getElem? (i := 653) (by decide +kernel)) (by decide +kernel)
theorem kw_654 : (Cond.soleField "FamilyShelfModel" "one") ∈ tw_ := tw_of (List.mem_of_getElem? (i := 654) (by decide +kernel)) (by decide +kernel)
theorem kw_655 : (Cond.laysFinal "FamilyShelfModel" "FamilyShelfModel" "two" "[I") ∈ tw_ := tw_of (List.mem_of_getElem? (i := 655) (by decide +kernel)) (by decide +kernel)
theorem kw_656 : (Cond.soleField "FamilyShelfModel" "two") ∈ tw_ := tw_of (List.mem_of_getElem? (i := 656) (by decide +kernel)) (by decide +kernel)
theorem kw_657 : (Cond.laysFinal "FamilyShelfModel" "FamilyShelfModel" "ends" "[I") ∈ tw_ := tw_of (List.mem_of_getElem? (i := 657) (by decide +kernel)) (by decide +kernel)
theorem kw_658 : (Cond.soleField "FamilyShelfModel" "ends") ∈ tw_ := tw_of (List.mem_of_getElem? (i := 658) (by decide +kernel)) (by decide +kernel)
theorem kw_659 : (Cond.laysFinal "FamilyShelfModel" "FamilyShelfModel" "others" "[I") ∈ tw_ := tw_of (List.mem_of_getElem? (i := 659) (by decide +kernel)) (by decide +kernel)
theorem kw_660 : (Cond.soleField "FamilyShelfModel" "others") ∈ tw_ := tw_of (List.mem_of_getElem? (i := 660) (by decide +kernel)) (by decide +kernel)
theorem kw_661 : (Cond.laysFinal "FamilyShelfModel" "FamilyShelfModel" "weights" "[I") ∈ tw_ := tw_of (List.mem_of_getElem? (i := 661) (by decide +kernel)) (by decide +kernel)
theorem kw_662 : (Cond.soleField "FamilyShelfModel" "weights") ∈ tw_ := tw_of (List.mem_of_getElem? (i := 662) (by decide +kernel)) (by decide +kernel)
theorem kw_663 : (Cond.superclass "FamilyShelfModel" "java/lang/Object") ∈ tw_ := tw_of (List.mem_of_getElem? (i := 663) (by decide +kernel)) (by decide +kernel)
theorem kw_664 : (Cond.methodLink "FamilyShelfLaw" 92 my_M_thrown) ∈ tw_ := tw_of (List.mem_of_getElem? (i := 664) (by decide +kernel)) (by decide +kernel)
theorem kw_665 : (Cond.instanceMethod my_M_thrown) ∈ tw_ := tw_of (List.mem_of_getElem? (i := 665) (by decide +kernel)) (by decide +kernel)
theorem kw_666 : (Cond.selects "FamilyShelfModel" my_M_thrown my_M_thrown) ∈ tw_ := tw_of (List.mem_of_getElem? (i := 666) (by decide +kernel)) (by decide +kernel)
theorem kw_667 : (Cond.code my_M_thrown prog_8_method_2_code 1 (some .int)) ∈ tw_ := tw_of (List.mem_of_getElem? (i := 667) (by decide +kernel)) (by decide +kernel)
theorem kw_668 : (Cond.methodLink "FamilyShelfLaw" 91 my_M_put) ∈ tw_ := tw_of (List.mem_of_getElem? (i := 668) (by decide +kernel)) (by decide +kernel)
theorem kw_669 : (Cond.instanceMethod my_M_put) ∈ tw_ := tw_of (List.mem_of_getElem? (i := 669) (by decide +kernel)) (by decide +kernel)
theorem kw_670 : (Cond.selects "FamilyShelfModel" my_M_put my_M_put) ∈ tw_ := tw_of (List.mem_of_getElem? (i := 670) (by decide +kernel)) (by decide +kernel)
theorem kw_671 : (Cond.code my_M_put prog_8_method_15_code 5 (some .boolean)) ∈ tw_ := tw_of (List.mem_of_getElem? (i := 671) (by decide +kernel)) (by decide +kernel)
theorem kw_672 : (Cond.methodLink "FamilyShelfModel" 51 my_M_asked) ∈ tw_ := tw_of (List.mem_of_getElem? (i := 672) (by decide +kernel)) (by decide +kernel)
theorem kw_673 : (Cond.static my_M_asked) ∈ tw_ := tw_of (List.mem_of_getElem? (i := 673) (by decide +kernel)) (by decide +kernel)
theorem kw_674 : (Cond.code my_M_asked prog_8_method_14_code 2 (some .int)) ∈ tw_ := tw_of (List.mem_of_getElem? (i := 674) (by decide +kernel)) (by decide +kernel)
theorem kw_675 : (Cond.methodLink "FamilyShelfModel" 47 my_M_noShelf) ∈ tw_ := tw_of (List.mem_of_getElem? (i := 675) (by decide +kernel)) (by decide +kernel)
theorem kw_676 : (Cond.static my_M_noShelf) ∈ tw_ := tw_of (List.mem_of_getElem? (i := 676) (by decide +kernel)) (by decide +kernel)
theorem kw_677 : (Cond.code my_M_noShelf prog_8_method_11_code 1 (some .boolean)) ∈ tw_ := tw_of (List.mem_of_getElem? (i := 677) (by decide +kernel)) (by decide +kernel)
theorem kw_678 : (Cond.methodLink "FamilyShelfModel" 55 my_M_turned) ∈ tw_ := tw_of (List.mem_of_getElem? (i := 678) (by decide +kernel)) (by decide +kernel)
theorem kw_679 : (Cond.static my_M_turned) ∈ tw_ := tw_of (List.mem_of_getElem? (i := 679) (by decide +kernel)) (by decide +kernel)
theorem kw_680 : (Cond.code my_M_turned prog_8_method_3_code 3 (some .int)) ∈ tw_ := tw_of (List.mem_of_getElem? (i := 680) (by decide +kernel)) (by decide +kernel)
theorem kw_681 : (Cond.methodLink "FamilyShelfModel" 58 my_M_isIn) ∈ tw_ := tw_of (List.mem_of_getElem? (i := 681) (by decide +kernel)) (by decide +kernel)
theorem kn_682 : (Cond.privateMethod my_M_isIn) ∈ lw_tbl := List.mem_append_right _ (List.mem_of_getElem? (i := 682) (by decide +kernel))
theorem kw_683 : (Cond.instanceMethod my_M_isIn) ∈ tw_ := tw_of (List.mem_of_getElem? (i := 683) (by decide +kernel)) (by decide +kernel)
theorem kw_684 : (Cond.code my_M_isIn prog_8_method_4_code 3 (some .boolean)) ∈ tw_ := tw_of (List.mem_of_getElem? (i := 684) (by decide +kernel)) (by decide +kernel)
theorem kw_685 : (Cond.methodLink "FamilyShelfLaw" 98 my_M_take) ∈ tw_ := tw_of (List.mem_of_getElem? (i := 685) (by decide +kernel)) (by decide +kernel)
theorem kw_686 : (Cond.instanceMethod my_M_take) ∈ tw_ := tw_of (List.mem_of_getElem? (i := 686) (by decide +kernel)) (by decide +kernel)
theorem kw_687 : (Cond.selects "FamilyShelfModel" my_M_take my_M_take) ∈ tw_ := tw_of (List.mem_of_getElem? (i := 687) (by decide +kernel)) (by decide +kernel)
theorem kw_688 : (Cond.code my_M_take prog_8_method_16_code 5 (some .boolean)) ∈ tw_ := tw_of (List.mem_of_getElem? (i := 688) (by decide +kernel)) (by decide +kernel)
theorem kw_689 : (Cond.constantLong "FamilyShelfModel" 62 (-1 : Int64)) ∈ tw_ := tw_of (List.mem_of_getElem? (i := 689) (by decide +kernel)) (by decide +kernel)
theorem kw_690 : (Cond.methodLink "FamilyShelfLaw" 102 my_M_clear) ∈ tw_ := tw_of (List.mem_of_getElem? (i := 690) (by decide +kernel)) (by decide +kernel)
theorem kw_691 : (Cond.instanceMethod my_M_clear) ∈ tw_ := tw_of (List.mem_of_getElem? (i := 691) (by decide +kernel)) (by decide +kernel)
theorem kw_692 : (Cond.selects "FamilyShelfModel" my_M_clear my_M_clear) ∈ tw_ := tw_of (List.mem_of_getElem? (i := 692) (by decide +kernel)) (by decide +kernel)
theorem kw_693 : (Cond.code my_M_clear prog_8_method_17_code 4 (some .int)) ∈ tw_ := tw_of (List.mem_of_getElem? (i := 693) (by decide +kernel)) (by decide +kernel)
theorem kw_694 : (Cond.methodLink "FamilyShelfModel" 43 my_M_countOf) ∈ tw_ := tw_of (List.mem_of_getElem? (i := 694) (by decide +kernel)) (by decide +kernel)
theorem kn_695 : (Cond.privateMethod my_M_countOf) ∈ lw_tbl := List.mem_append_right _ (List.mem_of_getElem? (i := 695) (by decide +kernel))
theorem kw_696 : (Cond.instanceMethod my_M_countOf) ∈ tw_ := tw_of (List.mem_of_getElem? (i := 696) (by decide +kernel)) (by decide +kernel)
theorem kw_697 : (Cond.code my_M_countOf prog_8_method_9_code 4 (some .int)) ∈ tw_ := tw_of (List.mem_of_getElem? (i := 697) (by decide +kernel)) (by decide +kernel)
theorem kw_698 : (Cond.methodLink "FamilyShelfModel" 39 my_M_ones) ∈ tw_ := tw_of (List.mem_of_getElem? (i := 698) (by decide +kernel)) (by decide +kernel)
theorem kw_699 : (Cond.static my_M_ones) ∈ tw_ := tw_of (List.mem_of_getElem? (i := 699) (by decide +kernel)) (by decide +kernel)
theorem kw_700 : (Cond.code my_M_ones prog_8_method_8_code 4 (some .int)) ∈ tw_ := tw_of (List.mem_of_getElem? (i := 700) (by decide +kernel)) (by decide +kernel)
theorem kw_701 : (Cond.methodLink "FamilyShelfLaw" 106 my_M_combine) ∈ tw_ := tw_of (List.mem_of_getElem? (i := 701) (by decide +kernel)) (by decide +kernel)
theorem kw_702 : (Cond.instanceMethod my_M_combine) ∈ tw_ := tw_of (List.mem_of_getElem? (i := 702) (by decide +kernel)) (by decide +kernel)
theorem kw_703 : (Cond.selects "FamilyShelfModel" my_M_combine my_M_combine) ∈ tw_ := tw_of (List.mem_of_getElem? (i := 703) (by decide +kernel)) (by decide +kernel)
theorem kw_704 : (Cond.code my_M_combine prog_8_method_25_code 10 (some .int)) ∈ tw_ := tw_of (List.mem_of_getElem? (i := 704) (by decide +kernel)) (by decide +kernel)
theorem kw_705 : (Cond.methodLink "FamilyShelfModel" 83 my_M_begin) ∈ tw_ := tw_of (List.mem_of_getElem? (i := 705) (by decide +kernel)) (by decide +kernel)
theorem kn_706 : (Cond.privateMethod my_M_begin) ∈ lw_tbl := List.mem_append_right _ (List.mem_of_getElem? (i := 706) (by decide +kernel))
theorem kw_707 : (Cond.instanceMethod my_M_begin) ∈ tw_ := tw_of (List.mem_of_getElem? (i := 707) (by decide +kernel)) (by decide +kernel)
theorem kw_708 : (Cond.code my_M_begin prog_8_method_6_code 2 none) ∈ tw_ := tw_of (List.mem_of_getElem? (i := 708) (by decide +kernel)) (by decide +kernel)
theorem kw_709 : (Cond.methodLink "FamilyShelfModel" 86 my_M_makePairs) ∈ tw_ := tw_of (List.mem_of_getElem? (i := 709) (by decide +kernel)) (by decide +kernel)
theorem kn_710 : (Cond.privateMethod my_M_makePairs) ∈ lw_tbl := List.mem_append_right _ (List.mem_of_getElem? (i := 710) (by decide +kernel))
theorem kw_711 : (Cond.instanceMethod my_M_makePairs) ∈ tw_ := tw_of (List.mem_of_getElem? (i := 711) (by decide +kernel)) (by decide +kernel)
theorem kw_712 : (Cond.code my_M_makePairs prog_8_method_21_code 5 none) ∈ tw_ := tw_of (List.mem_of_getElem? (i := 712) (by decide +kernel)) (by decide +kernel)
theorem kw_713 : (Cond.methodLink "FamilyShelfModel" 64 my_M_load) ∈ tw_ := tw_of (List.mem_of_getElem? (i := 713) (by decide +kernel)) (by decide +kernel)
theorem kn_714 : (Cond.privateMethod my_M_load) ∈ lw_tbl := List.mem_append_right _ (List.mem_of_getElem? (i := 714) (by decide +kernel))
theorem kw_715 : (Cond.instanceMethod my_M_load) ∈ tw_ := tw_of (List.mem_of_getElem? (i := 715) (by decide +kernel)) (by decide +kernel)
theorem kw_716 : (Cond.code my_M_load prog_8_method_18_code 4 none) ∈ tw_ := tw_of (List.mem_of_getElem? (i := 716) (by decide +kernel)) (by decide +kernel)
theorem kw_717 : (Cond.methodLink "FamilyShelfModel" 68 my_M_sum) ∈ tw_ := tw_of (List.mem_of_getElem? (i := 717) (by decide +kernel)) (by decide +kernel)
theorem kw_718 : (Cond.static my_M_sum) ∈ tw_ := tw_of (List.mem_of_getElem? (i := 718) (by decide +kernel)) (by decide +kernel)
theorem kw_719 : (Cond.code my_M_sum prog_8_method_19_code 4 none) ∈ tw_ := tw_of (List.mem_of_getElem? (i := 719) (by decide +kernel)) (by decide +kernel)
theorem kw_720 : (Cond.methodLink "FamilyShelfModel" 72 my_M_part) ∈ tw_ := tw_of (List.mem_of_getElem? (i := 720) (by decide +kernel)) (by decide +kernel)
theorem kw_721 : (Cond.static my_M_part) ∈ tw_ := tw_of (List.mem_of_getElem? (i := 721) (by decide +kernel)) (by decide +kernel)
theorem kw_722 : (Cond.code my_M_part prog_8_method_20_code 4 none) ∈ tw_ := tw_of (List.mem_of_getElem? (i := 722) (by decide +kernel)) (by decide +kernel)
theorem kw_723 : (Cond.methodLink "FamilyShelfModel" 75 my_M_make) ∈ tw_ := tw_of (List.mem_of_getElem? (i := 723) (by decide +kernel)) (by decide +kernel)
theorem kn_724 : (Cond.privateMethod my_M_make) ∈ lw_tbl := List.mem_append_right _ (List.mem_of_getElem? (i := 724) (by decide +kernel))
theorem kw_725 : (Cond.instanceMethod my_M_make) ∈ tw_ := tw_of (List.mem_of_getElem? (i := 725) (by decide +kernel)) (by decide +kernel)
theorem kw_726 : (Cond.code my_M_make prog_8_method_7_code 2 none) ∈ tw_ := tw_of (List.mem_of_getElem? (i := 726) (by decide +kernel)) (by decide +kernel)
theorem kw_727 : (Cond.methodLink "FamilyShelfModel" 90 my_M_makeFree) ∈ tw_ := tw_of (List.mem_of_getElem? (i := 727) (by decide +kernel)) (by decide +kernel)
theorem kn_728 : (Cond.privateMethod my_M_makeFree) ∈ lw_tbl := List.mem_append_right _ (List.mem_of_getElem? (i := 728) (by decide +kernel))
theorem kw_729 : (Cond.instanceMethod my_M_makeFree) ∈ tw_ := tw_of (List.mem_of_getElem? (i := 729) (by decide +kernel)) (by decide +kernel)
theorem kw_730 : (Cond.code my_M_makeFree prog_8_method_22_code 5 none) ∈ tw_ := tw_of (List.mem_of_getElem? (i := 730) (by decide +kernel)) (by decide +kernel)
theorem kw_731 : (Cond.methodLink "FamilyShelfModel" 79 my_M_makeQuotient) ∈ tw_ := tw_of (List.mem_of_getElem? (i := 731) (by decide +kernel)) (by decide +kernel)
theorem kn_732 : (Cond.privateMethod my_M_makeQuotient) ∈ lw_tbl := List.mem_append_right _ (List.mem_of_getElem? (i := 732) (by decide +kernel))
theorem kw_733 : (Cond.instanceMethod my_M_makeQuotient) ∈ tw_ := tw_of (List.mem_of_getElem? (i := 733) (by decide +kernel)) (by decide +kernel)
theorem kw_734 : (Cond.code my_M_makeQuotient prog_8_method_23_code 7 none) ∈ tw_ := tw_of (List.mem_of_getElem? (i := 734) (by decide +kernel)) (by decide +kernel)
theorem kw_735 : (Cond.methodLink "FamilyShelfModel" 93 my_M_makeRemainder) ∈ tw_ := tw_of (List.mem_of_getElem? (i := 735) (by decide +kernel)) (by decide +kernel)
theorem kn_736 : (Cond.privateMethod my_M_makeRemainder) ∈ lw_tbl := List.mem_append_right _ (List.mem_of_getElem? (i := 736) (by decide +kernel))
theorem kw_737 : (Cond.instanceMethod my_M_makeRemainder) ∈ tw_ := tw_of (List.mem_of_getElem? (i := 737) (by decide +kernel)) (by decide +kernel)
theorem kw_738 : (Cond.code my_M_makeRemainder prog_8_method_24_code 8 none) ∈ tw_ := tw_of (List.mem_of_getElem? (i := 738) (by decide +kernel)) (by decide +kernel)
theorem kw_739 : (Cond.methodLink "FamilyShelfModel" 96 my_M_lay) ∈ tw_ := tw_of (List.mem_of_getElem? (i := 739) (by decide +kernel)) (by decide +kernel)
theorem kn_740 : (Cond.privateMethod my_M_lay) ∈ lw_tbl := List.mem_append_right _ (List.mem_of_getElem? (i := 740) (by decide +kernel))
theorem kw_741 : (Cond.instanceMethod my_M_lay) ∈ tw_ := tw_of (List.mem_of_getElem? (i := 741) (by decide +kernel)) (by decide +kernel)
theorem kw_742 : (Cond.code my_M_lay prog_8_method_10_code 3 (some .int)) ∈ tw_ := tw_of (List.mem_of_getElem? (i := 742) (by decide +kernel)) (by decide +kernel)
theorem kw_743 : (Cond.methodLink "FamilyShelfLaw" 109 my_M_change) ∈ tw_ := tw_of (List.mem_of_getElem? (i := 743) (by decide +kernel)) (by decide +kernel)
theorem kw_744 : (Cond.instanceMethod my_M_change) ∈ tw_ := tw_of (List.mem_of_getElem? (i := 744) (by decide +kernel)) (by decide +kernel)
theorem kw_745 : (Cond.selects "FamilyShelfModel" my_M_change my_M_change) ∈ tw_ := tw_of (List.mem_of_getElem? (i := 745) (by decide +kernel)) (by decide +kernel)
theorem kw_746 : (Cond.code my_M_change prog_8_method_27_code 8 (some .int)) ∈ tw_ := tw_of (List.mem_of_getElem? (i := 746) (by decide +kernel)) (by decide +kernel)
theorem kw_747 : (Cond.methodLink "FamilyShelfModel" 99 my_M_noElement) ∈ tw_ := tw_of (List.mem_of_getElem? (i := 747) (by decide +kernel)) (by decide +kernel)
theorem kw_748 : (Cond.static my_M_noElement) ∈ tw_ := tw_of (List.mem_of_getElem? (i := 748) (by decide +kernel)) (by decide +kernel)
theorem kw_749 : (Cond.code my_M_noElement prog_8_method_12_code 1 (some .boolean)) ∈ tw_ := tw_of (List.mem_of_getElem? (i := 749) (by decide +kernel)) (by decide +kernel)
theorem kw_750 : (Cond.methodLink "FamilyShelfModel" 102 my_M_bitOf) ∈ tw_ := tw_of (List.mem_of_getElem? (i := 750) (by decide +kernel)) (by decide +kernel)
theorem kw_751 : (Cond.static my_M_bitOf) ∈ tw_ := tw_of (List.mem_of_getElem? (i := 751) (by decide +kernel)) (by decide +kernel)
theorem kw_752 : (Cond.code my_M_bitOf prog_8_method_26_code 1 (some .int)) ∈ tw_ := tw_of (List.mem_of_getElem? (i := 752) (by decide +kernel)) (by decide +kernel)
theorem kw_753 : (Cond.methodLink "FamilyShelfLaw" 113 my_M_extreme) ∈ tw_ := tw_of (List.mem_of_getElem? (i := 753) (by decide +kernel)) (by decide +kernel)
theorem kw_754 : (Cond.instanceMethod my_M_extreme) ∈ tw_ := tw_of (List.mem_of_getElem? (i := 754) (by decide +kernel)) (by decide +kernel)
theorem kw_755 : (Cond.selects "FamilyShelfModel" my_M_extreme my_M_extreme) ∈ tw_ := tw_of (List.mem_of_getElem? (i := 755) (by decide +kernel)) (by decide +kernel)
theorem kw_756 : (Cond.code my_M_extreme prog_8_method_28_code 5 (some .int)) ∈ tw_ := tw_of (List.mem_of_getElem? (i := 756) (by decide +kernel)) (by decide +kernel)
theorem kw_757 : (Cond.methodLink "FamilyShelfLaw" 117 my_M_sized) ∈ tw_ := tw_of (List.mem_of_getElem? (i := 757) (by decide +kernel)) (by decide +kernel)
theorem kw_758 : (Cond.instanceMethod my_M_sized) ∈ tw_ := tw_of (List.mem_of_getElem? (i := 758) (by decide +kernel)) (by decide +kernel)
theorem kw_759 : (Cond.selects "FamilyShelfModel" my_M_sized my_M_sized) ∈ tw_ := tw_of (List.mem_of_getElem? (i := 759) (by decide +kernel)) (by decide +kernel)
theorem kw_760 : (Cond.code my_M_sized prog_8_method_29_code 5 (some .int)) ∈ tw_ := tw_of (List.mem_of_getElem? (i := 760) (by decide +kernel)) (by decide +kernel)
theorem kw_761 : (Cond.methodLink "FamilyShelfLaw" 121 my_M_edge) ∈ tw_ := tw_of (List.mem_of_getElem? (i := 761) (by decide +kernel)) (by decide +kernel)
theorem kw_762 : (Cond.instanceMethod my_M_edge) ∈ tw_ := tw_of (List.mem_of_getElem? (i := 762) (by decide +kernel)) (by decide +kernel)
theorem kw_763 : (Cond.selects "FamilyShelfModel" my_M_edge my_M_edge) ∈ tw_ := tw_of (List.mem_of_getElem? (i := 763) (by decide +kernel)) (by decide +kernel)
theorem kw_764 : (Cond.code my_M_edge prog_8_method_30_code 4 none) ∈ tw_ := tw_of (List.mem_of_getElem? (i := 764) (by decide +kernel)) (by decide +kernel)
theorem kw_765 : (Cond.methodLink "FamilyShelfModel" 105 my_M_noVertex) ∈ tw_ := tw_of (List.mem_of_getElem? (i := 765) (by decide +kernel)) (by decide +kernel)
theorem kw_766 : (Cond.static my_M_noVertex) ∈ tw_ := tw_of (List.mem_of_getElem? (i := 766) (by decide +kernel)) (by decide +kernel)
theorem kw_767 : (Cond.code my_M_noVertex prog_8_method_13_code 1 (some .boolean)) ∈ tw_ := tw_of (List.mem_of_getElem? (i := 767) (by decide +kernel)) (by decide +kernel)
theorem kw_768 : (Cond.methodLink "FamilyShelfLaw" 124 my_M_cut) ∈ tw_ := tw_of (List.mem_of_getElem? (i := 768) (by decide +kernel)) (by decide +kernel)
theorem kw_769 : (Cond.instanceMethod my_M_cut) ∈ tw_ := tw_of (List.mem_of_getElem? (i := 769) (by decide +kernel)) (by decide +kernel)
theorem kw_770 : (Cond.selects "FamilyShelfModel" my_M_cut my_M_cut) ∈ tw_ := tw_of (List.mem_of_getElem? (i := 770) (by decide +kernel)) (by decide +kernel)
theorem kw_771 : (Cond.code my_M_cut prog_8_method_31_code 3 (some .boolean)) ∈ tw_ := tw_of (List.mem_of_getElem? (i := 771) (by decide +kernel)) (by decide +kernel)
theorem kw_772 : (Cond.methodLink "FamilyShelfLaw" 127 my_M_paths) ∈ tw_ := tw_of (List.mem_of_getElem? (i := 772) (by decide +kernel)) (by decide +kernel)
theorem kw_773 : (Cond.instanceMethod my_M_paths) ∈ tw_ := tw_of (List.mem_of_getElem? (i := 773) (by decide +kernel)) (by decide +kernel)
theorem kw_774 : (Cond.selects "FamilyShelfModel" my_M_paths my_M_paths) ∈ tw_ := tw_of (List.mem_of_getElem? (i := 774) (by decide +kernel)) (by decide +kernel)
theorem kw_775 : (Cond.code my_M_paths prog_8_method_35_code 5 (some .int)) ∈ tw_ := tw_of (List.mem_of_getElem? (i := 775) (by decide +kernel)) (by decide +kernel)
theorem kw_776 : (Cond.methodLink "FamilyShelfModel" 111 my_M_areEdges) ∈ tw_ := tw_of (List.mem_of_getElem? (i := 776) (by decide +kernel)) (by decide +kernel)
theorem kn_777 : (Cond.privateMethod my_M_areEdges) ∈ lw_tbl := List.mem_append_right _ (List.mem_of_getElem? (i := 777) (by decide +kernel))
theorem kw_778 : (Cond.instanceMethod my_M_areEdges) ∈ tw_ := tw_of (List.mem_of_getElem? (i := 778) (by decide +kernel)) (by decide +kernel)
theorem kw_779 : (Cond.code my_M_areEdges prog_8_method_32_code 4 (some .boolean)) ∈ tw_ := tw_of (List.mem_of_getElem? (i := 779) (by decide +kernel)) (by decide +kernel)
theorem kw_780 : (Cond.methodLink "FamilyShelfModel" 114 my_M_isPath) ∈ tw_ := tw_of (List.mem_of_getElem? (i := 780) (by decide +kernel)) (by decide +kernel)
theorem kn_781 : (Cond.privateMethod my_M_isPath) ∈ lw_tbl := List.mem_append_right _ (List.mem_of_getElem? (i := 781) (by decide +kernel))
theorem kw_782 : (Cond.instanceMethod my_M_isPath) ∈ tw_ := tw_of (List.mem_of_getElem? (i := 782) (by decide +kernel)) (by decide +kernel)
theorem kw_783 : (Cond.code my_M_isPath prog_8_method_34_code 8 (some .boolean)) ∈ tw_ := tw_of (List.mem_of_getElem? (i := 783) (by decide +kernel)) (by decide +kernel)
theorem kw_784 : (Cond.methodLink "FamilyShelfModel" 108 my_M_onlyEdge) ∈ tw_ := tw_of (List.mem_of_getElem? (i := 784) (by decide +kernel)) (by decide +kernel)
theorem kn_785 : (Cond.privateMethod my_M_onlyEdge) ∈ lw_tbl := List.mem_append_right _ (List.mem_of_getElem? (i := 785) (by decide +kernel))
theorem kw_786 : (Cond.instanceMethod my_M_onlyEdge) ∈ tw_ := tw_of (List.mem_of_getElem? (i := 786) (by decide +kernel)) (by decide +kernel)
theorem kw_787 : (Cond.code my_M_onlyEdge prog_8_method_33_code 6 (some .int)) ∈ tw_ := tw_of (List.mem_of_getElem? (i := 787) (by decide +kernel)) (by decide +kernel)
theorem kw_788 : (Cond.methodLink "FamilyShelfLaw" 130 my_M_matchings) ∈ tw_ := tw_of (List.mem_of_getElem? (i := 788) (by decide +kernel)) (by decide +kernel)
theorem kw_789 : (Cond.instanceMethod my_M_matchings) ∈ tw_ := tw_of (List.mem_of_getElem? (i := 789) (by decide +kernel)) (by decide +kernel)
theorem kw_790 : (Cond.selects "FamilyShelfModel" my_M_matchings my_M_matchings) ∈ tw_ := tw_of (List.mem_of_getElem? (i := 790) (by decide +kernel)) (by decide +kernel)
theorem kw_791 : (Cond.code my_M_matchings prog_8_method_37_code 3 (some .int)) ∈ tw_ := tw_of (List.mem_of_getElem? (i := 791) (by decide +kernel)) (by decide +kernel)
theorem kw_792 : (Cond.methodLink "FamilyShelfModel" 118 my_M_isMatching) ∈ tw_ := tw_of (List.mem_of_getElem? (i := 792) (by decide +kernel)) (by decide +kernel)
theorem kn_793 : (Cond.privateMethod my_M_isMatching) ∈ lw_tbl := List.mem_append_right _ (List.mem_of_getElem? (i := 793) (by decide +kernel))
theorem kw_794 : (Cond.instanceMethod my_M_isMatching) ∈ tw_ := tw_of (List.mem_of_getElem? (i := 794) (by decide +kernel)) (by decide +kernel)
theorem kw_795 : (Cond.code my_M_isMatching prog_8_method_36_code 5 (some .boolean)) ∈ tw_ := tw_of (List.mem_of_getElem? (i := 795) (by decide +kernel)) (by decide +kernel)
theorem kw_796 : (Cond.methodLink "FamilyShelfLaw" 133 my_M_weight) ∈ tw_ := tw_of (List.mem_of_getElem? (i := 796) (by decide +kernel)) (by decide +kernel)
theorem kw_797 : (Cond.instanceMethod my_M_weight) ∈ tw_ := tw_of (List.mem_of_getElem? (i := 797) (by decide +kernel)) (by decide +kernel)
theorem kw_798 : (Cond.selects "FamilyShelfModel" my_M_weight my_M_weight) ∈ tw_ := tw_of (List.mem_of_getElem? (i := 798) (by decide +kernel)) (by decide +kernel)
theorem kw_799 : (Cond.code my_M_weight prog_8_method_38_code 4 (some .int)) ∈ tw_ := tw_of (List.mem_of_getElem? (i := 799) (by decide +kernel)) (by decide +kernel)
theorem kw_800 : (Cond.methodLink "FamilyShelfLaw" 136 my_M_count) ∈ tw_ := tw_of (List.mem_of_getElem? (i := 800) (by decide +kernel)) (by decide +kernel)
theorem kw_801 : (Cond.instanceMethod my_M_count) ∈ tw_ := tw_of (List.mem_of_getElem? (i := 801) (by decide +kernel)) (by decide +kernel)
theorem kw_802 : (Cond.selects "FamilyShelfModel" my_M_count my_M_count) ∈ tw_ := tw_of (List.mem_of_getElem? (i := 802) (by decide +kernel)) (by decide +kernel)
theorem kw_803 : (Cond.code my_M_count prog_8_method_39_code 2 (some .int)) ∈ tw_ := tw_of (List.mem_of_getElem? (i := 803) (by decide +kernel)) (by decide +kernel)
theorem kw_804 : (Cond.methodLink "FamilyShelfLaw" 139 my_M_has) ∈ tw_ := tw_of (List.mem_of_getElem? (i := 804) (by decide +kernel)) (by decide +kernel)
theorem kw_805 : (Cond.instanceMethod my_M_has) ∈ tw_ := tw_of (List.mem_of_getElem? (i := 805) (by decide +kernel)) (by decide +kernel)
theorem kw_806 : (Cond.selects "FamilyShelfModel" my_M_has my_M_has) ∈ tw_ := tw_of (List.mem_of_getElem? (i := 806) (by decide +kernel)) (by decide +kernel)
theorem kw_807 : (Cond.code my_M_has prog_8_method_40_code 3 (some .boolean)) ∈ tw_ := tw_of (List.mem_of_getElem? (i := 807) (by decide +kernel)) (by decide +kernel)
theorem kw_808 : (Cond.methodLink "FamilyShelfLaw" 142 my_M_nth) ∈ tw_ := tw_of (List.mem_of_getElem? (i := 808) (by decide +kernel)) (by decide +kernel)
theorem kw_809 : (Cond.instanceMethod my_M_nth) ∈ tw_ := tw_of (List.mem_of_getElem? (i := 809) (by decide +kernel)) (by decide +kernel)
theorem kw_810 : (Cond.selects "FamilyShelfModel" my_M_nth my_M_nth) ∈ tw_ := tw_of (List.mem_of_getElem? (i := 810) (by decide +kernel)) (by decide +kernel)
theorem kw_811 : (Cond.code my_M_nth prog_8_method_41_code 5 (some .int)) ∈ tw_ := tw_of (List.mem_of_getElem? (i := 811) (by decide +kernel)) (by decide +kernel)
theorem kw_812 : (Cond.methodLink "FamilyShelfLaw" 145 my_M_rank) ∈ tw_ := tw_of (List.mem_of_getElem? (i := 812) (by decide +kernel)) (by decide +kernel)
theorem kw_813 : (Cond.instanceMethod my_M_rank) ∈ tw_ := tw_of (List.mem_of_getElem? (i := 813) (by decide +kernel)) (by decide +kernel)
theorem kw_814 : (Cond.selects "FamilyShelfModel" my_M_rank my_M_rank) ∈ tw_ := tw_of (List.mem_of_getElem? (i := 814) (by decide +kernel)) (by decide +kernel)
theorem kw_815 : (Cond.code my_M_rank prog_8_method_42_code 6 (some .int)) ∈ tw_ := tw_of (List.mem_of_getElem? (i := 815) (by decide +kernel)) (by decide +kernel)
theorem kw_816 : (Cond.methodLink "FamilyShelfLaw" 148 my_M_heaviest) ∈ tw_ := tw_of (List.mem_of_getElem? (i := 816) (by decide +kernel)) (by decide +kernel)
theorem kw_817 : (Cond.instanceMethod my_M_heaviest) ∈ tw_ := tw_of (List.mem_of_getElem? (i := 817) (by decide +kernel)) (by decide +kernel)
theorem kw_818 : (Cond.selects "FamilyShelfModel" my_M_heaviest my_M_heaviest) ∈ tw_ := tw_of (List.mem_of_getElem? (i := 818) (by decide +kernel)) (by decide +kernel)
theorem kw_819 : (Cond.code my_M_heaviest prog_8_method_44_code 6 (some .int)) ∈ tw_ := tw_of (List.mem_of_getElem? (i := 819) (by decide +kernel)) (by decide +kernel)
theorem kw_820 : (Cond.methodLink "FamilyShelfModel" 121 my_M_weigh) ∈ tw_ := tw_of (List.mem_of_getElem? (i := 820) (by decide +kernel)) (by decide +kernel)
theorem kn_821 : (Cond.privateMethod my_M_weigh) ∈ lw_tbl := List.mem_append_right _ (List.mem_of_getElem? (i := 821) (by decide +kernel))
theorem kw_822 : (Cond.instanceMethod my_M_weigh) ∈ tw_ := tw_of (List.mem_of_getElem? (i := 822) (by decide +kernel)) (by decide +kernel)
theorem kw_823 : (Cond.code my_M_weigh prog_8_method_43_code 4 (some .int)) ∈ tw_ := tw_of (List.mem_of_getElem? (i := 823) (by decide +kernel)) (by decide +kernel)
theorem kw_824 : (Cond.methodLink "FamilyShelfLaw" 151 my_M_size) ∈ tw_ := tw_of (List.mem_of_getElem? (i := 824) (by decide +kernel)) (by decide +kernel)
theorem kw_825 : (Cond.instanceMethod my_M_size) ∈ tw_ := tw_of (List.mem_of_getElem? (i := 825) (by decide +kernel)) (by decide +kernel)
theorem kw_826 : (Cond.selects "FamilyShelfModel" my_M_size my_M_size) ∈ tw_ := tw_of (List.mem_of_getElem? (i := 826) (by decide +kernel)) (by decide +kernel)
theorem kw_827 : (Cond.code my_M_size prog_8_method_48_code 4 (some .int)) ∈ tw_ := tw_of (List.mem_of_getElem? (i := 827) (by decide +kernel)) (by decide +kernel)
theorem kw_828 : (Cond.methodLink "FamilyShelfModel" 131 my_M_different) ∈ tw_ := tw_of (List.mem_of_getElem? (i := 828) (by decide +kernel)) (by decide +kernel)
theorem kn_829 : (Cond.privateMethod my_M_different) ∈ lw_tbl := List.mem_append_right _ (List.mem_of_getElem? (i := 829) (by decide +kernel))
theorem kw_830 : (Cond.instanceMethod my_M_different) ∈ tw_ := tw_of (List.mem_of_getElem? (i := 830) (by decide +kernel)) (by decide +kernel)
theorem kw_831 : (Cond.code my_M_different prog_8_method_47_code 7 (some .int)) ∈ tw_ := tw_of (List.mem_of_getElem? (i := 831) (by decide +kernel)) (by decide +kernel)
theorem kw_832 : (Cond.methodLink "FamilyShelfModel" 124 my_M_isAny) ∈ tw_ := tw_of (List.mem_of_getElem? (i := 832) (by decide +kernel)) (by decide +kernel)
theorem kn_833 : (Cond.privateMethod my_M_isAny) ∈ lw_tbl := List.mem_append_right _ (List.mem_of_getElem? (i := 833) (by decide +kernel))
theorem kw_834 : (Cond.instanceMethod my_M_isAny) ∈ tw_ := tw_of (List.mem_of_getElem? (i := 834) (by decide +kernel)) (by decide +kernel)
theorem kw_835 : (Cond.code my_M_isAny prog_8_method_46_code 5 (some .boolean)) ∈ tw_ := tw_of (List.mem_of_getElem? (i := 835) (by decide +kernel)) (by decide +kernel)
theorem kw_836 : (Cond.methodLink "FamilyShelfModel" 127 my_M_alike) ∈ tw_ := tw_of (List.mem_of_getElem? (i := 836) (by decide +kernel)) (by decide +kernel)
theorem kn_837 : (Cond.privateMethod my_M_alike) ∈ lw_tbl := List.mem_append_right _ (List.mem_of_getElem? (i := 837) (by decide +kernel))
theorem kw_838 : (Cond.instanceMethod my_M_alike) ∈ tw_ := tw_of (List.mem_of_getElem? (i := 838) (by decide +kernel)) (by decide +kernel)
theorem kw_839 : (Cond.code my_M_alike prog_8_method_45_code 6 (some .boolean)) ∈ tw_ := tw_of (List.mem_of_getElem? (i := 839) (by decide +kernel)) (by decide +kernel)
theorem kw_840 : (Cond.methodLink "FamilyShelfLaw" 154 my_M_parts) ∈ tw_ := tw_of (List.mem_of_getElem? (i := 840) (by decide +kernel)) (by decide +kernel)
theorem kw_841 : (Cond.instanceMethod my_M_parts) ∈ tw_ := tw_of (List.mem_of_getElem? (i := 841) (by decide +kernel)) (by decide +kernel)
theorem kw_842 : (Cond.selects "FamilyShelfModel" my_M_parts my_M_parts) ∈ tw_ := tw_of (List.mem_of_getElem? (i := 842) (by decide +kernel)) (by decide +kernel)
theorem kw_843 : (Cond.code my_M_parts prog_8_method_49_code 6 (some .int)) ∈ tw_ := tw_of (List.mem_of_getElem? (i := 843) (by decide +kernel)) (by decide +kernel)
theorem kw_844 : (Cond.sameMethod "java/lang/Throwable" "java/lang/Throwable" "fillInStackTrace" "(I)Ljava/lang/Throwable;") ∈ tw_ := tw_of (List.mem_of_getElem? (i := 844) (by decide +kernel)) (by decide +kernel)
theorem ly_A : ∀ w ∈ u_ws R_A T_A 4, w ∈ tw_ := by
  intro w hw
  obtain ⟨k, hk, rfl⟩ := List.mem_map.mp hw
  have hk := List.mem_range.mp hk
  match k, hk with
  | 0, _ => exact kw_57
  | 1, _ => exact kw_59
  | 2, _ => exact kw_61
  | 3, _ => exact kw_63
theorem ly_D : ∀ w ∈ u_ws R_D T_D 5, w ∈ tw_ := by
  intro w hw
  obtain ⟨k, hk, rfl⟩ := List.mem_map.mp hw
  have hk := List.mem_range.mp hk
  match k, hk with
  | 0, _ => exact kw_104
  | 1, _ => exact kw_106
  | 2, _ => exact kw_108
  | 3, _ => exact kw_110
  | 4, _ => exact kw_112
theorem ly_F : ∀ w ∈ u_ws R_F T_F 1, w ∈ tw_ := by
  intro w hw
  obtain ⟨k, hk, rfl⟩ := List.mem_map.mp hw
  have hk := List.mem_range.mp hk
  match k, hk with
  | 0, _ => exact kw_43
theorem ly_G : ∀ w ∈ u_ws R_G T_G 1, w ∈ tw_ := by
  intro w hw
  obtain ⟨k, hk, rfl⟩ := List.mem_map.mp hw
  have hk := List.mem_range.mp hk
  match k, hk with
  | 0, _ => exact kw_73
theorem ly_W : ∀ w ∈ u_ws R_W T_W 3, w ∈ tw_ := by
  intro w hw
  obtain ⟨k, hk, rfl⟩ := List.mem_map.mp hw
  have hk := List.mem_range.mp hk
  match k, hk with
  | 0, _ => exact kw_86
  | 1, _ => exact kw_88
  | 2, _ => exact kw_90
theorem ly_S : ∀ w ∈ u_ws R_S T_S 6, w ∈ tw_ := by
  intro w hw
  obtain ⟨k, hk, rfl⟩ := List.mem_map.mp hw
  have hk := List.mem_range.mp hk
  match k, hk with
  | 0, _ => exact kw_122
  | 1, _ => exact kw_124
  | 2, _ => exact kw_126
  | 3, _ => exact kw_128
  | 4, _ => exact kw_130
  | 5, _ => exact kw_132
theorem ly_M : ∀ w ∈ u_ws R_M T_M 9, w ∈ tw_ := by
  intro w hw
  obtain ⟨k, hk, rfl⟩ := List.mem_map.mp hw
  have hk := List.mem_range.mp hk
  match k, hk with
  | 0, _ => exact kw_645
  | 1, _ => exact kw_647
  | 2, _ => exact kw_649
  | 3, _ => exact kw_651
  | 4, _ => exact kw_653
  | 5, _ => exact kw_655
  | 6, _ => exact kw_657
  | 7, _ => exact kw_659
  | 8, _ => exact kw_661
