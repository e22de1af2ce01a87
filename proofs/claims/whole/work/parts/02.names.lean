abbrev R_X : String := "LitreFractions"
abbrev R_T : String := "LitreFractions$Table"
abbrev R_M : String := "LitreFractionsModel"
abbrev R_L : String := "LitreFractionsLaw"
abbrev R_JM : String := "java/lang/Math"
abbrev R_JL : String := "java/lang/Long"
def F_T : u_T := fun k => match k with
  | 0 => ("LitreFractions$Table", "xs", "[J", true)
  | 1 => ("LitreFractions$Table", "ys", "[J", true)
  | 2 => ("LitreFractions$Table", "below", "J", false)
  | _ => ("LitreFractions$Table", "count", "I", false)
def tt_T : Nat → FieldType := fun k => match k with
  | 0 => .array .long
  | 1 => .array .long
  | 2 => .long
  | _ => .int
theorem nn_T : ∀ a, a < 4 → ∀ b, b < 4 → a ≠ b → (F_T a).2.1 ≠ (F_T b).2.1 := by decide +kernel
theorem tt_T_ok : ∀ k, k < 4 → parseFieldDescriptor (F_T k).2.2.1 = some (tt_T k) := by decide +kernel
def F_X : u_T := fun k => match k with
  | 0 => ("LitreFractions", "aboves", "[J", true)
  | 1 => ("LitreFractions", "belows", "[J", true)
  | 2 => ("LitreFractions", "units", "[I", true)
  | 3 => ("LitreFractions", "amountCount", "I", false)
  | 4 => ("LitreFractions", "weights", "[J", true)
  | 5 => ("LitreFractions", "weightCount", "I", false)
  | _ => ("LitreFractions", "tables", "[LLitreFractions$Table;", true)
def tt_X : Nat → FieldType := fun k => match k with
  | 0 => .array .long
  | 1 => .array .long
  | 2 => .array .int
  | 3 => .int
  | 4 => .array .long
  | 5 => .int
  | _ => .array (.object "LitreFractions$Table")
theorem nn_X : ∀ a, a < 7 → ∀ b, b < 7 → a ≠ b → (F_X a).2.1 ≠ (F_X b).2.1 := by decide +kernel
theorem tt_X_ok : ∀ k, k < 7 → parseFieldDescriptor (F_X k).2.2.1 = some (tt_X k) := by decide +kernel
def F_M : u_T := fun k => match k with
  | 0 => ("LitreFractionsModel", "code", "I", false)
  | 1 => ("LitreFractionsModel", "amounts", "I", false)
  | 2 => ("LitreFractionsModel", "up", "[J", true)
  | 3 => ("LitreFractionsModel", "down", "[J", true)
  | 4 => ("LitreFractionsModel", "units", "[I", true)
  | 5 => ("LitreFractionsModel", "rows", "[I", true)
  | 6 => ("LitreFractionsModel", "xs", "[J", true)
  | 7 => ("LitreFractionsModel", "ys", "[J", true)
  | 8 => ("LitreFractionsModel", "belows", "[J", true)
  | 9 => ("LitreFractionsModel", "weights", "I", false)
  | _ => ("LitreFractionsModel", "weight", "[J", true)
def tt_M : Nat → FieldType := fun k => match k with
  | 0 => .int
  | 1 => .int
  | 2 => .array .long
  | 3 => .array .long
  | 4 => .array .int
  | 5 => .array .int
  | 6 => .array .long
  | 7 => .array .long
  | 8 => .array .long
  | 9 => .int
  | _ => .array .long
theorem nn_M : ∀ a, a < 11 → ∀ b, b < 11 → a ≠ b → (F_M a).2.1 ≠ (F_M b).2.1 := by decide +kernel
theorem tt_M_ok : ∀ k, k < 11 → parseFieldDescriptor (F_M k).2.2.1 = some (tt_M k) := by decide +kernel
abbrev classes : List vw_C := [(R_T, F_T, 4), (R_X, F_X, 7), (R_M, F_M, 11)]
/-- the words of the tables that stay as they are, whatever is warmed -/
def WG : List Cond := lw_tbl.filter goodWord
theorem WG_ok : GoodIn lw_tbl WG := fun w h => ⟨(List.mem_filter.mp h).1, good_of_word (List.mem_filter.mp h).2⟩
theorem WG_at {w : Cond} (i : Nat) (h : lw_tbl[i]? = some w) (hg : goodWord w = true) : w ∈ WG := List.mem_filter.mpr ⟨List.mem_of_getElem? h, hg⟩
theorem wg_0 : (Cond.selects "LitreFractions" ({ cls := "LitreFractions", name := "isAmount", desc := "(I)Z" } : Jvm.MethodName) ({ cls := "LitreFractions", name := "isAmount", desc := "(I)Z" } : Jvm.MethodName)) ∈ WG := WG_at 0 rfl rfl
theorem wg_1 : (Cond.selects "LitreFractions" ({ cls := "LitreFractions", name := "keep", desc := "(JJI)I" } : Jvm.MethodName) ({ cls := "LitreFractions", name := "keep", desc := "(JJI)I" } : Jvm.MethodName)) ∈ WG := WG_at 1 rfl rfl
theorem wg_2 : (Cond.selects "LitreFractions" ({ cls := "LitreFractions", name := "tableAt", desc := "(I)LLitreFractions$Table;" } : Jvm.MethodName) ({ cls := "LitreFractions", name := "tableAt", desc := "(I)LLitreFractions$Table;" } : Jvm.MethodName)) ∈ WG := WG_at 2 rfl rfl
theorem wg_3 : (Cond.selects "LitreFractions$Table" ({ cls := "LitreFractions$Table", name := "takes", desc := "(JJJ)Z" } : Jvm.MethodName) ({ cls := "LitreFractions$Table", name := "takes", desc := "(JJJ)Z" } : Jvm.MethodName)) ∈ WG := WG_at 3 rfl rfl
theorem wg_4 : (Cond.selects "LitreFractions$Table" ({ cls := "LitreFractions$Table", name := "append", desc := "(JJJ)V" } : Jvm.MethodName) ({ cls := "LitreFractions$Table", name := "append", desc := "(JJJ)V" } : Jvm.MethodName)) ∈ WG := WG_at 4 rfl rfl
theorem wg_5 : (Cond.selects "LitreFractions$Table" ({ cls := "LitreFractions$Table", name := "firstNotBefore", desc := "(JJ)I" } : Jvm.MethodName) ({ cls := "LitreFractions$Table", name := "firstNotBefore", desc := "(JJ)I" } : Jvm.MethodName)) ∈ WG := WG_at 5 rfl rfl
theorem wg_6 : (Cond.selects "LitreFractions" ({ cls := "LitreFractions", name := "keepBetween", desc := "(LLitreFractions$Table;II)I" } : Jvm.MethodName) ({ cls := "LitreFractions", name := "keepBetween", desc := "(LLitreFractions$Table;II)I" } : Jvm.MethodName)) ∈ WG := WG_at 6 rfl rfl
theorem wg_7 : (Cond.selects "LitreFractions" ({ cls := "LitreFractions", name := "sumOfWeights", desc := "()J" } : Jvm.MethodName) ({ cls := "LitreFractions", name := "sumOfWeights", desc := "()J" } : Jvm.MethodName)) ∈ WG := WG_at 7 rfl rfl
theorem wg_8 : (Cond.selects "LitreFractions" ({ cls := "LitreFractions", name := "thousandthsOf", desc := "(IJJ)J" } : Jvm.MethodName) ({ cls := "LitreFractions", name := "thousandthsOf", desc := "(IJJ)J" } : Jvm.MethodName)) ∈ WG := WG_at 8 rfl rfl
theorem wg_9 : (Cond.selects "java/lang/Throwable" ({ cls := "java/lang/Throwable", name := "fillInStackTrace", desc := "(I)Ljava/lang/Throwable;" } : Jvm.MethodName) ({ cls := "java/lang/Throwable", name := "fillInStackTrace", desc := "(I)Ljava/lang/Throwable;" } : Jvm.MethodName)) ∈ WG := WG_at 9 rfl rfl
theorem wg_10 : (Cond.selects "LitreFractionsModel" ({ cls := "LitreFractionsModel", name := "make", desc := "(JJI)I" } : Jvm.MethodName) ({ cls := "LitreFractionsModel", name := "make", desc := "(JJI)I" } : Jvm.MethodName)) ∈ WG := WG_at 10 rfl rfl
theorem wg_11 : (Cond.selects "LitreFractionsModel" ({ cls := "LitreFractionsModel", name := "isAmount", desc := "(I)Z" } : Jvm.MethodName) ({ cls := "LitreFractionsModel", name := "isAmount", desc := "(I)Z" } : Jvm.MethodName)) ∈ WG := WG_at 11 rfl rfl
theorem wg_12 : (Cond.initialized "LitreFractionsLaw") ∈ WG := WG_at 12 rfl rfl
theorem wg_13 : (Cond.initialized "LitreFractions") ∈ WG := WG_at 13 rfl rfl
theorem wg_14 : (Cond.initialized "LitreFractions$Table") ∈ WG := WG_at 14 rfl rfl
theorem wg_15 : (Cond.initialized "LitreFractionsModel") ∈ WG := WG_at 15 rfl rfl
theorem wg_16 : (Cond.initialized "java/lang/Throwable") ∈ WG := WG_at 16 rfl rfl
theorem wg_17 : (Cond.initialized "java/lang/Exception") ∈ WG := WG_at 17 rfl rfl
theorem wg_18 : (Cond.initialized "java/lang/RuntimeException") ∈ WG := WG_at 18 rfl rfl
theorem wg_19 : (Cond.initialized "java/lang/ArithmeticException") ∈ WG := WG_at 19 rfl rfl
theorem wg_20 : (Cond.initialized "java/lang/Math") ∈ WG := WG_at 20 rfl rfl
theorem wg_21 : (Cond.initialized "java/lang/Long") ∈ WG := WG_at 21 rfl rfl
theorem wg_22 : (Cond.initialized "java/lang/IndexOutOfBoundsException") ∈ WG := WG_at 22 rfl rfl
theorem wg_23 : (Cond.classLink "LitreFractionsLaw" (8 : Nat) "LitreFractions") ∈ WG := WG_at 23 rfl rfl
theorem wg_24 : (Cond.instantiable "LitreFractions" (7 : Nat)) ∈ WG := WG_at 24 rfl rfl
theorem wg_25 : (Cond.methodLink "LitreFractionsLaw" (25 : Nat) ({ cls := "LitreFractions", name := "<init>", desc := "()V" } : Jvm.MethodName)) ∈ WG := WG_at 25 rfl rfl
theorem wg_26 : (Cond.instanceMethod ({ cls := "LitreFractions", name := "<init>", desc := "()V" } : Jvm.MethodName)) ∈ WG := WG_at 26 rfl rfl
theorem wg_27 : (Cond.code ({ cls := "LitreFractions", name := "<init>", desc := "()V" } : Jvm.MethodName) prog_1_method_1_code (2 : Nat) (Option.none : Option Jvm.ClassFile.FieldType)) ∈ WG := WG_at 27 rfl rfl
theorem wg_28 : (Cond.methodLink "LitreFractions" (1 : Nat) ({ cls := "java/lang/Object", name := "<init>", desc := "()V" } : Jvm.MethodName)) ∈ WG := WG_at 28 rfl rfl
theorem wg_29 : (Cond.instanceMethod ({ cls := "java/lang/Object", name := "<init>", desc := "()V" } : Jvm.MethodName)) ∈ WG := WG_at 29 rfl rfl
theorem wg_30 : (Cond.code ({ cls := "java/lang/Object", name := "<init>", desc := "()V" } : Jvm.MethodName) object_method_1_code (1 : Nat) (Option.none : Option Jvm.ClassFile.FieldType)) ∈ WG := WG_at 30 rfl rfl
theorem wg_31 : (Cond.classLink "LitreFractions" (23 : Nat) "LitreFractions$Table") ∈ WG := WG_at 31 rfl rfl
theorem wg_32 : (Cond.instantiable "LitreFractions$Table" (4 : Nat)) ∈ WG := WG_at 33 rfl rfl
theorem wg_33 : (Cond.instanceMethod ({ cls := "LitreFractions$Table", name := "<init>", desc := "()V" } : Jvm.MethodName)) ∈ WG := WG_at 35 rfl rfl
theorem wg_34 : (Cond.code ({ cls := "LitreFractions$Table", name := "<init>", desc := "()V" } : Jvm.MethodName) prog_2_method_1_code (1 : Nat) (Option.none : Option Jvm.ClassFile.FieldType)) ∈ WG := WG_at 36 rfl rfl
theorem wg_35 : (Cond.methodLink "LitreFractions$Table" (3 : Nat) ({ cls := "java/lang/Object", name := "<init>", desc := "()V" } : Jvm.MethodName)) ∈ WG := WG_at 37 rfl rfl
theorem wg_36 : (Cond.fieldLink "LitreFractions$Table" (9 : Nat) "LitreFractions$Table" "xs" "[J") ∈ WG := WG_at 38 rfl rfl
theorem wg_37 : (Cond.fieldLink "LitreFractions$Table" (15 : Nat) "LitreFractions$Table" "ys" "[J") ∈ WG := WG_at 40 rfl rfl
theorem wg_38 : (Cond.fieldLink "LitreFractions$Table" (28 : Nat) "LitreFractions$Table" "below" "J") ∈ WG := WG_at 42 rfl rfl
theorem wg_39 : (Cond.fieldLink "LitreFractions$Table" (18 : Nat) "LitreFractions$Table" "count" "I") ∈ WG := WG_at 44 rfl rfl
theorem wg_40 : (Cond.laysFinal "LitreFractions$Table" "LitreFractions$Table" "xs" "[J") ∈ WG := WG_at 46 rfl rfl
theorem wg_41 : (Cond.laysFinal "LitreFractions$Table" "LitreFractions$Table" "ys" "[J") ∈ WG := WG_at 48 rfl rfl
theorem wg_42 : (Cond.lays "LitreFractions$Table" "LitreFractions$Table" "below" "J") ∈ WG := WG_at 50 rfl rfl
theorem wg_43 : (Cond.lays "LitreFractions$Table" "LitreFractions$Table" "count" "I") ∈ WG := WG_at 52 rfl rfl
theorem wg_44 : (Cond.arrayClass Jvm.ClassFile.FieldType.long) ∈ WG := WG_at 55 rfl rfl
theorem wg_45 : (Cond.arrayClass Jvm.ClassFile.FieldType.int) ∈ WG := WG_at 56 rfl rfl
theorem wg_46 : (Cond.fieldLink "LitreFractions" (9 : Nat) "LitreFractions" "aboves" "[J") ∈ WG := WG_at 57 rfl rfl
theorem wg_47 : (Cond.fieldLink "LitreFractions" (13 : Nat) "LitreFractions" "belows" "[J") ∈ WG := WG_at 58 rfl rfl
theorem wg_48 : (Cond.fieldLink "LitreFractions" (16 : Nat) "LitreFractions" "units" "[I") ∈ WG := WG_at 59 rfl rfl
theorem wg_49 : (Cond.fieldLink "LitreFractions" (137 : Nat) "LitreFractions" "amountCount" "I") ∈ WG := WG_at 60 rfl rfl
theorem wg_50 : (Cond.fieldLink "LitreFractions" (20 : Nat) "LitreFractions" "weights" "[J") ∈ WG := WG_at 61 rfl rfl
theorem wg_51 : (Cond.fieldLink "LitreFractions" (104 : Nat) "LitreFractions" "weightCount" "I") ∈ WG := WG_at 62 rfl rfl
theorem wg_52 : (Cond.fieldLink "LitreFractions" (25 : Nat) "LitreFractions" "tables" "[LLitreFractions$Table;") ∈ WG := WG_at 63 rfl rfl
theorem wg_53 : (Cond.laysFinal "LitreFractions" "LitreFractions" "aboves" "[J") ∈ WG := WG_at 64 rfl rfl
theorem wg_54 : (Cond.laysFinal "LitreFractions" "LitreFractions" "belows" "[J") ∈ WG := WG_at 66 rfl rfl
theorem wg_55 : (Cond.laysFinal "LitreFractions" "LitreFractions" "units" "[I") ∈ WG := WG_at 68 rfl rfl
theorem wg_56 : (Cond.lays "LitreFractions" "LitreFractions" "amountCount" "I") ∈ WG := WG_at 70 rfl rfl
theorem wg_57 : (Cond.laysFinal "LitreFractions" "LitreFractions" "weights" "[J") ∈ WG := WG_at 72 rfl rfl
theorem wg_58 : (Cond.lays "LitreFractions" "LitreFractions" "weightCount" "I") ∈ WG := WG_at 74 rfl rfl
theorem wg_59 : (Cond.laysFinal "LitreFractions" "LitreFractions" "tables" "[LLitreFractions$Table;") ∈ WG := WG_at 76 rfl rfl
theorem wg_60 : (Cond.methodLink "LitreFractionsLaw" (41 : Nat) ({ cls := "LitreFractions", name := "add", desc := "(II)I" } : Jvm.MethodName)) ∈ WG := WG_at 79 rfl rfl
theorem wg_61 : (Cond.instanceMethod ({ cls := "LitreFractions", name := "add", desc := "(II)I" } : Jvm.MethodName)) ∈ WG := WG_at 80 rfl rfl
theorem wg_62 : (Cond.selects "LitreFractions" ({ cls := "LitreFractions", name := "add", desc := "(II)I" } : Jvm.MethodName) ({ cls := "LitreFractions", name := "add", desc := "(II)I" } : Jvm.MethodName)) ∈ WG := WG_at 81 rfl rfl
theorem wg_63 : (Cond.code ({ cls := "LitreFractions", name := "add", desc := "(II)I" } : Jvm.MethodName) prog_1_method_3_code (3 : Nat) (Option.some Jvm.ClassFile.FieldType.int)) ∈ WG := WG_at 82 rfl rfl
theorem wg_64 : (Cond.methodLink "LitreFractions" (45 : Nat) ({ cls := "LitreFractions", name := "isAmount", desc := "(I)Z" } : Jvm.MethodName)) ∈ WG := WG_at 83 rfl rfl
theorem wg_65 : (Cond.instanceMethod ({ cls := "LitreFractions", name := "isAmount", desc := "(I)Z" } : Jvm.MethodName)) ∈ WG := WG_at 85 rfl rfl
theorem wg_66 : (Cond.code ({ cls := "LitreFractions", name := "isAmount", desc := "(I)Z" } : Jvm.MethodName) prog_1_method_15_code (2 : Nat) (Option.some Jvm.ClassFile.FieldType.boolean)) ∈ WG := WG_at 86 rfl rfl
theorem wg_67 : (Cond.methodLink "LitreFractions" (41 : Nat) ({ cls := "LitreFractions", name := "keep", desc := "(JJI)I" } : Jvm.MethodName)) ∈ WG := WG_at 87 rfl rfl
theorem wg_68 : (Cond.instanceMethod ({ cls := "LitreFractions", name := "keep", desc := "(JJI)I" } : Jvm.MethodName)) ∈ WG := WG_at 89 rfl rfl
theorem wg_69 : (Cond.code ({ cls := "LitreFractions", name := "keep", desc := "(JJI)I" } : Jvm.MethodName) prog_1_method_18_code (14 : Nat) (Option.some Jvm.ClassFile.FieldType.int)) ∈ WG := WG_at 90 rfl rfl
theorem wg_70 : (Cond.methodLink "LitreFractions" (144 : Nat) ({ cls := "LitreFractions", name := "commonDivisor", desc := "(JJ)J" } : Jvm.MethodName)) ∈ WG := WG_at 91 rfl rfl
theorem wg_71 : (Cond.static ({ cls := "LitreFractions", name := "commonDivisor", desc := "(JJ)J" } : Jvm.MethodName)) ∈ WG := WG_at 92 rfl rfl
theorem wg_72 : (Cond.code ({ cls := "LitreFractions", name := "commonDivisor", desc := "(JJ)J" } : Jvm.MethodName) prog_1_method_19_code (11 : Nat) (Option.some Jvm.ClassFile.FieldType.long)) ∈ WG := WG_at 93 rfl rfl
theorem wg_73 : (Cond.methodLink "LitreFractions" (117 : Nat) ({ cls := "java/lang/Math", name := "abs", desc := "(J)J" } : Jvm.MethodName)) ∈ WG := WG_at 94 rfl rfl
theorem wg_74 : (Cond.static ({ cls := "java/lang/Math", name := "abs", desc := "(J)J" } : Jvm.MethodName)) ∈ WG := WG_at 95 rfl rfl
theorem wg_75 : (Cond.code ({ cls := "java/lang/Math", name := "abs", desc := "(J)J" } : Jvm.MethodName) prog_9_method_61_code (2 : Nat) (Option.some Jvm.ClassFile.FieldType.long)) ∈ WG := WG_at 96 rfl rfl
theorem wg_76 : (Cond.constantLong "LitreFractions" (147 : Nat) (-2147483647 : Int64)) ∈ WG := WG_at 97 rfl rfl
theorem wg_77 : (Cond.constantLong "LitreFractions" (149 : Nat) (2147483647 : Int64)) ∈ WG := WG_at 98 rfl rfl
theorem wg_78 : (Cond.methodLink "LitreFractionsLaw" (45 : Nat) ({ cls := "LitreFractions", name := "times", desc := "(II)I" } : Jvm.MethodName)) ∈ WG := WG_at 99 rfl rfl
theorem wg_79 : (Cond.instanceMethod ({ cls := "LitreFractions", name := "times", desc := "(II)I" } : Jvm.MethodName)) ∈ WG := WG_at 100 rfl rfl
theorem wg_80 : (Cond.selects "LitreFractions" ({ cls := "LitreFractions", name := "times", desc := "(II)I" } : Jvm.MethodName) ({ cls := "LitreFractions", name := "times", desc := "(II)I" } : Jvm.MethodName)) ∈ WG := WG_at 101 rfl rfl
theorem wg_81 : (Cond.code ({ cls := "LitreFractions", name := "times", desc := "(II)I" } : Jvm.MethodName) prog_1_method_4_code (4 : Nat) (Option.some Jvm.ClassFile.FieldType.int)) ∈ WG := WG_at 102 rfl rfl
theorem wg_82 : (Cond.methodLink "LitreFractions" (49 : Nat) ({ cls := "LitreFractions", name := "unitOfProduct", desc := "(II)I" } : Jvm.MethodName)) ∈ WG := WG_at 103 rfl rfl
theorem wg_83 : (Cond.static ({ cls := "LitreFractions", name := "unitOfProduct", desc := "(II)I" } : Jvm.MethodName)) ∈ WG := WG_at 104 rfl rfl
theorem wg_84 : (Cond.code ({ cls := "LitreFractions", name := "unitOfProduct", desc := "(II)I" } : Jvm.MethodName) prog_1_method_22_code (2 : Nat) (Option.some Jvm.ClassFile.FieldType.int)) ∈ WG := WG_at 105 rfl rfl
theorem wg_85 : (Cond.methodLink "LitreFractions" (157 : Nat) ({ cls := "LitreFractions", name := "isShareOf", desc := "(II)Z" } : Jvm.MethodName)) ∈ WG := WG_at 106 rfl rfl
theorem wg_86 : (Cond.static ({ cls := "LitreFractions", name := "isShareOf", desc := "(II)Z" } : Jvm.MethodName)) ∈ WG := WG_at 107 rfl rfl
theorem wg_87 : (Cond.code ({ cls := "LitreFractions", name := "isShareOf", desc := "(II)Z" } : Jvm.MethodName) prog_1_method_24_code (2 : Nat) (Option.some Jvm.ClassFile.FieldType.boolean)) ∈ WG := WG_at 108 rfl rfl
theorem wg_88 : (Cond.methodLink "LitreFractionsLaw" (53 : Nat) ({ cls := "LitreFractions", name := "round", desc := "(IIJ)I" } : Jvm.MethodName)) ∈ WG := WG_at 109 rfl rfl
theorem wg_89 : (Cond.instanceMethod ({ cls := "LitreFractions", name := "round", desc := "(IIJ)I" } : Jvm.MethodName)) ∈ WG := WG_at 110 rfl rfl
theorem wg_90 : (Cond.selects "LitreFractions" ({ cls := "LitreFractions", name := "round", desc := "(IIJ)I" } : Jvm.MethodName) ({ cls := "LitreFractions", name := "round", desc := "(IIJ)I" } : Jvm.MethodName)) ∈ WG := WG_at 111 rfl rfl
theorem wg_91 : (Cond.code ({ cls := "LitreFractions", name := "round", desc := "(IIJ)I" } : Jvm.MethodName) prog_1_method_6_code (13 : Nat) (Option.some Jvm.ClassFile.FieldType.int)) ∈ WG := WG_at 112 rfl rfl
theorem wg_92 : (Cond.constantLong "LitreFractions" (58 : Nat) (1000000000 : Int64)) ∈ WG := WG_at 113 rfl rfl
theorem wg_93 : (Cond.methodLink "LitreFractions" (60 : Nat) ({ cls := "LitreFractions", name := "quotientDown", desc := "(JJ)J" } : Jvm.MethodName)) ∈ WG := WG_at 114 rfl rfl
theorem wg_94 : (Cond.static ({ cls := "LitreFractions", name := "quotientDown", desc := "(JJ)J" } : Jvm.MethodName)) ∈ WG := WG_at 115 rfl rfl
theorem wg_95 : (Cond.code ({ cls := "LitreFractions", name := "quotientDown", desc := "(JJ)J" } : Jvm.MethodName) prog_1_method_20_code (4 : Nat) (Option.some Jvm.ClassFile.FieldType.long)) ∈ WG := WG_at 116 rfl rfl
theorem wg_96 : (Cond.methodLink "LitreFractions" (151 : Nat) ({ cls := "java/lang/Math", name := "floorDiv", desc := "(JJ)J" } : Jvm.MethodName)) ∈ WG := WG_at 117 rfl rfl
theorem wg_97 : (Cond.static ({ cls := "java/lang/Math", name := "floorDiv", desc := "(JJ)J" } : Jvm.MethodName)) ∈ WG := WG_at 118 rfl rfl
theorem wg_98 : (Cond.code ({ cls := "java/lang/Math", name := "floorDiv", desc := "(JJ)J" } : Jvm.MethodName) prog_9_method_49_code (6 : Nat) (Option.some Jvm.ClassFile.FieldType.long)) ∈ WG := WG_at 119 rfl rfl
theorem wg_99 : (Cond.methodLink "LitreFractions" (64 : Nat) ({ cls := "LitreFractions", name := "restOf", desc := "(JJ)J" } : Jvm.MethodName)) ∈ WG := WG_at 120 rfl rfl
theorem wg_100 : (Cond.static ({ cls := "LitreFractions", name := "restOf", desc := "(JJ)J" } : Jvm.MethodName)) ∈ WG := WG_at 121 rfl rfl
theorem wg_101 : (Cond.code ({ cls := "LitreFractions", name := "restOf", desc := "(JJ)J" } : Jvm.MethodName) prog_1_method_21_code (4 : Nat) (Option.some Jvm.ClassFile.FieldType.long)) ∈ WG := WG_at 122 rfl rfl
theorem wg_102 : (Cond.methodLink "LitreFractions" (154 : Nat) ({ cls := "java/lang/Math", name := "floorMod", desc := "(JJ)J" } : Jvm.MethodName)) ∈ WG := WG_at 123 rfl rfl
theorem wg_103 : (Cond.static ({ cls := "java/lang/Math", name := "floorMod", desc := "(JJ)J" } : Jvm.MethodName)) ∈ WG := WG_at 124 rfl rfl
theorem wg_104 : (Cond.code ({ cls := "java/lang/Math", name := "floorMod", desc := "(JJ)J" } : Jvm.MethodName) prog_9_method_52_code (6 : Nat) (Option.some Jvm.ClassFile.FieldType.long)) ∈ WG := WG_at 125 rfl rfl
theorem wg_105 : (Cond.methodLink "LitreFractions" (67 : Nat) ({ cls := "LitreFractions", name := "goesUp", desc := "(IJJJ)Z" } : Jvm.MethodName)) ∈ WG := WG_at 126 rfl rfl
theorem wg_106 : (Cond.static ({ cls := "LitreFractions", name := "goesUp", desc := "(IJJJ)Z" } : Jvm.MethodName)) ∈ WG := WG_at 127 rfl rfl
theorem wg_107 : (Cond.code ({ cls := "LitreFractions", name := "goesUp", desc := "(IJJJ)Z" } : Jvm.MethodName) prog_1_method_25_code (8 : Nat) (Option.some Jvm.ClassFile.FieldType.boolean)) ∈ WG := WG_at 128 rfl rfl
theorem wg_108 : (Cond.constantLong "LitreFractions" (161 : Nat) (2 : Int64)) ∈ WG := WG_at 129 rfl rfl
theorem wg_109 : (Cond.methodLink "LitreFractions" (163 : Nat) ({ cls := "java/lang/Long", name := "compare", desc := "(JJ)I" } : Jvm.MethodName)) ∈ WG := WG_at 130 rfl rfl
theorem wg_110 : (Cond.static ({ cls := "java/lang/Long", name := "compare", desc := "(JJ)I" } : Jvm.MethodName)) ∈ WG := WG_at 131 rfl rfl
theorem wg_111 : (Cond.code ({ cls := "java/lang/Long", name := "compare", desc := "(JJ)I" } : Jvm.MethodName) prog_8_method_42_code (4 : Nat) (Option.some Jvm.ClassFile.FieldType.int)) ∈ WG := WG_at 132 rfl rfl
theorem wg_112 : (Cond.methodLink "LitreFractionsLaw" (58 : Nat) ({ cls := "LitreFractions", name := "order", desc := "(II)I" } : Jvm.MethodName)) ∈ WG := WG_at 133 rfl rfl
theorem wg_113 : (Cond.instanceMethod ({ cls := "LitreFractions", name := "order", desc := "(II)I" } : Jvm.MethodName)) ∈ WG := WG_at 134 rfl rfl
theorem wg_114 : (Cond.selects "LitreFractions" ({ cls := "LitreFractions", name := "order", desc := "(II)I" } : Jvm.MethodName) ({ cls := "LitreFractions", name := "order", desc := "(II)I" } : Jvm.MethodName)) ∈ WG := WG_at 135 rfl rfl
theorem wg_115 : (Cond.code ({ cls := "LitreFractions", name := "order", desc := "(II)I" } : Jvm.MethodName) prog_1_method_7_code (7 : Nat) (Option.some Jvm.ClassFile.FieldType.int)) ∈ WG := WG_at 136 rfl rfl
theorem wg_116 : (Cond.methodLink "LitreFractionsLaw" (62 : Nat) ({ cls := "LitreFractions", name := "row", desc := "(IJJJ)Z" } : Jvm.MethodName)) ∈ WG := WG_at 137 rfl rfl
theorem wg_117 : (Cond.instanceMethod ({ cls := "LitreFractions", name := "row", desc := "(IJJJ)Z" } : Jvm.MethodName)) ∈ WG := WG_at 138 rfl rfl
theorem wg_118 : (Cond.selects "LitreFractions" ({ cls := "LitreFractions", name := "row", desc := "(IJJJ)Z" } : Jvm.MethodName) ({ cls := "LitreFractions", name := "row", desc := "(IJJJ)Z" } : Jvm.MethodName)) ∈ WG := WG_at 139 rfl rfl
theorem wg_119 : (Cond.code ({ cls := "LitreFractions", name := "row", desc := "(IJJJ)Z" } : Jvm.MethodName) prog_1_method_8_code (9 : Nat) (Option.some Jvm.ClassFile.FieldType.boolean)) ∈ WG := WG_at 140 rfl rfl
theorem wg_120 : (Cond.methodLink "LitreFractions" (71 : Nat) ({ cls := "LitreFractions", name := "tableAt", desc := "(I)LLitreFractions$Table;" } : Jvm.MethodName)) ∈ WG := WG_at 141 rfl rfl
theorem wg_121 : (Cond.instanceMethod ({ cls := "LitreFractions", name := "tableAt", desc := "(I)LLitreFractions$Table;" } : Jvm.MethodName)) ∈ WG := WG_at 143 rfl rfl
theorem wg_122 : (Cond.code ({ cls := "LitreFractions", name := "tableAt", desc := "(I)LLitreFractions$Table;" } : Jvm.MethodName) prog_1_method_16_code (2 : Nat) (Option.some (Jvm.ClassFile.FieldType.object "LitreFractions$Table"))) ∈ WG := WG_at 144 rfl rfl
theorem wg_123 : (Cond.instanceMethod ({ cls := "LitreFractions$Table", name := "takes", desc := "(JJJ)Z" } : Jvm.MethodName)) ∈ WG := WG_at 147 rfl rfl
theorem wg_124 : (Cond.code ({ cls := "LitreFractions$Table", name := "takes", desc := "(JJJ)Z" } : Jvm.MethodName) prog_2_method_2_code (7 : Nat) (Option.some Jvm.ClassFile.FieldType.boolean)) ∈ WG := WG_at 148 rfl rfl
theorem wg_125 : (Cond.constantLong "LitreFractions$Table" (22 : Nat) (100 : Int64)) ∈ WG := WG_at 149 rfl rfl
theorem wg_126 : (Cond.methodLink "LitreFractions$Table" (24 : Nat) ({ cls := "LitreFractions$Table", name := "isInside", desc := "(J)Z" } : Jvm.MethodName)) ∈ WG := WG_at 150 rfl rfl
theorem wg_127 : (Cond.static ({ cls := "LitreFractions$Table", name := "isInside", desc := "(J)Z" } : Jvm.MethodName)) ∈ WG := WG_at 151 rfl rfl
theorem wg_128 : (Cond.code ({ cls := "LitreFractions$Table", name := "isInside", desc := "(J)Z" } : Jvm.MethodName) prog_2_method_3_code (2 : Nat) (Option.some Jvm.ClassFile.FieldType.boolean)) ∈ WG := WG_at 152 rfl rfl
theorem wg_129 : (Cond.constantLong "LitreFractions$Table" (32 : Nat) (-10000 : Int64)) ∈ WG := WG_at 153 rfl rfl
theorem wg_130 : (Cond.constantLong "LitreFractions$Table" (34 : Nat) (10000 : Int64)) ∈ WG := WG_at 154 rfl rfl
theorem wg_131 : (Cond.instanceMethod ({ cls := "LitreFractions$Table", name := "append", desc := "(JJJ)V" } : Jvm.MethodName)) ∈ WG := WG_at 157 rfl rfl
theorem wg_132 : (Cond.code ({ cls := "LitreFractions$Table", name := "append", desc := "(JJJ)V" } : Jvm.MethodName) prog_2_method_4_code (7 : Nat) (Option.none : Option Jvm.ClassFile.FieldType)) ∈ WG := WG_at 158 rfl rfl
theorem wg_133 : (Cond.methodLink "LitreFractionsLaw" (67 : Nat) ({ cls := "LitreFractions", name := "join", desc := "(II)I" } : Jvm.MethodName)) ∈ WG := WG_at 159 rfl rfl
theorem wg_134 : (Cond.instanceMethod ({ cls := "LitreFractions", name := "join", desc := "(II)I" } : Jvm.MethodName)) ∈ WG := WG_at 160 rfl rfl
theorem wg_135 : (Cond.selects "LitreFractions" ({ cls := "LitreFractions", name := "join", desc := "(II)I" } : Jvm.MethodName) ({ cls := "LitreFractions", name := "join", desc := "(II)I" } : Jvm.MethodName)) ∈ WG := WG_at 161 rfl rfl
theorem wg_136 : (Cond.code ({ cls := "LitreFractions", name := "join", desc := "(II)I" } : Jvm.MethodName) prog_1_method_9_code (5 : Nat) (Option.some Jvm.ClassFile.FieldType.int)) ∈ WG := WG_at 162 rfl rfl
theorem wg_137 : (Cond.instanceMethod ({ cls := "LitreFractions$Table", name := "firstNotBefore", desc := "(JJ)I" } : Jvm.MethodName)) ∈ WG := WG_at 165 rfl rfl
theorem wg_138 : (Cond.code ({ cls := "LitreFractions$Table", name := "firstNotBefore", desc := "(JJ)I" } : Jvm.MethodName) prog_2_method_5_code (8 : Nat) (Option.some Jvm.ClassFile.FieldType.int)) ∈ WG := WG_at 166 rfl rfl
theorem wg_139 : (Cond.methodLink "LitreFractions" (98 : Nat) ({ cls := "LitreFractions", name := "keepBetween", desc := "(LLitreFractions$Table;II)I" } : Jvm.MethodName)) ∈ WG := WG_at 167 rfl rfl
theorem wg_140 : (Cond.instanceMethod ({ cls := "LitreFractions", name := "keepBetween", desc := "(LLitreFractions$Table;II)I" } : Jvm.MethodName)) ∈ WG := WG_at 169 rfl rfl
theorem wg_141 : (Cond.code ({ cls := "LitreFractions", name := "keepBetween", desc := "(LLitreFractions$Table;II)I" } : Jvm.MethodName) prog_1_method_26_code (12 : Nat) (Option.some Jvm.ClassFile.FieldType.int)) ∈ WG := WG_at 170 rfl rfl
theorem wg_142 : (Cond.methodLink "LitreFractionsLaw" (71 : Nat) ({ cls := "LitreFractions", name := "weight", desc := "(J)Z" } : Jvm.MethodName)) ∈ WG := WG_at 171 rfl rfl
theorem wg_143 : (Cond.instanceMethod ({ cls := "LitreFractions", name := "weight", desc := "(J)Z" } : Jvm.MethodName)) ∈ WG := WG_at 172 rfl rfl
theorem wg_144 : (Cond.selects "LitreFractions" ({ cls := "LitreFractions", name := "weight", desc := "(J)Z" } : Jvm.MethodName) ({ cls := "LitreFractions", name := "weight", desc := "(J)Z" } : Jvm.MethodName)) ∈ WG := WG_at 173 rfl rfl
theorem wg_145 : (Cond.code ({ cls := "LitreFractions", name := "weight", desc := "(J)Z" } : Jvm.MethodName) prog_1_method_10_code (3 : Nat) (Option.some Jvm.ClassFile.FieldType.boolean)) ∈ WG := WG_at 174 rfl rfl
theorem wg_146 : (Cond.constantLong "LitreFractions" (102 : Nat) (1000000 : Int64)) ∈ WG := WG_at 175 rfl rfl
theorem wg_147 : (Cond.methodLink "LitreFractionsLaw" (76 : Nat) ({ cls := "LitreFractions", name := "share", desc := "(II)I" } : Jvm.MethodName)) ∈ WG := WG_at 176 rfl rfl
theorem wg_148 : (Cond.instanceMethod ({ cls := "LitreFractions", name := "share", desc := "(II)I" } : Jvm.MethodName)) ∈ WG := WG_at 177 rfl rfl
theorem wg_149 : (Cond.selects "LitreFractions" ({ cls := "LitreFractions", name := "share", desc := "(II)I" } : Jvm.MethodName) ({ cls := "LitreFractions", name := "share", desc := "(II)I" } : Jvm.MethodName)) ∈ WG := WG_at 178 rfl rfl
theorem wg_150 : (Cond.code ({ cls := "LitreFractions", name := "share", desc := "(II)I" } : Jvm.MethodName) prog_1_method_11_code (11 : Nat) (Option.some Jvm.ClassFile.FieldType.int)) ∈ WG := WG_at 179 rfl rfl
theorem wg_151 : (Cond.methodLink "LitreFractions" (107 : Nat) ({ cls := "LitreFractions", name := "sumOfWeights", desc := "()J" } : Jvm.MethodName)) ∈ WG := WG_at 180 rfl rfl
theorem wg_152 : (Cond.instanceMethod ({ cls := "LitreFractions", name := "sumOfWeights", desc := "()J" } : Jvm.MethodName)) ∈ WG := WG_at 182 rfl rfl
theorem wg_153 : (Cond.code ({ cls := "LitreFractions", name := "sumOfWeights", desc := "()J" } : Jvm.MethodName) prog_1_method_27_code (4 : Nat) (Option.some Jvm.ClassFile.FieldType.long)) ∈ WG := WG_at 183 rfl rfl
theorem wg_154 : (Cond.constantLong "LitreFractions" (111 : Nat) (1000 : Int64)) ∈ WG := WG_at 184 rfl rfl
theorem wg_155 : (Cond.methodLink "LitreFractions" (113 : Nat) ({ cls := "LitreFractions", name := "thousandthsOf", desc := "(IJJ)J" } : Jvm.MethodName)) ∈ WG := WG_at 185 rfl rfl
theorem wg_156 : (Cond.instanceMethod ({ cls := "LitreFractions", name := "thousandthsOf", desc := "(IJJ)J" } : Jvm.MethodName)) ∈ WG := WG_at 187 rfl rfl
theorem wg_157 : (Cond.code ({ cls := "LitreFractions", name := "thousandthsOf", desc := "(IJJ)J" } : Jvm.MethodName) prog_1_method_28_code (18 : Nat) (Option.some Jvm.ClassFile.FieldType.long)) ∈ WG := WG_at 188 rfl rfl
theorem wg_158 : (Cond.methodLink "LitreFractionsLaw" (84 : Nat) ({ cls := "LitreFractions", name := "told", desc := "(II)J" } : Jvm.MethodName)) ∈ WG := WG_at 189 rfl rfl
theorem wg_159 : (Cond.instanceMethod ({ cls := "LitreFractions", name := "told", desc := "(II)J" } : Jvm.MethodName)) ∈ WG := WG_at 190 rfl rfl
theorem wg_160 : (Cond.selects "LitreFractions" ({ cls := "LitreFractions", name := "told", desc := "(II)J" } : Jvm.MethodName) ({ cls := "LitreFractions", name := "told", desc := "(II)J" } : Jvm.MethodName)) ∈ WG := WG_at 191 rfl rfl
theorem wg_161 : (Cond.code ({ cls := "LitreFractions", name := "told", desc := "(II)J" } : Jvm.MethodName) prog_1_method_13_code (4 : Nat) (Option.some Jvm.ClassFile.FieldType.long)) ∈ WG := WG_at 192 rfl rfl
theorem wg_162 : (Cond.constantLong "LitreFractions" (135 : Nat) (-9 : Int64)) ∈ WG := WG_at 193 rfl rfl
theorem wg_163 : (Cond.methodLink "LitreFractionsLaw" (89 : Nat) ({ cls := "LitreFractions", name := "clear", desc := "()V" } : Jvm.MethodName)) ∈ WG := WG_at 194 rfl rfl
theorem wg_164 : (Cond.instanceMethod ({ cls := "LitreFractions", name := "clear", desc := "()V" } : Jvm.MethodName)) ∈ WG := WG_at 195 rfl rfl
theorem wg_165 : (Cond.selects "LitreFractions" ({ cls := "LitreFractions", name := "clear", desc := "()V" } : Jvm.MethodName) ({ cls := "LitreFractions", name := "clear", desc := "()V" } : Jvm.MethodName)) ∈ WG := WG_at 196 rfl rfl
theorem wg_166 : (Cond.code ({ cls := "LitreFractions", name := "clear", desc := "()V" } : Jvm.MethodName) prog_1_method_14_code (3 : Nat) (Option.none : Option Jvm.ClassFile.FieldType)) ∈ WG := WG_at 197 rfl rfl
theorem wg_167 : (Cond.methodLink "LitreFractionsLaw" (31 : Nat) ({ cls := "LitreFractionsLaw", name := "value", desc := "(LLitreFractions;JJI[J)I" } : Jvm.MethodName)) ∈ WG := WG_at 198 rfl rfl
theorem wg_168 : (Cond.static ({ cls := "LitreFractionsLaw", name := "value", desc := "(LLitreFractions;JJI[J)I" } : Jvm.MethodName)) ∈ WG := WG_at 199 rfl rfl
theorem wg_169 : (Cond.classLink "LitreFractionsLaw" (13 : Nat) "java/lang/ArithmeticException") ∈ WG := WG_at 201 rfl rfl
theorem wg_170 : (Cond.methodLink "LitreFractionsLaw" (7 : Nat) ({ cls := "LitreFractions", name := "value", desc := "(JJI)I" } : Jvm.MethodName)) ∈ WG := WG_at 202 rfl rfl
theorem wg_171 : (Cond.instanceMethod ({ cls := "LitreFractions", name := "value", desc := "(JJI)I" } : Jvm.MethodName)) ∈ WG := WG_at 203 rfl rfl
theorem wg_172 : (Cond.selects "LitreFractions" ({ cls := "LitreFractions", name := "value", desc := "(JJI)I" } : Jvm.MethodName) ({ cls := "LitreFractions", name := "value", desc := "(JJI)I" } : Jvm.MethodName)) ∈ WG := WG_at 204 rfl rfl
theorem wg_173 : (Cond.code ({ cls := "LitreFractions", name := "value", desc := "(JJI)I" } : Jvm.MethodName) prog_1_method_2_code (6 : Nat) (Option.some Jvm.ClassFile.FieldType.int)) ∈ WG := WG_at 205 rfl rfl
theorem wg_174 : (Cond.classLink "LitreFractions" (30 : Nat) "java/lang/ArithmeticException") ∈ WG := WG_at 206 rfl rfl
theorem wg_175 : (Cond.instantiable "java/lang/ArithmeticException" (6 : Nat)) ∈ WG := WG_at 207 rfl rfl
theorem wg_176 : (Cond.selects "java/lang/ArithmeticException" ({ cls := "java/lang/Throwable", name := "fillInStackTrace", desc := "(I)Ljava/lang/Throwable;" } : Jvm.MethodName) ({ cls := "java/lang/Throwable", name := "fillInStackTrace", desc := "(I)Ljava/lang/Throwable;" } : Jvm.MethodName)) ∈ WG := WG_at 215 rfl rfl
theorem wg_177 : (Cond.selects "java/lang/ArithmeticException" ({ cls := "java/lang/Throwable", name := "fillInStackTrace", desc := "()Ljava/lang/Throwable;" } : Jvm.MethodName) ({ cls := "java/lang/Throwable", name := "fillInStackTrace", desc := "()Ljava/lang/Throwable;" } : Jvm.MethodName)) ∈ WG := WG_at 216 rfl rfl
theorem wg_178 : (Cond.lays "java/lang/ArithmeticException" "java/lang/Throwable" "cause" "Ljava/lang/Throwable;") ∈ WG := WG_at 217 rfl rfl
theorem wg_179 : (Cond.lays "java/lang/Throwable" "java/lang/Throwable" "cause" "Ljava/lang/Throwable;") ∈ WG := WG_at 218 rfl rfl
theorem wg_180 : (Cond.lays "java/lang/ArithmeticException" "java/lang/Throwable" "stackTrace" "[Ljava/lang/StackTraceElement;") ∈ WG := WG_at 219 rfl rfl
theorem wg_181 : (Cond.lays "java/lang/Throwable" "java/lang/Throwable" "stackTrace" "[Ljava/lang/StackTraceElement;") ∈ WG := WG_at 220 rfl rfl
theorem wg_182 : (Cond.lays "java/lang/ArithmeticException" "java/lang/Throwable" "suppressedExceptions" "Ljava/util/List;") ∈ WG := WG_at 221 rfl rfl
theorem wg_183 : (Cond.lays "java/lang/Throwable" "java/lang/Throwable" "suppressedExceptions" "Ljava/util/List;") ∈ WG := WG_at 222 rfl rfl
theorem wg_184 : (Cond.lays "java/lang/ArithmeticException" "java/lang/Throwable" "detailMessage" "Ljava/lang/String;") ∈ WG := WG_at 223 rfl rfl
theorem wg_185 : (Cond.lays "java/lang/Throwable" "java/lang/Throwable" "detailMessage" "Ljava/lang/String;") ∈ WG := WG_at 224 rfl rfl
theorem wg_186 : (Cond.lays "java/lang/ArithmeticException" "java/lang/Throwable" "backtrace" "Ljava/lang/Object;") ∈ WG := WG_at 225 rfl rfl
theorem wg_187 : (Cond.lays "java/lang/Throwable" "java/lang/Throwable" "backtrace" "Ljava/lang/Object;") ∈ WG := WG_at 226 rfl rfl
theorem wg_188 : (Cond.fieldLink "java/lang/Throwable" (198 : Nat) "java/lang/Throwable" "backtrace" "Ljava/lang/Object;") ∈ WG := WG_at 227 rfl rfl
theorem wg_189 : (Cond.instanceMethod ({ cls := "java/lang/Throwable", name := "<init>", desc := "()V" } : Jvm.MethodName)) ∈ WG := WG_at 229 rfl rfl
theorem wg_190 : (Cond.code ({ cls := "java/lang/Throwable", name := "<init>", desc := "()V" } : Jvm.MethodName) prog_12_method_1_code (1 : Nat) (Option.none : Option Jvm.ClassFile.FieldType)) ∈ WG := WG_at 230 rfl rfl
theorem wg_191 : (Cond.methodLink "java/lang/Throwable" (1 : Nat) ({ cls := "java/lang/Object", name := "<init>", desc := "()V" } : Jvm.MethodName)) ∈ WG := WG_at 231 rfl rfl
theorem wg_192 : (Cond.fieldLink "java/lang/Throwable" (13 : Nat) "java/lang/Throwable" "UNASSIGNED_STACK" "[Ljava/lang/StackTraceElement;") ∈ WG := WG_at 232 rfl rfl
theorem wg_193 : (Cond.fieldLink "java/lang/Throwable" (20 : Nat) "java/lang/Throwable" "SUPPRESSED_SENTINEL" "Ljava/util/List;") ∈ WG := WG_at 234 rfl rfl
theorem wg_194 : (Cond.methodLink "java/lang/Throwable" (27 : Nat) ({ cls := "java/lang/Throwable", name := "fillInStackTrace", desc := "()Ljava/lang/Throwable;" } : Jvm.MethodName)) ∈ WG := WG_at 236 rfl rfl
theorem wg_195 : (Cond.instanceMethod ({ cls := "java/lang/Throwable", name := "fillInStackTrace", desc := "()Ljava/lang/Throwable;" } : Jvm.MethodName)) ∈ WG := WG_at 237 rfl rfl
theorem wg_196 : (Cond.selects "java/lang/IndexOutOfBoundsException" ({ cls := "java/lang/Throwable", name := "fillInStackTrace", desc := "()Ljava/lang/Throwable;" } : Jvm.MethodName) ({ cls := "java/lang/Throwable", name := "fillInStackTrace", desc := "()Ljava/lang/Throwable;" } : Jvm.MethodName)) ∈ WG := WG_at 239 rfl rfl
theorem wg_197 : (Cond.methodLink "java/lang/Throwable" (202 : Nat) ({ cls := "java/lang/Throwable", name := "fillInStackTrace", desc := "(I)Ljava/lang/Throwable;" } : Jvm.MethodName)) ∈ WG := WG_at 241 rfl rfl
theorem wg_198 : (Cond.instanceMethod ({ cls := "java/lang/Throwable", name := "fillInStackTrace", desc := "(I)Ljava/lang/Throwable;" } : Jvm.MethodName)) ∈ WG := WG_at 243 rfl rfl
theorem wg_199 : (Cond.instantiable "java/lang/Throwable" (6 : Nat)) ∈ WG := WG_at 244 rfl rfl
theorem wg_200 : (Cond.methodLink "LitreFractions" (34 : Nat) ({ cls := "java/lang/ArithmeticException", name := "<init>", desc := "(Ljava/lang/String;)V" } : Jvm.MethodName)) ∈ WG := WG_at 247 rfl rfl
theorem wg_201 : (Cond.instanceMethod ({ cls := "java/lang/ArithmeticException", name := "<init>", desc := "(Ljava/lang/String;)V" } : Jvm.MethodName)) ∈ WG := WG_at 248 rfl rfl
theorem wg_202 : (Cond.code ({ cls := "java/lang/ArithmeticException", name := "<init>", desc := "(Ljava/lang/String;)V" } : Jvm.MethodName) prog_5_method_2_code (2 : Nat) (Option.none : Option Jvm.ClassFile.FieldType)) ∈ WG := WG_at 249 rfl rfl
theorem wg_203 : (Cond.methodLink "java/lang/ArithmeticException" (7 : Nat) ({ cls := "java/lang/RuntimeException", name := "<init>", desc := "(Ljava/lang/String;)V" } : Jvm.MethodName)) ∈ WG := WG_at 250 rfl rfl
theorem wg_204 : (Cond.instanceMethod ({ cls := "java/lang/RuntimeException", name := "<init>", desc := "(Ljava/lang/String;)V" } : Jvm.MethodName)) ∈ WG := WG_at 251 rfl rfl
theorem wg_205 : (Cond.code ({ cls := "java/lang/RuntimeException", name := "<init>", desc := "(Ljava/lang/String;)V" } : Jvm.MethodName) prog_10_method_2_code (2 : Nat) (Option.none : Option Jvm.ClassFile.FieldType)) ∈ WG := WG_at 252 rfl rfl
theorem wg_206 : (Cond.methodLink "java/lang/RuntimeException" (7 : Nat) ({ cls := "java/lang/Exception", name := "<init>", desc := "(Ljava/lang/String;)V" } : Jvm.MethodName)) ∈ WG := WG_at 253 rfl rfl
theorem wg_207 : (Cond.instanceMethod ({ cls := "java/lang/Exception", name := "<init>", desc := "(Ljava/lang/String;)V" } : Jvm.MethodName)) ∈ WG := WG_at 254 rfl rfl
theorem wg_208 : (Cond.code ({ cls := "java/lang/Exception", name := "<init>", desc := "(Ljava/lang/String;)V" } : Jvm.MethodName) prog_6_method_2_code (2 : Nat) (Option.none : Option Jvm.ClassFile.FieldType)) ∈ WG := WG_at 255 rfl rfl
theorem wg_209 : (Cond.methodLink "java/lang/Exception" (7 : Nat) ({ cls := "java/lang/Throwable", name := "<init>", desc := "(Ljava/lang/String;)V" } : Jvm.MethodName)) ∈ WG := WG_at 256 rfl rfl
theorem wg_210 : (Cond.instanceMethod ({ cls := "java/lang/Throwable", name := "<init>", desc := "(Ljava/lang/String;)V" } : Jvm.MethodName)) ∈ WG := WG_at 257 rfl rfl
theorem wg_211 : (Cond.code ({ cls := "java/lang/Throwable", name := "<init>", desc := "(Ljava/lang/String;)V" } : Jvm.MethodName) prog_12_method_2_code (2 : Nat) (Option.none : Option Jvm.ClassFile.FieldType)) ∈ WG := WG_at 258 rfl rfl
theorem wg_212 : (Cond.fieldLink "java/lang/Throwable" (198 : Nat) "java/lang/Throwable" "backtrace" "Ljava/lang/Object;") ∈ WG := WG_at 259 rfl rfl
theorem wg_213 : (Cond.fieldLink "java/lang/Throwable" (31 : Nat) "java/lang/Throwable" "detailMessage" "Ljava/lang/String;") ∈ WG := WG_at 260 rfl rfl
theorem wg_214 : (Cond.fieldLink "java/lang/Throwable" (7 : Nat) "java/lang/Throwable" "cause" "Ljava/lang/Throwable;") ∈ WG := WG_at 261 rfl rfl
theorem wg_215 : (Cond.fieldLink "java/lang/Throwable" (17 : Nat) "java/lang/Throwable" "stackTrace" "[Ljava/lang/StackTraceElement;") ∈ WG := WG_at 262 rfl rfl
theorem wg_216 : (Cond.fieldLink "java/lang/Throwable" (24 : Nat) "java/lang/Throwable" "suppressedExceptions" "Ljava/util/List;") ∈ WG := WG_at 263 rfl rfl
theorem wg_217 : (Cond.lays "java/lang/ArithmeticException" "java/lang/Throwable" "depth" "I") ∈ WG := WG_at 268 rfl rfl
theorem wg_218 : (Cond.arrayClass Jvm.ClassFile.FieldType.byte) ∈ WG := WG_at 272 rfl rfl
theorem wg_219 : (Cond.methodLink "LitreFractions" (37 : Nat) ({ cls := "LitreFractions", name := "isTooFar", desc := "(J)Z" } : Jvm.MethodName)) ∈ WG := WG_at 273 rfl rfl
theorem wg_220 : (Cond.static ({ cls := "LitreFractions", name := "isTooFar", desc := "(J)Z" } : Jvm.MethodName)) ∈ WG := WG_at 274 rfl rfl
theorem wg_221 : (Cond.code ({ cls := "LitreFractions", name := "isTooFar", desc := "(J)Z" } : Jvm.MethodName) prog_1_method_17_code (2 : Nat) (Option.some Jvm.ClassFile.FieldType.boolean)) ∈ WG := WG_at 275 rfl rfl
theorem wg_222 : (Cond.constantLong "LitreFractions" (140 : Nat) (-1000000000000000000 : Int64)) ∈ WG := WG_at 276 rfl rfl
theorem wg_223 : (Cond.constantLong "LitreFractions" (142 : Nat) (1000000000000000000 : Int64)) ∈ WG := WG_at 277 rfl rfl
theorem wg_224 : (Cond.methodLink "LitreFractionsLaw" (49 : Nat) ({ cls := "LitreFractionsLaw", name := "over", desc := "(LLitreFractions;II[J)I" } : Jvm.MethodName)) ∈ WG := WG_at 278 rfl rfl
theorem wg_225 : (Cond.static ({ cls := "LitreFractionsLaw", name := "over", desc := "(LLitreFractions;II[J)I" } : Jvm.MethodName)) ∈ WG := WG_at 279 rfl rfl
theorem wg_226 : (Cond.methodLink "LitreFractionsLaw" (15 : Nat) ({ cls := "LitreFractions", name := "over", desc := "(II)I" } : Jvm.MethodName)) ∈ WG := WG_at 281 rfl rfl
theorem wg_227 : (Cond.instanceMethod ({ cls := "LitreFractions", name := "over", desc := "(II)I" } : Jvm.MethodName)) ∈ WG := WG_at 282 rfl rfl
theorem wg_228 : (Cond.selects "LitreFractions" ({ cls := "LitreFractions", name := "over", desc := "(II)I" } : Jvm.MethodName) ({ cls := "LitreFractions", name := "over", desc := "(II)I" } : Jvm.MethodName)) ∈ WG := WG_at 283 rfl rfl
theorem wg_229 : (Cond.code ({ cls := "LitreFractions", name := "over", desc := "(II)I" } : Jvm.MethodName) prog_1_method_5_code (4 : Nat) (Option.some Jvm.ClassFile.FieldType.int)) ∈ WG := WG_at 284 rfl rfl
theorem wg_230 : (Cond.methodLink "LitreFractions" (53 : Nat) ({ cls := "LitreFractions", name := "unitOfQuotient", desc := "(II)I" } : Jvm.MethodName)) ∈ WG := WG_at 285 rfl rfl
theorem wg_231 : (Cond.static ({ cls := "LitreFractions", name := "unitOfQuotient", desc := "(II)I" } : Jvm.MethodName)) ∈ WG := WG_at 286 rfl rfl
theorem wg_232 : (Cond.code ({ cls := "LitreFractions", name := "unitOfQuotient", desc := "(II)I" } : Jvm.MethodName) prog_1_method_23_code (2 : Nat) (Option.some Jvm.ClassFile.FieldType.int)) ∈ WG := WG_at 287 rfl rfl
theorem wg_233 : (Cond.methodLink "LitreFractionsLaw" (80 : Nat) ({ cls := "LitreFractionsLaw", name := "digit", desc := "(LLitreFractions;III[J)I" } : Jvm.MethodName)) ∈ WG := WG_at 289 rfl rfl
theorem wg_234 : (Cond.static ({ cls := "LitreFractionsLaw", name := "digit", desc := "(LLitreFractions;III[J)I" } : Jvm.MethodName)) ∈ WG := WG_at 290 rfl rfl
theorem wg_235 : (Cond.classLink "LitreFractionsLaw" (23 : Nat) "java/lang/IndexOutOfBoundsException") ∈ WG := WG_at 292 rfl rfl
theorem wg_236 : (Cond.methodLink "LitreFractionsLaw" (19 : Nat) ({ cls := "LitreFractions", name := "digit", desc := "(III)I" } : Jvm.MethodName)) ∈ WG := WG_at 293 rfl rfl
theorem wg_237 : (Cond.instanceMethod ({ cls := "LitreFractions", name := "digit", desc := "(III)I" } : Jvm.MethodName)) ∈ WG := WG_at 294 rfl rfl
theorem wg_238 : (Cond.selects "LitreFractions" ({ cls := "LitreFractions", name := "digit", desc := "(III)I" } : Jvm.MethodName) ({ cls := "LitreFractions", name := "digit", desc := "(III)I" } : Jvm.MethodName)) ∈ WG := WG_at 295 rfl rfl
theorem wg_239 : (Cond.code ({ cls := "LitreFractions", name := "digit", desc := "(III)I" } : Jvm.MethodName) prog_1_method_12_code (9 : Nat) (Option.some Jvm.ClassFile.FieldType.int)) ∈ WG := WG_at 296 rfl rfl
theorem wg_240 : (Cond.methodLink "LitreFractions" (123 : Nat) ({ cls := "LitreFractions", name := "digitBefore", desc := "(JI)I" } : Jvm.MethodName)) ∈ WG := WG_at 297 rfl rfl
theorem wg_241 : (Cond.static ({ cls := "LitreFractions", name := "digitBefore", desc := "(JI)I" } : Jvm.MethodName)) ∈ WG := WG_at 298 rfl rfl
theorem wg_242 : (Cond.code ({ cls := "LitreFractions", name := "digitBefore", desc := "(JI)I" } : Jvm.MethodName) prog_1_method_29_code (6 : Nat) (Option.some Jvm.ClassFile.FieldType.int)) ∈ WG := WG_at 299 rfl rfl
theorem wg_243 : (Cond.constantLong "LitreFractions" (171 : Nat) (10 : Int64)) ∈ WG := WG_at 300 rfl rfl
theorem wg_244 : (Cond.methodLink "LitreFractions" (127 : Nat) ({ cls := "LitreFractions", name := "digitBehind", desc := "(JJI)I" } : Jvm.MethodName)) ∈ WG := WG_at 301 rfl rfl
theorem wg_245 : (Cond.static ({ cls := "LitreFractions", name := "digitBehind", desc := "(JJI)I" } : Jvm.MethodName)) ∈ WG := WG_at 302 rfl rfl
theorem wg_246 : (Cond.code ({ cls := "LitreFractions", name := "digitBehind", desc := "(JJI)I" } : Jvm.MethodName) prog_1_method_30_code (8 : Nat) (Option.some Jvm.ClassFile.FieldType.int)) ∈ WG := WG_at 303 rfl rfl
theorem wg_247 : (Cond.classLink "LitreFractions" (130 : Nat) "java/lang/IndexOutOfBoundsException") ∈ WG := WG_at 304 rfl rfl
theorem wg_248 : (Cond.instantiable "java/lang/IndexOutOfBoundsException" (6 : Nat)) ∈ WG := WG_at 305 rfl rfl
theorem wg_249 : (Cond.selects "java/lang/IndexOutOfBoundsException" ({ cls := "java/lang/Throwable", name := "fillInStackTrace", desc := "(I)Ljava/lang/Throwable;" } : Jvm.MethodName) ({ cls := "java/lang/Throwable", name := "fillInStackTrace", desc := "(I)Ljava/lang/Throwable;" } : Jvm.MethodName)) ∈ WG := WG_at 307 rfl rfl
theorem wg_250 : (Cond.lays "java/lang/IndexOutOfBoundsException" "java/lang/Throwable" "cause" "Ljava/lang/Throwable;") ∈ WG := WG_at 308 rfl rfl
theorem wg_251 : (Cond.lays "java/lang/IndexOutOfBoundsException" "java/lang/Throwable" "stackTrace" "[Ljava/lang/StackTraceElement;") ∈ WG := WG_at 309 rfl rfl
theorem wg_252 : (Cond.lays "java/lang/IndexOutOfBoundsException" "java/lang/Throwable" "suppressedExceptions" "Ljava/util/List;") ∈ WG := WG_at 310 rfl rfl
theorem wg_253 : (Cond.lays "java/lang/IndexOutOfBoundsException" "java/lang/Throwable" "detailMessage" "Ljava/lang/String;") ∈ WG := WG_at 311 rfl rfl
theorem wg_254 : (Cond.lays "java/lang/IndexOutOfBoundsException" "java/lang/Throwable" "backtrace" "Ljava/lang/Object;") ∈ WG := WG_at 312 rfl rfl
theorem wg_255 : (Cond.methodLink "LitreFractions" (134 : Nat) ({ cls := "java/lang/IndexOutOfBoundsException", name := "<init>", desc := "(Ljava/lang/String;)V" } : Jvm.MethodName)) ∈ WG := WG_at 314 rfl rfl
theorem wg_256 : (Cond.instanceMethod ({ cls := "java/lang/IndexOutOfBoundsException", name := "<init>", desc := "(Ljava/lang/String;)V" } : Jvm.MethodName)) ∈ WG := WG_at 315 rfl rfl
theorem wg_257 : (Cond.code ({ cls := "java/lang/IndexOutOfBoundsException", name := "<init>", desc := "(Ljava/lang/String;)V" } : Jvm.MethodName) prog_7_method_2_code (2 : Nat) (Option.none : Option Jvm.ClassFile.FieldType)) ∈ WG := WG_at 316 rfl rfl
theorem wg_258 : (Cond.methodLink "java/lang/IndexOutOfBoundsException" (7 : Nat) ({ cls := "java/lang/RuntimeException", name := "<init>", desc := "(Ljava/lang/String;)V" } : Jvm.MethodName)) ∈ WG := WG_at 317 rfl rfl
theorem wg_259 : (Cond.lays "java/lang/IndexOutOfBoundsException" "java/lang/Throwable" "depth" "I") ∈ WG := WG_at 318 rfl rfl
theorem wg_260 : (Cond.classLink "LitreFractionsLaw" (26 : Nat) "LitreFractionsModel") ∈ WG := WG_at 320 rfl rfl
theorem wg_261 : (Cond.instantiable "LitreFractionsModel" (11 : Nat)) ∈ WG := WG_at 321 rfl rfl
theorem wg_262 : (Cond.methodLink "LitreFractionsLaw" (28 : Nat) ({ cls := "LitreFractionsModel", name := "<init>", desc := "()V" } : Jvm.MethodName)) ∈ WG := WG_at 322 rfl rfl
theorem wg_263 : (Cond.instanceMethod ({ cls := "LitreFractionsModel", name := "<init>", desc := "()V" } : Jvm.MethodName)) ∈ WG := WG_at 323 rfl rfl
theorem wg_264 : (Cond.code ({ cls := "LitreFractionsModel", name := "<init>", desc := "()V" } : Jvm.MethodName) prog_4_method_1_code (1 : Nat) (Option.none : Option Jvm.ClassFile.FieldType)) ∈ WG := WG_at 324 rfl rfl
theorem wg_265 : (Cond.methodLink "LitreFractionsModel" (1 : Nat) ({ cls := "java/lang/Object", name := "<init>", desc := "()V" } : Jvm.MethodName)) ∈ WG := WG_at 325 rfl rfl
theorem wg_266 : (Cond.fieldLink "LitreFractionsModel" (35 : Nat) "LitreFractionsModel" "code" "I") ∈ WG := WG_at 326 rfl rfl
theorem wg_267 : (Cond.fieldLink "LitreFractionsModel" (39 : Nat) "LitreFractionsModel" "amounts" "I") ∈ WG := WG_at 327 rfl rfl
theorem wg_268 : (Cond.fieldLink "LitreFractionsModel" (7 : Nat) "LitreFractionsModel" "up" "[J") ∈ WG := WG_at 328 rfl rfl
theorem wg_269 : (Cond.fieldLink "LitreFractionsModel" (13 : Nat) "LitreFractionsModel" "down" "[J") ∈ WG := WG_at 329 rfl rfl
theorem wg_270 : (Cond.fieldLink "LitreFractionsModel" (16 : Nat) "LitreFractionsModel" "units" "[I") ∈ WG := WG_at 330 rfl rfl
theorem wg_271 : (Cond.fieldLink "LitreFractionsModel" (20 : Nat) "LitreFractionsModel" "rows" "[I") ∈ WG := WG_at 331 rfl rfl
theorem wg_272 : (Cond.fieldLink "LitreFractionsModel" (23 : Nat) "LitreFractionsModel" "xs" "[J") ∈ WG := WG_at 332 rfl rfl
theorem wg_273 : (Cond.fieldLink "LitreFractionsModel" (26 : Nat) "LitreFractionsModel" "ys" "[J") ∈ WG := WG_at 333 rfl rfl
theorem wg_274 : (Cond.fieldLink "LitreFractionsModel" (29 : Nat) "LitreFractionsModel" "belows" "[J") ∈ WG := WG_at 334 rfl rfl
theorem wg_275 : (Cond.fieldLink "LitreFractionsModel" (84 : Nat) "LitreFractionsModel" "weights" "I") ∈ WG := WG_at 335 rfl rfl
theorem wg_276 : (Cond.fieldLink "LitreFractionsModel" (32 : Nat) "LitreFractionsModel" "weight" "[J") ∈ WG := WG_at 336 rfl rfl
theorem wg_277 : (Cond.lays "LitreFractionsModel" "LitreFractionsModel" "code" "I") ∈ WG := WG_at 337 rfl rfl
theorem wg_278 : (Cond.lays "LitreFractionsModel" "LitreFractionsModel" "amounts" "I") ∈ WG := WG_at 339 rfl rfl
theorem wg_279 : (Cond.laysFinal "LitreFractionsModel" "LitreFractionsModel" "up" "[J") ∈ WG := WG_at 341 rfl rfl
theorem wg_280 : (Cond.laysFinal "LitreFractionsModel" "LitreFractionsModel" "down" "[J") ∈ WG := WG_at 343 rfl rfl
theorem wg_281 : (Cond.laysFinal "LitreFractionsModel" "LitreFractionsModel" "units" "[I") ∈ WG := WG_at 345 rfl rfl
theorem wg_282 : (Cond.laysFinal "LitreFractionsModel" "LitreFractionsModel" "rows" "[I") ∈ WG := WG_at 347 rfl rfl
theorem wg_283 : (Cond.laysFinal "LitreFractionsModel" "LitreFractionsModel" "xs" "[J") ∈ WG := WG_at 349 rfl rfl
theorem wg_284 : (Cond.laysFinal "LitreFractionsModel" "LitreFractionsModel" "ys" "[J") ∈ WG := WG_at 351 rfl rfl
theorem wg_285 : (Cond.laysFinal "LitreFractionsModel" "LitreFractionsModel" "belows" "[J") ∈ WG := WG_at 353 rfl rfl
theorem wg_286 : (Cond.lays "LitreFractionsModel" "LitreFractionsModel" "weights" "I") ∈ WG := WG_at 355 rfl rfl
theorem wg_287 : (Cond.laysFinal "LitreFractionsModel" "LitreFractionsModel" "weight" "[J") ∈ WG := WG_at 357 rfl rfl
theorem wg_288 : (Cond.methodLink "LitreFractionsLaw" (37 : Nat) ({ cls := "LitreFractionsModel", name := "thrown", desc := "()I" } : Jvm.MethodName)) ∈ WG := WG_at 360 rfl rfl
theorem wg_289 : (Cond.instanceMethod ({ cls := "LitreFractionsModel", name := "thrown", desc := "()I" } : Jvm.MethodName)) ∈ WG := WG_at 361 rfl rfl
theorem wg_290 : (Cond.selects "LitreFractionsModel" ({ cls := "LitreFractionsModel", name := "thrown", desc := "()I" } : Jvm.MethodName) ({ cls := "LitreFractionsModel", name := "thrown", desc := "()I" } : Jvm.MethodName)) ∈ WG := WG_at 362 rfl rfl
theorem wg_291 : (Cond.code ({ cls := "LitreFractionsModel", name := "thrown", desc := "()I" } : Jvm.MethodName) prog_4_method_2_code (1 : Nat) (Option.some Jvm.ClassFile.FieldType.int)) ∈ WG := WG_at 363 rfl rfl
theorem wg_292 : (Cond.methodLink "LitreFractionsLaw" (36 : Nat) ({ cls := "LitreFractionsModel", name := "value", desc := "(JJI)I" } : Jvm.MethodName)) ∈ WG := WG_at 364 rfl rfl
theorem wg_293 : (Cond.instanceMethod ({ cls := "LitreFractionsModel", name := "value", desc := "(JJI)I" } : Jvm.MethodName)) ∈ WG := WG_at 365 rfl rfl
theorem wg_294 : (Cond.selects "LitreFractionsModel" ({ cls := "LitreFractionsModel", name := "value", desc := "(JJI)I" } : Jvm.MethodName) ({ cls := "LitreFractionsModel", name := "value", desc := "(JJI)I" } : Jvm.MethodName)) ∈ WG := WG_at 366 rfl rfl
theorem wg_295 : (Cond.code ({ cls := "LitreFractionsModel", name := "value", desc := "(JJI)I" } : Jvm.MethodName) prog_4_method_6_code (6 : Nat) (Option.some Jvm.ClassFile.FieldType.int)) ∈ WG := WG_at 367 rfl rfl
theorem wg_296 : (Cond.constantLong "LitreFractionsModel" (50 : Nat) (-1000000000000000000 : Int64)) ∈ WG := WG_at 368 rfl rfl
theorem wg_297 : (Cond.constantLong "LitreFractionsModel" (52 : Nat) (1000000000000000000 : Int64)) ∈ WG := WG_at 369 rfl rfl
theorem wg_298 : (Cond.methodLink "LitreFractionsModel" (54 : Nat) ({ cls := "LitreFractionsModel", name := "make", desc := "(JJI)I" } : Jvm.MethodName)) ∈ WG := WG_at 370 rfl rfl
theorem wg_299 : (Cond.instanceMethod ({ cls := "LitreFractionsModel", name := "make", desc := "(JJI)I" } : Jvm.MethodName)) ∈ WG := WG_at 372 rfl rfl
theorem wg_300 : (Cond.code ({ cls := "LitreFractionsModel", name := "make", desc := "(JJI)I" } : Jvm.MethodName) prog_4_method_5_code (12 : Nat) (Option.some Jvm.ClassFile.FieldType.int)) ∈ WG := WG_at 373 rfl rfl
theorem wg_301 : (Cond.methodLink "LitreFractionsModel" (42 : Nat) ({ cls := "LitreFractionsModel", name := "common", desc := "(JJ)J" } : Jvm.MethodName)) ∈ WG := WG_at 374 rfl rfl
theorem wg_302 : (Cond.static ({ cls := "LitreFractionsModel", name := "common", desc := "(JJ)J" } : Jvm.MethodName)) ∈ WG := WG_at 375 rfl rfl
theorem wg_303 : (Cond.code ({ cls := "LitreFractionsModel", name := "common", desc := "(JJ)J" } : Jvm.MethodName) prog_4_method_4_code (10 : Nat) (Option.some Jvm.ClassFile.FieldType.long)) ∈ WG := WG_at 376 rfl rfl
theorem wg_304 : (Cond.constantLong "LitreFractionsModel" (46 : Nat) (2147483647 : Int64)) ∈ WG := WG_at 377 rfl rfl
theorem wg_305 : (Cond.constantLong "LitreFractionsModel" (48 : Nat) (-2147483647 : Int64)) ∈ WG := WG_at 378 rfl rfl
theorem wg_306 : (Cond.methodLink "LitreFractionsLaw" (44 : Nat) ({ cls := "LitreFractionsModel", name := "add", desc := "(II)I" } : Jvm.MethodName)) ∈ WG := WG_at 379 rfl rfl
theorem wg_307 : (Cond.instanceMethod ({ cls := "LitreFractionsModel", name := "add", desc := "(II)I" } : Jvm.MethodName)) ∈ WG := WG_at 380 rfl rfl
theorem wg_308 : (Cond.selects "LitreFractionsModel" ({ cls := "LitreFractionsModel", name := "add", desc := "(II)I" } : Jvm.MethodName) ({ cls := "LitreFractionsModel", name := "add", desc := "(II)I" } : Jvm.MethodName)) ∈ WG := WG_at 381 rfl rfl
theorem wg_309 : (Cond.code ({ cls := "LitreFractionsModel", name := "add", desc := "(II)I" } : Jvm.MethodName) prog_4_method_7_code (3 : Nat) (Option.some Jvm.ClassFile.FieldType.int)) ∈ WG := WG_at 382 rfl rfl
theorem wg_310 : (Cond.methodLink "LitreFractionsModel" (58 : Nat) ({ cls := "LitreFractionsModel", name := "isAmount", desc := "(I)Z" } : Jvm.MethodName)) ∈ WG := WG_at 383 rfl rfl
theorem wg_311 : (Cond.instanceMethod ({ cls := "LitreFractionsModel", name := "isAmount", desc := "(I)Z" } : Jvm.MethodName)) ∈ WG := WG_at 385 rfl rfl
theorem wg_312 : (Cond.code ({ cls := "LitreFractionsModel", name := "isAmount", desc := "(I)Z" } : Jvm.MethodName) prog_4_method_3_code (2 : Nat) (Option.some Jvm.ClassFile.FieldType.boolean)) ∈ WG := WG_at 386 rfl rfl
theorem wg_313 : (Cond.methodLink "LitreFractionsLaw" (48 : Nat) ({ cls := "LitreFractionsModel", name := "times", desc := "(II)I" } : Jvm.MethodName)) ∈ WG := WG_at 387 rfl rfl
theorem wg_314 : (Cond.instanceMethod ({ cls := "LitreFractionsModel", name := "times", desc := "(II)I" } : Jvm.MethodName)) ∈ WG := WG_at 388 rfl rfl
theorem wg_315 : (Cond.selects "LitreFractionsModel" ({ cls := "LitreFractionsModel", name := "times", desc := "(II)I" } : Jvm.MethodName) ({ cls := "LitreFractionsModel", name := "times", desc := "(II)I" } : Jvm.MethodName)) ∈ WG := WG_at 389 rfl rfl
theorem wg_316 : (Cond.code ({ cls := "LitreFractionsModel", name := "times", desc := "(II)I" } : Jvm.MethodName) prog_4_method_9_code (6 : Nat) (Option.some Jvm.ClassFile.FieldType.int)) ∈ WG := WG_at 390 rfl rfl
theorem wg_317 : (Cond.methodLink "LitreFractionsModel" (62 : Nat) ({ cls := "LitreFractionsModel", name := "areTwo", desc := "(IIII)Z" } : Jvm.MethodName)) ∈ WG := WG_at 391 rfl rfl
theorem wg_318 : (Cond.static ({ cls := "LitreFractionsModel", name := "areTwo", desc := "(IIII)Z" } : Jvm.MethodName)) ∈ WG := WG_at 392 rfl rfl
theorem wg_319 : (Cond.code ({ cls := "LitreFractionsModel", name := "areTwo", desc := "(IIII)Z" } : Jvm.MethodName) prog_4_method_8_code (4 : Nat) (Option.some Jvm.ClassFile.FieldType.boolean)) ∈ WG := WG_at 393 rfl rfl
theorem wg_320 : (Cond.methodLink "LitreFractionsLaw" (52 : Nat) ({ cls := "LitreFractionsModel", name := "over", desc := "(II)I" } : Jvm.MethodName)) ∈ WG := WG_at 394 rfl rfl
theorem wg_321 : (Cond.instanceMethod ({ cls := "LitreFractionsModel", name := "over", desc := "(II)I" } : Jvm.MethodName)) ∈ WG := WG_at 395 rfl rfl
theorem wg_322 : (Cond.selects "LitreFractionsModel" ({ cls := "LitreFractionsModel", name := "over", desc := "(II)I" } : Jvm.MethodName) ({ cls := "LitreFractionsModel", name := "over", desc := "(II)I" } : Jvm.MethodName)) ∈ WG := WG_at 396 rfl rfl
theorem wg_323 : (Cond.code ({ cls := "LitreFractionsModel", name := "over", desc := "(II)I" } : Jvm.MethodName) prog_4_method_10_code (6 : Nat) (Option.some Jvm.ClassFile.FieldType.int)) ∈ WG := WG_at 397 rfl rfl
theorem wg_324 : (Cond.methodLink "LitreFractionsLaw" (57 : Nat) ({ cls := "LitreFractionsModel", name := "round", desc := "(IIJ)I" } : Jvm.MethodName)) ∈ WG := WG_at 398 rfl rfl
theorem wg_325 : (Cond.instanceMethod ({ cls := "LitreFractionsModel", name := "round", desc := "(IIJ)I" } : Jvm.MethodName)) ∈ WG := WG_at 399 rfl rfl
theorem wg_326 : (Cond.selects "LitreFractionsModel" ({ cls := "LitreFractionsModel", name := "round", desc := "(IIJ)I" } : Jvm.MethodName) ({ cls := "LitreFractionsModel", name := "round", desc := "(IIJ)I" } : Jvm.MethodName)) ∈ WG := WG_at 400 rfl rfl
theorem wg_327 : (Cond.code ({ cls := "LitreFractionsModel", name := "round", desc := "(IIJ)I" } : Jvm.MethodName) prog_4_method_12_code (11 : Nat) (Option.some Jvm.ClassFile.FieldType.int)) ∈ WG := WG_at 401 rfl rfl
theorem wg_328 : (Cond.constantLong "LitreFractionsModel" (68 : Nat) (1000000000 : Int64)) ∈ WG := WG_at 402 rfl rfl
theorem wg_329 : (Cond.methodLink "LitreFractionsModel" (70 : Nat) ({ cls := "LitreFractionsModel", name := "isUpper", desc := "(IJJJ)Z" } : Jvm.MethodName)) ∈ WG := WG_at 403 rfl rfl
theorem wg_330 : (Cond.static ({ cls := "LitreFractionsModel", name := "isUpper", desc := "(IJJJ)Z" } : Jvm.MethodName)) ∈ WG := WG_at 404 rfl rfl
theorem wg_331 : (Cond.code ({ cls := "LitreFractionsModel", name := "isUpper", desc := "(IJJJ)Z" } : Jvm.MethodName) prog_4_method_11_code (8 : Nat) (Option.some Jvm.ClassFile.FieldType.boolean)) ∈ WG := WG_at 405 rfl rfl
theorem wg_332 : (Cond.constantLong "LitreFractionsModel" (66 : Nat) (2 : Int64)) ∈ WG := WG_at 406 rfl rfl
theorem wg_333 : (Cond.methodLink "LitreFractionsLaw" (61 : Nat) ({ cls := "LitreFractionsModel", name := "order", desc := "(II)I" } : Jvm.MethodName)) ∈ WG := WG_at 407 rfl rfl
theorem wg_334 : (Cond.instanceMethod ({ cls := "LitreFractionsModel", name := "order", desc := "(II)I" } : Jvm.MethodName)) ∈ WG := WG_at 408 rfl rfl
theorem wg_335 : (Cond.selects "LitreFractionsModel" ({ cls := "LitreFractionsModel", name := "order", desc := "(II)I" } : Jvm.MethodName) ({ cls := "LitreFractionsModel", name := "order", desc := "(II)I" } : Jvm.MethodName)) ∈ WG := WG_at 409 rfl rfl
theorem wg_336 : (Cond.code ({ cls := "LitreFractionsModel", name := "order", desc := "(II)I" } : Jvm.MethodName) prog_4_method_13_code (5 : Nat) (Option.some Jvm.ClassFile.FieldType.int)) ∈ WG := WG_at 410 rfl rfl
theorem wg_337 : (Cond.methodLink "LitreFractionsLaw" (66 : Nat) ({ cls := "LitreFractionsModel", name := "row", desc := "(IJJJ)Z" } : Jvm.MethodName)) ∈ WG := WG_at 411 rfl rfl
theorem wg_338 : (Cond.instanceMethod ({ cls := "LitreFractionsModel", name := "row", desc := "(IJJJ)Z" } : Jvm.MethodName)) ∈ WG := WG_at 412 rfl rfl
theorem wg_339 : (Cond.selects "LitreFractionsModel" ({ cls := "LitreFractionsModel", name := "row", desc := "(IJJJ)Z" } : Jvm.MethodName) ({ cls := "LitreFractionsModel", name := "row", desc := "(IJJJ)Z" } : Jvm.MethodName)) ∈ WG := WG_at 413 rfl rfl
theorem wg_340 : (Cond.code ({ cls := "LitreFractionsModel", name := "row", desc := "(IJJJ)Z" } : Jvm.MethodName) prog_4_method_15_code (9 : Nat) (Option.some Jvm.ClassFile.FieldType.boolean)) ∈ WG := WG_at 414 rfl rfl
theorem wg_341 : (Cond.constantLong "LitreFractionsModel" (78 : Nat) (100 : Int64)) ∈ WG := WG_at 415 rfl rfl
theorem wg_342 : (Cond.methodLink "LitreFractionsModel" (80 : Nat) ({ cls := "LitreFractionsModel", name := "isNear", desc := "(J)Z" } : Jvm.MethodName)) ∈ WG := WG_at 416 rfl rfl
theorem wg_343 : (Cond.static ({ cls := "LitreFractionsModel", name := "isNear", desc := "(J)Z" } : Jvm.MethodName)) ∈ WG := WG_at 417 rfl rfl
theorem wg_344 : (Cond.code ({ cls := "LitreFractionsModel", name := "isNear", desc := "(J)Z" } : Jvm.MethodName) prog_4_method_14_code (2 : Nat) (Option.some Jvm.ClassFile.FieldType.boolean)) ∈ WG := WG_at 418 rfl rfl
theorem wg_345 : (Cond.constantLong "LitreFractionsModel" (74 : Nat) (-10000 : Int64)) ∈ WG := WG_at 419 rfl rfl
theorem wg_346 : (Cond.constantLong "LitreFractionsModel" (76 : Nat) (10000 : Int64)) ∈ WG := WG_at 420 rfl rfl
theorem wg_347 : (Cond.methodLink "LitreFractionsLaw" (70 : Nat) ({ cls := "LitreFractionsModel", name := "join", desc := "(II)I" } : Jvm.MethodName)) ∈ WG := WG_at 421 rfl rfl
theorem wg_348 : (Cond.instanceMethod ({ cls := "LitreFractionsModel", name := "join", desc := "(II)I" } : Jvm.MethodName)) ∈ WG := WG_at 422 rfl rfl
theorem wg_349 : (Cond.selects "LitreFractionsModel" ({ cls := "LitreFractionsModel", name := "join", desc := "(II)I" } : Jvm.MethodName) ({ cls := "LitreFractionsModel", name := "join", desc := "(II)I" } : Jvm.MethodName)) ∈ WG := WG_at 423 rfl rfl
theorem wg_350 : (Cond.code ({ cls := "LitreFractionsModel", name := "join", desc := "(II)I" } : Jvm.MethodName) prog_4_method_16_code (12 : Nat) (Option.some Jvm.ClassFile.FieldType.int)) ∈ WG := WG_at 424 rfl rfl
theorem wg_351 : (Cond.methodLink "LitreFractionsLaw" (75 : Nat) ({ cls := "LitreFractionsModel", name := "weight", desc := "(J)Z" } : Jvm.MethodName)) ∈ WG := WG_at 425 rfl rfl
theorem wg_352 : (Cond.instanceMethod ({ cls := "LitreFractionsModel", name := "weight", desc := "(J)Z" } : Jvm.MethodName)) ∈ WG := WG_at 426 rfl rfl
theorem wg_353 : (Cond.selects "LitreFractionsModel" ({ cls := "LitreFractionsModel", name := "weight", desc := "(J)Z" } : Jvm.MethodName) ({ cls := "LitreFractionsModel", name := "weight", desc := "(J)Z" } : Jvm.MethodName)) ∈ WG := WG_at 427 rfl rfl
theorem wg_354 : (Cond.code ({ cls := "LitreFractionsModel", name := "weight", desc := "(J)Z" } : Jvm.MethodName) prog_4_method_17_code (3 : Nat) (Option.some Jvm.ClassFile.FieldType.boolean)) ∈ WG := WG_at 428 rfl rfl
theorem wg_355 : (Cond.constantLong "LitreFractionsModel" (87 : Nat) (1000000 : Int64)) ∈ WG := WG_at 429 rfl rfl
theorem wg_356 : (Cond.methodLink "LitreFractionsLaw" (79 : Nat) ({ cls := "LitreFractionsModel", name := "share", desc := "(II)I" } : Jvm.MethodName)) ∈ WG := WG_at 430 rfl rfl
theorem wg_357 : (Cond.instanceMethod ({ cls := "LitreFractionsModel", name := "share", desc := "(II)I" } : Jvm.MethodName)) ∈ WG := WG_at 431 rfl rfl
theorem wg_358 : (Cond.selects "LitreFractionsModel" ({ cls := "LitreFractionsModel", name := "share", desc := "(II)I" } : Jvm.MethodName) ({ cls := "LitreFractionsModel", name := "share", desc := "(II)I" } : Jvm.MethodName)) ∈ WG := WG_at 432 rfl rfl
theorem wg_359 : (Cond.code ({ cls := "LitreFractionsModel", name := "share", desc := "(II)I" } : Jvm.MethodName) prog_4_method_18_code (17 : Nat) (Option.some Jvm.ClassFile.FieldType.int)) ∈ WG := WG_at 433 rfl rfl
theorem wg_360 : (Cond.constantLong "LitreFractionsModel" (89 : Nat) (1000 : Int64)) ∈ WG := WG_at 434 rfl rfl
theorem wg_361 : (Cond.methodLink "LitreFractionsLaw" (83 : Nat) ({ cls := "LitreFractionsModel", name := "digit", desc := "(III)I" } : Jvm.MethodName)) ∈ WG := WG_at 435 rfl rfl
theorem wg_362 : (Cond.instanceMethod ({ cls := "LitreFractionsModel", name := "digit", desc := "(III)I" } : Jvm.MethodName)) ∈ WG := WG_at 436 rfl rfl
theorem wg_363 : (Cond.selects "LitreFractionsModel" ({ cls := "LitreFractionsModel", name := "digit", desc := "(III)I" } : Jvm.MethodName) ({ cls := "LitreFractionsModel", name := "digit", desc := "(III)I" } : Jvm.MethodName)) ∈ WG := WG_at 437 rfl rfl
theorem wg_364 : (Cond.code ({ cls := "LitreFractionsModel", name := "digit", desc := "(III)I" } : Jvm.MethodName) prog_4_method_19_code (11 : Nat) (Option.some Jvm.ClassFile.FieldType.int)) ∈ WG := WG_at 438 rfl rfl
theorem wg_365 : (Cond.constantLong "LitreFractionsModel" (91 : Nat) (9 : Int64)) ∈ WG := WG_at 439 rfl rfl
theorem wg_366 : (Cond.constantLong "LitreFractionsModel" (93 : Nat) (10 : Int64)) ∈ WG := WG_at 440 rfl rfl
theorem wg_367 : (Cond.methodLink "LitreFractionsLaw" (88 : Nat) ({ cls := "LitreFractionsModel", name := "told", desc := "(II)J" } : Jvm.MethodName)) ∈ WG := WG_at 441 rfl rfl
theorem wg_368 : (Cond.instanceMethod ({ cls := "LitreFractionsModel", name := "told", desc := "(II)J" } : Jvm.MethodName)) ∈ WG := WG_at 442 rfl rfl
theorem wg_369 : (Cond.selects "LitreFractionsModel" ({ cls := "LitreFractionsModel", name := "told", desc := "(II)J" } : Jvm.MethodName) ({ cls := "LitreFractionsModel", name := "told", desc := "(II)J" } : Jvm.MethodName)) ∈ WG := WG_at 443 rfl rfl
theorem wg_370 : (Cond.code ({ cls := "LitreFractionsModel", name := "told", desc := "(II)J" } : Jvm.MethodName) prog_4_method_20_code (3 : Nat) (Option.some Jvm.ClassFile.FieldType.long)) ∈ WG := WG_at 444 rfl rfl
theorem wg_371 : (Cond.constantLong "LitreFractionsModel" (95 : Nat) (-9 : Int64)) ∈ WG := WG_at 445 rfl rfl
theorem wg_372 : (Cond.methodLink "LitreFractionsLaw" (92 : Nat) ({ cls := "LitreFractionsModel", name := "clear", desc := "()V" } : Jvm.MethodName)) ∈ WG := WG_at 446 rfl rfl
theorem wg_373 : (Cond.instanceMethod ({ cls := "LitreFractionsModel", name := "clear", desc := "()V" } : Jvm.MethodName)) ∈ WG := WG_at 447 rfl rfl
theorem wg_374 : (Cond.selects "LitreFractionsModel" ({ cls := "LitreFractionsModel", name := "clear", desc := "()V" } : Jvm.MethodName) ({ cls := "LitreFractionsModel", name := "clear", desc := "()V" } : Jvm.MethodName)) ∈ WG := WG_at 448 rfl rfl
theorem wg_375 : (Cond.code ({ cls := "LitreFractionsModel", name := "clear", desc := "()V" } : Jvm.MethodName) prog_4_method_21_code (2 : Nat) (Option.none : Option Jvm.ClassFile.FieldType)) ∈ WG := WG_at 449 rfl rfl
theorem wg_376 : (Cond.constantLong "LitreFractionsLaw" (29 : Nat) (4294967295 : Int64)) ∈ WG := WG_at 450 rfl rfl
theorem in_T : ∀ w ∈ u_ws R_T F_T 4, w ∈ WG := show ∀ w ∈ [(Cond.laysFinal "LitreFractions$Table" "LitreFractions$Table" "xs" "[J"), (Cond.laysFinal "LitreFractions$Table" "LitreFractions$Table" "ys" "[J"), (Cond.lays "LitreFractions$Table" "LitreFractions$Table" "below" "J"), (Cond.lays "LitreFractions$Table" "LitreFractions$Table" "count" "I")], w ∈ WG from List.forall_mem_cons.mpr ⟨wg_40, List.forall_mem_cons.mpr ⟨wg_41, List.forall_mem_cons.mpr ⟨wg_42, List.forall_mem_cons.mpr ⟨wg_43, fun _ h => absurd h List.not_mem_nil⟩⟩⟩⟩
theorem in_X : ∀ w ∈ u_ws R_X F_X 7, w ∈ WG := show ∀ w ∈ [(Cond.laysFinal "LitreFractions" "LitreFractions" "aboves" "[J"), (Cond.laysFinal "LitreFractions" "LitreFractions" "belows" "[J"), (Cond.laysFinal "LitreFractions" "LitreFractions" "units" "[I"), (Cond.lays "LitreFractions" "LitreFractions" "amountCount" "I"), (Cond.laysFinal "LitreFractions" "LitreFractions" "weights" "[J"), (Cond.lays "LitreFractions" "LitreFractions" "weightCount" "I"), (Cond.laysFinal "LitreFractions" "LitreFractions" "tables" "[LLitreFractions$Table;")], w ∈ WG from List.forall_mem_cons.mpr ⟨wg_53, List.forall_mem_cons.mpr ⟨wg_54, List.forall_mem_cons.mpr ⟨wg_55, List.forall_mem_cons.mpr ⟨wg_56, List.forall_mem_cons.mpr ⟨wg_57, List.forall_mem_cons.mpr ⟨wg_58, List.forall_mem_cons.mpr ⟨wg_59, fun _ h => absurd h List.not_mem_nil⟩⟩⟩⟩⟩⟩⟩
theorem in_M : ∀ w ∈ u_ws R_M F_M 11, w ∈ WG := show ∀ w ∈ [(Cond.lays "LitreFractionsModel" "LitreFractionsModel" "code" "I"), (Cond.lays "LitreFractionsModel" "LitreFractionsModel" "amounts" "I"), (Cond.laysFinal "LitreFractionsModel" "LitreFractionsModel" "up" "[J"), (Cond.laysFinal "LitreFractionsModel" "LitreFractionsModel" "down" "[J"), (Cond.laysFinal "LitreFractionsModel" "LitreFractionsModel" "units" "[I"), (Cond.laysFinal "LitreFractionsModel" "LitreFractionsModel" "rows" "[I"), (Cond.laysFinal "LitreFractionsModel" "LitreFractionsModel" "xs" "[J"), (Cond.laysFinal "LitreFractionsModel" "LitreFractionsModel" "ys" "[J"), (Cond.laysFinal "LitreFractionsModel" "LitreFractionsModel" "belows" "[J"), (Cond.lays "LitreFractionsModel" "LitreFractionsModel" "weights" "I"), (Cond.laysFinal "LitreFractionsModel" "LitreFractionsModel" "weight" "[J")], w ∈ WG from List.forall_mem_cons.mpr ⟨wg_277, List.forall_mem_cons.mpr ⟨wg_278, List.forall_mem_cons.mpr ⟨wg_279, List.forall_mem_cons.mpr ⟨wg_280, List.forall_mem_cons.mpr ⟨wg_281, List.forall_mem_cons.mpr ⟨wg_282, List.forall_mem_cons.mpr ⟨wg_283, List.forall_mem_cons.mpr ⟨wg_284, List.forall_mem_cons.mpr ⟨wg_285, List.forall_mem_cons.mpr ⟨wg_286, List.forall_mem_cons.mpr ⟨wg_287, fun _ h => absurd h List.not_mem_nil⟩⟩⟩⟩⟩⟩⟩⟩⟩⟩⟩
abbrev c_X_init : ByteArray := prog_1_method_1_code
abbrev y_X_init : MethodName := ⟨"LitreFractions", "<init>", "()V"⟩
abbrev w_X_init : List Cond := .code y_X_init c_X_init 2 (Option.none : Option Jvm.ClassFile.FieldType) :: WG
abbrev c_T_init : ByteArray := prog_2_method_1_code
abbrev y_T_init : MethodName := ⟨"LitreFractions$Table", "<init>", "()V"⟩
abbrev w_T_init : List Cond := .code y_T_init c_T_init 1 (Option.none : Option Jvm.ClassFile.FieldType) :: WG
abbrev c_X_add : ByteArray := prog_1_method_3_code
abbrev y_X_add : MethodName := ⟨"LitreFractions", "add", "(II)I"⟩
abbrev w_X_add : List Cond := .code y_X_add c_X_add 3 (Option.some Jvm.ClassFile.FieldType.int) :: WG
abbrev c_X_isAmount : ByteArray := prog_1_method_15_code
abbrev y_X_isAmount : MethodName := ⟨"LitreFractions", "isAmount", "(I)Z"⟩
abbrev w_X_isAmount : List Cond := .code y_X_isAmount c_X_isAmount 2 (Option.some Jvm.ClassFile.FieldType.boolean) :: WG
abbrev c_X_keep : ByteArray := prog_1_method_18_code
abbrev y_X_keep : MethodName := ⟨"LitreFractions", "keep", "(JJI)I"⟩
abbrev w_X_keep : List Cond := .code y_X_keep c_X_keep 14 (Option.some Jvm.ClassFile.FieldType.int) :: WG
abbrev c_X_commonDivisor : ByteArray := prog_1_method_19_code
abbrev y_X_commonDivisor : MethodName := ⟨"LitreFractions", "commonDivisor", "(JJ)J"⟩
abbrev w_X_commonDivisor : List Cond := .code y_X_commonDivisor c_X_commonDivisor 11 (Option.some Jvm.ClassFile.FieldType.long) :: WG
abbrev c_JM_abs : ByteArray := prog_9_method_61_code
abbrev y_JM_abs : MethodName := ⟨"java/lang/Math", "abs", "(J)J"⟩
abbrev w_JM_abs : List Cond := .code y_JM_abs c_JM_abs 2 (Option.some Jvm.ClassFile.FieldType.long) :: WG
abbrev c_X_times : ByteArray := prog_1_method_4_code
abbrev y_X_times : MethodName := ⟨"LitreFractions", "times", "(II)I"⟩
abbrev w_X_times : List Cond := .code y_X_times c_X_times 4 (Option.some Jvm.ClassFile.FieldType.int) :: WG
abbrev c_X_unitOfProduct : ByteArray := prog_1_method_22_code
abbrev y_X_unitOfProduct : MethodName := ⟨"LitreFractions", "unitOfProduct", "(II)I"⟩
abbrev w_X_unitOfProduct : List Cond := .code y_X_unitOfProduct c_X_unitOfProduct 2 (Option.some Jvm.ClassFile.FieldType.int) :: WG
abbrev c_X_isShareOf : ByteArray := prog_1_method_24_code
abbrev y_X_isShareOf : MethodName := ⟨"LitreFractions", "isShareOf", "(II)Z"⟩
abbrev w_X_isShareOf : List Cond := .code y_X_isShareOf c_X_isShareOf 2 (Option.some Jvm.ClassFile.FieldType.boolean) :: WG
abbrev c_X_round : ByteArray := prog_1_method_6_code
abbrev y_X_round : MethodName := ⟨"LitreFractions", "round", "(IIJ)I"⟩
abbrev w_X_round : List Cond := .code y_X_round c_X_round 13 (Option.some Jvm.ClassFile.FieldType.int) :: WG
abbrev c_X_quotientDown : ByteArray := prog_1_method_20_code
abbrev y_X_quotientDown : MethodName := ⟨"LitreFractions", "quotientDown", "(JJ)J"⟩
abbrev w_X_quotientDown : List Cond := .code y_X_quotientDown c_X_quotientDown 4 (Option.some Jvm.ClassFile.FieldType.long) :: WG
abbrev c_JM_floorDiv : ByteArray := prog_9_method_49_code
abbrev y_JM_floorDiv : MethodName := ⟨"java/lang/Math", "floorDiv", "(JJ)J"⟩
abbrev w_JM_floorDiv : List Cond := .code y_JM_floorDiv c_JM_floorDiv 6 (Option.some Jvm.ClassFile.FieldType.long) :: WG
abbrev c_X_restOf : ByteArray := prog_1_method_21_code
abbrev y_X_restOf : MethodName := ⟨"LitreFractions", "restOf", "(JJ)J"⟩
abbrev w_X_restOf : List Cond := .code y_X_restOf c_X_restOf 4 (Option.some Jvm.ClassFile.FieldType.long) :: WG
abbrev c_JM_floorMod : ByteArray := prog_9_method_52_code
abbrev y_JM_floorMod : MethodName := ⟨"java/lang/Math", "floorMod", "(JJ)J"⟩
abbrev w_JM_floorMod : List Cond := .code y_JM_floorMod c_JM_floorMod 6 (Option.some Jvm.ClassFile.FieldType.long) :: WG
abbrev c_X_goesUp : ByteArray := prog_1_method_25_code
abbrev y_X_goesUp : MethodName := ⟨"LitreFractions", "goesUp", "(IJJJ)Z"⟩
abbrev w_X_goesUp : List Cond := .code y_X_goesUp c_X_goesUp 8 (Option.some Jvm.ClassFile.FieldType.boolean) :: WG
abbrev c_JL_compare : ByteArray := prog_8_method_42_code
abbrev y_JL_compare : MethodName := ⟨"java/lang/Long", "compare", "(JJ)I"⟩
abbrev w_JL_compare : List Cond := .code y_JL_compare c_JL_compare 4 (Option.some Jvm.ClassFile.FieldType.int) :: WG
abbrev c_X_order : ByteArray := prog_1_method_7_code
abbrev y_X_order : MethodName := ⟨"LitreFractions", "order", "(II)I"⟩
abbrev w_X_order : List Cond := .code y_X_order c_X_order 7 (Option.some Jvm.ClassFile.FieldType.int) :: WG
abbrev c_X_row : ByteArray := prog_1_method_8_code
abbrev y_X_row : MethodName := ⟨"LitreFractions", "row", "(IJJJ)Z"⟩
abbrev w_X_row : List Cond := .code y_X_row c_X_row 9 (Option.some Jvm.ClassFile.FieldType.boolean) :: WG
abbrev c_X_tableAt : ByteArray := prog_1_method_16_code
abbrev y_X_tableAt : MethodName := ⟨"LitreFractions", "tableAt", "(I)LLitreFractions$Table;"⟩
abbrev w_X_tableAt : List Cond := .code y_X_tableAt c_X_tableAt 2 (Option.some (Jvm.ClassFile.FieldType.object "LitreFractions$Table")) :: WG
abbrev c_T_takes : ByteArray := prog_2_method_2_code
abbrev y_T_takes : MethodName := ⟨"LitreFractions$Table", "takes", "(JJJ)Z"⟩
abbrev w_T_takes : List Cond := .code y_T_takes c_T_takes 7 (Option.some Jvm.ClassFile.FieldType.boolean) :: WG
abbrev c_T_isInside : ByteArray := prog_2_method_3_code
abbrev y_T_isInside : MethodName := ⟨"LitreFractions$Table", "isInside", "(J)Z"⟩
abbrev w_T_isInside : List Cond := .code y_T_isInside c_T_isInside 2 (Option.some Jvm.ClassFile.FieldType.boolean) :: WG
abbrev c_T_append : ByteArray := prog_2_method_4_code
abbrev y_T_append : MethodName := ⟨"LitreFractions$Table", "append", "(JJJ)V"⟩
abbrev w_T_append : List Cond := .code y_T_append c_T_append 7 (Option.none : Option Jvm.ClassFile.FieldType) :: WG
abbrev c_X_join : ByteArray := prog_1_method_9_code
abbrev y_X_join : MethodName := ⟨"LitreFractions", "join", "(II)I"⟩
abbrev w_X_join : List Cond := .code y_X_join c_X_join 5 (Option.some Jvm.ClassFile.FieldType.int) :: WG
abbrev c_T_firstNotBefore : ByteArray := prog_2_method_5_code
abbrev y_T_firstNotBefore : MethodName := ⟨"LitreFractions$Table", "firstNotBefore", "(JJ)I"⟩
abbrev w_T_firstNotBefore : List Cond := .code y_T_firstNotBefore c_T_firstNotBefore 8 (Option.some Jvm.ClassFile.FieldType.int) :: WG
abbrev c_X_keepBetween : ByteArray := prog_1_method_26_code
abbrev y_X_keepBetween : MethodName := ⟨"LitreFractions", "keepBetween", "(LLitreFractions$Table;II)I"⟩
abbrev w_X_keepBetween : List Cond := .code y_X_keepBetween c_X_keepBetween 12 (Option.some Jvm.ClassFile.FieldType.int) :: WG
abbrev c_X_weight : ByteArray := prog_1_method_10_code
abbrev y_X_weight : MethodName := ⟨"LitreFractions", "weight", "(J)Z"⟩
abbrev w_X_weight : List Cond := .code y_X_weight c_X_weight 3 (Option.some Jvm.ClassFile.FieldType.boolean) :: WG
abbrev c_X_share : ByteArray := prog_1_method_11_code
abbrev y_X_share : MethodName := ⟨"LitreFractions", "share", "(II)I"⟩
abbrev w_X_share : List Cond := .code y_X_share c_X_share 11 (Option.some Jvm.ClassFile.FieldType.int) :: WG
abbrev c_X_sumOfWeights : ByteArray := prog_1_method_27_code
abbrev y_X_sumOfWeights : MethodName := ⟨"LitreFractions", "sumOfWeights", "()J"⟩
abbrev w_X_sumOfWeights : List Cond := .code y_X_sumOfWeights c_X_sumOfWeights 4 (Option.some Jvm.ClassFile.FieldType.long) :: WG
abbrev c_X_thousandthsOf : ByteArray := prog_1_method_28_code
abbrev y_X_thousandthsOf : MethodName := ⟨"LitreFractions", "thousandthsOf", "(IJJ)J"⟩
abbrev w_X_thousandthsOf : List Cond := .code y_X_thousandthsOf c_X_thousandthsOf 18 (Option.some Jvm.ClassFile.FieldType.long) :: WG
abbrev c_X_told : ByteArray := prog_1_method_13_code
abbrev y_X_told : MethodName := ⟨"LitreFractions", "told", "(II)J"⟩
abbrev w_X_told : List Cond := .code y_X_told c_X_told 4 (Option.some Jvm.ClassFile.FieldType.long) :: WG
abbrev c_X_clear : ByteArray := prog_1_method_14_code
abbrev y_X_clear : MethodName := ⟨"LitreFractions", "clear", "()V"⟩
abbrev w_X_clear : List Cond := .code y_X_clear c_X_clear 3 (Option.none : Option Jvm.ClassFile.FieldType) :: WG
abbrev c_L_value : ByteArray := method_3_code
abbrev y_L_value : MethodName := ⟨"LitreFractionsLaw", "value", "(LLitreFractions;JJI[J)I"⟩
abbrev c_X_value : ByteArray := prog_1_method_2_code
abbrev y_X_value : MethodName := ⟨"LitreFractions", "value", "(JJI)I"⟩
abbrev w_X_value : List Cond := .code y_X_value c_X_value 6 (Option.some Jvm.ClassFile.FieldType.int) :: WG
abbrev c_X_isTooFar : ByteArray := prog_1_method_17_code
abbrev y_X_isTooFar : MethodName := ⟨"LitreFractions", "isTooFar", "(J)Z"⟩
abbrev w_X_isTooFar : List Cond := .code y_X_isTooFar c_X_isTooFar 2 (Option.some Jvm.ClassFile.FieldType.boolean) :: WG
abbrev c_L_over : ByteArray := method_4_code
abbrev y_L_over : MethodName := ⟨"LitreFractionsLaw", "over", "(LLitreFractions;II[J)I"⟩
abbrev c_X_over : ByteArray := prog_1_method_5_code
abbrev y_X_over : MethodName := ⟨"LitreFractions", "over", "(II)I"⟩
abbrev w_X_over : List Cond := .code y_X_over c_X_over 4 (Option.some Jvm.ClassFile.FieldType.int) :: WG
abbrev c_X_unitOfQuotient : ByteArray := prog_1_method_23_code
abbrev y_X_unitOfQuotient : MethodName := ⟨"LitreFractions", "unitOfQuotient", "(II)I"⟩
abbrev w_X_unitOfQuotient : List Cond := .code y_X_unitOfQuotient c_X_unitOfQuotient 2 (Option.some Jvm.ClassFile.FieldType.int) :: WG
abbrev c_L_digit : ByteArray := method_5_code
abbrev y_L_digit : MethodName := ⟨"LitreFractionsLaw", "digit", "(LLitreFractions;III[J)I"⟩
abbrev c_X_digit : ByteArray := prog_1_method_12_code
abbrev y_X_digit : MethodName := ⟨"LitreFractions", "digit", "(III)I"⟩
abbrev w_X_digit : List Cond := .code y_X_digit c_X_digit 9 (Option.some Jvm.ClassFile.FieldType.int) :: WG
abbrev c_X_digitBefore : ByteArray := prog_1_method_29_code
abbrev y_X_digitBefore : MethodName := ⟨"LitreFractions", "digitBefore", "(JI)I"⟩
abbrev w_X_digitBefore : List Cond := .code y_X_digitBefore c_X_digitBefore 6 (Option.some Jvm.ClassFile.FieldType.int) :: WG
abbrev c_X_digitBehind : ByteArray := prog_1_method_30_code
abbrev y_X_digitBehind : MethodName := ⟨"LitreFractions", "digitBehind", "(JJI)I"⟩
abbrev w_X_digitBehind : List Cond := .code y_X_digitBehind c_X_digitBehind 8 (Option.some Jvm.ClassFile.FieldType.int) :: WG
abbrev c_M_init : ByteArray := prog_4_method_1_code
abbrev y_M_init : MethodName := ⟨"LitreFractionsModel", "<init>", "()V"⟩
abbrev w_M_init : List Cond := .code y_M_init c_M_init 1 (Option.none : Option Jvm.ClassFile.FieldType) :: WG
abbrev c_M_thrown : ByteArray := prog_4_method_2_code
abbrev y_M_thrown : MethodName := ⟨"LitreFractionsModel", "thrown", "()I"⟩
abbrev w_M_thrown : List Cond := .code y_M_thrown c_M_thrown 1 (Option.some Jvm.ClassFile.FieldType.int) :: WG
abbrev c_M_value : ByteArray := prog_4_method_6_code
abbrev y_M_value : MethodName := ⟨"LitreFractionsModel", "value", "(JJI)I"⟩
abbrev w_M_value : List Cond := .code y_M_value c_M_value 6 (Option.some Jvm.ClassFile.FieldType.int) :: WG
abbrev c_M_make : ByteArray := prog_4_method_5_code
abbrev y_M_make : MethodName := ⟨"LitreFractionsModel", "make", "(JJI)I"⟩
abbrev w_M_make : List Cond := .code y_M_make c_M_make 12 (Option.some Jvm.ClassFile.FieldType.int) :: WG
abbrev c_M_common : ByteArray := prog_4_method_4_code
abbrev y_M_common : MethodName := ⟨"LitreFractionsModel", "common", "(JJ)J"⟩
abbrev w_M_common : List Cond := .code y_M_common c_M_common 10 (Option.some Jvm.ClassFile.FieldType.long) :: WG
abbrev c_M_add : ByteArray := prog_4_method_7_code
abbrev y_M_add : MethodName := ⟨"LitreFractionsModel", "add", "(II)I"⟩
abbrev w_M_add : List Cond := .code y_M_add c_M_add 3 (Option.some Jvm.ClassFile.FieldType.int) :: WG
abbrev c_M_isAmount : ByteArray := prog_4_method_3_code
abbrev y_M_isAmount : MethodName := ⟨"LitreFractionsModel", "isAmount", "(I)Z"⟩
abbrev w_M_isAmount : List Cond := .code y_M_isAmount c_M_isAmount 2 (Option.some Jvm.ClassFile.FieldType.boolean) :: WG
abbrev c_M_times : ByteArray := prog_4_method_9_code
abbrev y_M_times : MethodName := ⟨"LitreFractionsModel", "times", "(II)I"⟩
abbrev w_M_times : List Cond := .code y_M_times c_M_times 6 (Option.some Jvm.ClassFile.FieldType.int) :: WG
abbrev c_M_areTwo : ByteArray := prog_4_method_8_code
abbrev y_M_areTwo : MethodName := ⟨"LitreFractionsModel", "areTwo", "(IIII)Z"⟩
abbrev w_M_areTwo : List Cond := .code y_M_areTwo c_M_areTwo 4 (Option.some Jvm.ClassFile.FieldType.boolean) :: WG
abbrev c_M_over : ByteArray := prog_4_method_10_code
abbrev y_M_over : MethodName := ⟨"LitreFractionsModel", "over", "(II)I"⟩
abbrev w_M_over : List Cond := .code y_M_over c_M_over 6 (Option.some Jvm.ClassFile.FieldType.int) :: WG
abbrev c_M_round : ByteArray := prog_4_method_12_code
abbrev y_M_round : MethodName := ⟨"LitreFractionsModel", "round", "(IIJ)I"⟩
abbrev w_M_round : List Cond := .code y_M_round c_M_round 11 (Option.some Jvm.ClassFile.FieldType.int) :: WG
abbrev c_M_isUpper : ByteArray := prog_4_method_11_code
abbrev y_M_isUpper : MethodName := ⟨"LitreFractionsModel", "isUpper", "(IJJJ)Z"⟩
abbrev w_M_isUpper : List Cond := .code y_M_isUpper c_M_isUpper 8 (Option.some Jvm.ClassFile.FieldType.boolean) :: WG
abbrev c_M_order : ByteArray := prog_4_method_13_code
abbrev y_M_order : MethodName := ⟨"LitreFractionsModel", "order", "(II)I"⟩
abbrev w_M_order : List Cond := .code y_M_order c_M_order 5 (Option.some Jvm.ClassFile.FieldType.int) :: WG
abbrev c_M_row : ByteArray := prog_4_method_15_code
abbrev y_M_row : MethodName := ⟨"LitreFractionsModel", "row", "(IJJJ)Z"⟩
abbrev w_M_row : List Cond := .code y_M_row c_M_row 9 (Option.some Jvm.ClassFile.FieldType.boolean) :: WG
abbrev c_M_isNear : ByteArray := prog_4_method_14_code
abbrev y_M_isNear : MethodName := ⟨"LitreFractionsModel", "isNear", "(J)Z"⟩
abbrev w_M_isNear : List Cond := .code y_M_isNear c_M_isNear 2 (Option.some Jvm.ClassFile.FieldType.boolean) :: WG
abbrev c_M_join : ByteArray := prog_4_method_16_code
abbrev y_M_join : MethodName := ⟨"LitreFractionsModel", "join", "(II)I"⟩
abbrev w_M_join : List Cond := .code y_M_join c_M_join 12 (Option.some Jvm.ClassFile.FieldType.int) :: WG
abbrev c_M_weight : ByteArray := prog_4_method_17_code
abbrev y_M_weight : MethodName := ⟨"LitreFractionsModel", "weight", "(J)Z"⟩
abbrev w_M_weight : List Cond := .code y_M_weight c_M_weight 3 (Option.some Jvm.ClassFile.FieldType.boolean) :: WG
abbrev c_M_share : ByteArray := prog_4_method_18_code
abbrev y_M_share : MethodName := ⟨"LitreFractionsModel", "share", "(II)I"⟩
abbrev w_M_share : List Cond := .code y_M_share c_M_share 17 (Option.some Jvm.ClassFile.FieldType.int) :: WG
abbrev c_M_digit : ByteArray := prog_4_method_19_code
abbrev y_M_digit : MethodName := ⟨"LitreFractionsModel", "digit", "(III)I"⟩
abbrev w_M_digit : List Cond := .code y_M_digit c_M_digit 11 (Option.some Jvm.ClassFile.FieldType.int) :: WG
abbrev c_M_told : ByteArray := prog_4_method_20_code
abbrev y_M_told : MethodName := ⟨"LitreFractionsModel", "told", "(II)J"⟩
abbrev w_M_told : List Cond := .code y_M_told c_M_told 3 (Option.some Jvm.ClassFile.FieldType.long) :: WG
abbrev c_M_clear : ByteArray := prog_4_method_21_code
abbrev y_M_clear : MethodName := ⟨"LitreFractionsModel", "clear", "()V"⟩
abbrev w_M_clear : List Cond := .code y_M_clear c_M_clear 2 (Option.none : Option Jvm.ClassFile.FieldType) :: WG
