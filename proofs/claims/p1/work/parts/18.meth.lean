-- ===== the methods and the words they stand on =====
def M0 : rM := (({ cls := "java/util/Objects", name := "checkIndex", desc := "(II)I" } : Jvm.MethodName), prog_64_method_17_code, 2, (Option.some Jvm.ClassFile.FieldType.int), none)
def M1 : rM := (({ cls := "jdk/internal/util/Preconditions", name := "checkIndex", desc := "(IILjava/util/function/BiFunction;)I" } : Jvm.MethodName), prog_68_method_11_code, 3, (Option.some Jvm.ClassFile.FieldType.int), none)
def M2 : rM := (({ cls := "java/lang/Integer", name := "numberOfLeadingZeros", desc := "(I)I" } : Jvm.MethodName), prog_44_method_47_code, 2, (Option.some Jvm.ClassFile.FieldType.int), none)
def M3 : rM := (({ cls := "java/util/Arrays", name := "fill", desc := "([II)V" } : Jvm.MethodName), prog_61_method_103_code, 4, (Option.none : Option Jvm.ClassFile.FieldType), none)
def M4 : rM := (({ cls := "java/lang/Math", name := "max", desc := "(II)I" } : Jvm.MethodName), prog_47_method_65_code, 2, (Option.some Jvm.ClassFile.FieldType.int), none)
def M5 : rM := (({ cls := "java/lang/Math", name := "min", desc := "(II)I" } : Jvm.MethodName), prog_47_method_69_code, 2, (Option.some Jvm.ClassFile.FieldType.int), none)
def M6 : rM := (({ cls := "java/util/ArrayList", name := "add", desc := "(Ljava/lang/Object;[Ljava/lang/Object;I)V" } : Jvm.MethodName), prog_60_method_24_code, 4, (Option.none : Option Jvm.ClassFile.FieldType), none)
def M7 : rM := (({ cls := "java/util/ArrayList", name := "add", desc := "(Ljava/lang/Object;)Z" } : Jvm.MethodName), prog_60_method_25_code, 2, (Option.some Jvm.ClassFile.FieldType.boolean), none)
def M8 : rM := (({ cls := "java/util/ArrayList", name := "clear", desc := "()V" } : Jvm.MethodName), prog_60_method_40_code, 4, (Option.none : Option Jvm.ClassFile.FieldType), none)
def M9 : rM := (({ cls := "java/util/ArrayList", name := "elementData", desc := "(I)Ljava/lang/Object;" } : Jvm.MethodName), prog_60_method_18_code, 2, (Option.some (Jvm.ClassFile.FieldType.object "java/lang/Object")), none)
def M10 : rM := (({ cls := "java/util/ArrayList", name := "get", desc := "(I)Ljava/lang/Object;" } : Jvm.MethodName), prog_60_method_20_code, 2, (Option.some (Jvm.ClassFile.FieldType.object "java/lang/Object")), none)
def M11 : rM := (({ cls := "java/util/ArrayList", name := "grow", desc := "(I)[Ljava/lang/Object;" } : Jvm.MethodName), prog_60_method_6_code, 4, (Option.some (Jvm.ClassFile.FieldType.array (Jvm.ClassFile.FieldType.object "java/lang/Object"))), none)
def M12 : rM := (({ cls := "java/util/ArrayList", name := "grow", desc := "()[Ljava/lang/Object;" } : Jvm.MethodName), prog_60_method_7_code, 1, (Option.some (Jvm.ClassFile.FieldType.array (Jvm.ClassFile.FieldType.object "java/lang/Object"))), none)
def M13 : rM := (({ cls := "java/util/ArrayList", name := "<init>", desc := "()V" } : Jvm.MethodName), prog_60_method_2_code, 1, (Option.none : Option Jvm.ClassFile.FieldType), none)
def M14 : rM := (({ cls := "java/util/ArrayList", name := "isEmpty", desc := "()Z" } : Jvm.MethodName), prog_60_method_9_code, 1, (Option.some Jvm.ClassFile.FieldType.boolean), none)
def M15 : rM := (({ cls := "java/util/ArrayList", name := "size", desc := "()I" } : Jvm.MethodName), prog_60_method_8_code, 1, (Option.some Jvm.ClassFile.FieldType.int), none)
def M16 : rM := (({ cls := "java/util/AbstractCollection", name := "<init>", desc := "()V" } : Jvm.MethodName), prog_58_method_1_code, 1, (Option.none : Option Jvm.ClassFile.FieldType), none)
def M17 : rM := (({ cls := "java/util/AbstractList", name := "<init>", desc := "()V" } : Jvm.MethodName), prog_59_method_1_code, 1, (Option.none : Option Jvm.ClassFile.FieldType), none)
def M18 : rM := (({ cls := "WordWrightLaw", name := "arc", desc := "(LWordWright;IIIII[J)I" } : Jvm.MethodName), method_10_code, 8, (Option.some Jvm.ClassFile.FieldType.int), (some [((0 : Nat), (16 : Nat), (19 : Nat), (21 : Nat)), ((0 : Nat), (16 : Nat), (23 : Nat), (13 : Nat)), ((0 : Nat), (16 : Nat), (27 : Nat), (15 : Nat))]))
def M19 : rM := (({ cls := "WordWrightLaw", name := "bad", desc := "(LWordWright;I[J)I" } : Jvm.MethodName), method_29_code, 4, (Option.some Jvm.ClassFile.FieldType.int), (some [((0 : Nat), (9 : Nat), (12 : Nat), (21 : Nat))]))
def M20 : rM := (({ cls := "WordWrightLaw", name := "beneath", desc := "(LWordWright;III[J)I" } : Jvm.MethodName), method_22_code, 6, (Option.some Jvm.ClassFile.FieldType.int), (some [((0 : Nat), (12 : Nat), (15 : Nat), (21 : Nat)), ((0 : Nat), (12 : Nat), (19 : Nat), (13 : Nat))]))
def M21 : rM := (({ cls := "WordWrightLaw", name := "beyond", desc := "(LWordWright;II[J)I" } : Jvm.MethodName), method_8_code, 5, (Option.some Jvm.ClassFile.FieldType.int), (some [((0 : Nat), (10 : Nat), (13 : Nat), (21 : Nat)), ((0 : Nat), (10 : Nat), (17 : Nat), (36 : Nat))]))
def M22 : rM := (({ cls := "WordWrightLaw", name := "breaks", desc := "(LWordWright;III[J)I" } : Jvm.MethodName), method_15_code, 6, (Option.some Jvm.ClassFile.FieldType.int), (some [((0 : Nat), (12 : Nat), (15 : Nat), (21 : Nat)), ((0 : Nat), (12 : Nat), (19 : Nat), (36 : Nat))]))
def M23 : rM := (({ cls := "WordWrightLaw", name := "domain", desc := "(LWordWright;III[J)I" } : Jvm.MethodName), method_16_code, 6, (Option.some Jvm.ClassFile.FieldType.int), (some [((0 : Nat), (12 : Nat), (15 : Nat), (21 : Nat)), ((0 : Nat), (12 : Nat), (19 : Nat), (13 : Nat))]))
def M24 : rM := (({ cls := "WordWrightLaw", name := "equation", desc := "(LWordWright;[J)I" } : Jvm.MethodName), method_17_code, 3, (Option.some Jvm.ClassFile.FieldType.int), (some [((0 : Nat), (8 : Nat), (11 : Nat), (15 : Nat))]))
def M25 : rM := (({ cls := "WordWrightLaw", name := "finals", desc := "(LWordWright;II[J)I" } : Jvm.MethodName), method_11_code, 5, (Option.some Jvm.ClassFile.FieldType.int), (some [((0 : Nat), (10 : Nat), (13 : Nat), (21 : Nat)), ((0 : Nat), (10 : Nat), (17 : Nat), (13 : Nat))]))
def M26 : rM := (({ cls := "WordWrightLaw", name := "has", desc := "(LWordWright;II[J)I" } : Jvm.MethodName), method_6_code, 5, (Option.some Jvm.ClassFile.FieldType.int), (some [((0 : Nat), (17 : Nat), (20 : Nat), (21 : Nat)), ((0 : Nat), (17 : Nat), (24 : Nat), (13 : Nat))]))
def M27 : rM := (({ cls := "WordWrightLaw", name := "howMany", desc := "(LWordWright;II[J)I" } : Jvm.MethodName), method_7_code, 5, (Option.some Jvm.ClassFile.FieldType.int), (some [((0 : Nat), (10 : Nat), (13 : Nat), (21 : Nat)), ((0 : Nat), (10 : Nat), (17 : Nat), (13 : Nat))]))
def M28 : rM := (({ cls := "WordWrightLaw", name := "law", desc := "([I)Z" } : Jvm.MethodName), code, 9, (some Jvm.ClassFile.FieldType.boolean), none)
def M29 : rM := (({ cls := "WordWrightLaw", name := "least", desc := "(LWordWright;II[J)I" } : Jvm.MethodName), method_25_code, 5, (Option.some Jvm.ClassFile.FieldType.int), (some [((0 : Nat), (10 : Nat), (13 : Nat), (21 : Nat))]))
def M30 : rM := (({ cls := "WordWrightLaw", name := "loop", desc := "(LWordWright;II[J)I" } : Jvm.MethodName), method_14_code, 5, (Option.some Jvm.ClassFile.FieldType.int), (some [((0 : Nat), (10 : Nat), (13 : Nat), (21 : Nat)), ((0 : Nat), (10 : Nat), (17 : Nat), (13 : Nat))]))
def M31 : rM := (({ cls := "WordWrightLaw", name := "machine", desc := "(LWordWright;[J)I" } : Jvm.MethodName), method_9_code, 3, (Option.some Jvm.ClassFile.FieldType.int), (some [((0 : Nat), (8 : Nat), (11 : Nat), (15 : Nat))]))
def M32 : rM := (({ cls := "WordWrightLaw", name := "make", desc := "(LWordWright;III[J)I" } : Jvm.MethodName), method_3_code, 6, (Option.some Jvm.ClassFile.FieldType.int), (some [((0 : Nat), (12 : Nat), (15 : Nat), (13 : Nat)), ((0 : Nat), (12 : Nat), (19 : Nat), (15 : Nat))]))
def M33 : rM := (({ cls := "WordWrightLaw", name := "many", desc := "(LWordWright;I[J)I" } : Jvm.MethodName), method_30_code, 4, (Option.some Jvm.ClassFile.FieldType.int), (some [((0 : Nat), (9 : Nat), (12 : Nat), (13 : Nat))]))
def M34 : rM := (({ cls := "WordWrightLaw", name := "misfit", desc := "(LWordWright;I[J)I" } : Jvm.MethodName), method_24_code, 4, (Option.some Jvm.ClassFile.FieldType.int), (some [((0 : Nat), (9 : Nat), (12 : Nat), (21 : Nat)), ((0 : Nat), (9 : Nat), (15 : Nat), (15 : Nat))]))
def M35 : rM := (({ cls := "WordWrightLaw", name := "next", desc := "(LWordWright;III[J)I" } : Jvm.MethodName), method_5_code, 6, (Option.some Jvm.ClassFile.FieldType.int), (some [((0 : Nat), (12 : Nat), (15 : Nat), (21 : Nat))]))
def M36 : rM := (({ cls := "WordWrightLaw", name := "node", desc := "(LWordWright;II[J)I" } : Jvm.MethodName), method_23_code, 5, (Option.some Jvm.ClassFile.FieldType.int), (some [((0 : Nat), (10 : Nat), (13 : Nat), (21 : Nat)), ((0 : Nat), (10 : Nat), (17 : Nat), (15 : Nat))]))
def M37 : rM := (({ cls := "WordWrightLaw", name := "ofLanguage", desc := "(LWordWright;II[J)I" } : Jvm.MethodName), method_4_code, 5, (Option.some Jvm.ClassFile.FieldType.int), (some [((0 : Nat), (10 : Nat), (13 : Nat), (21 : Nat)), ((0 : Nat), (10 : Nat), (17 : Nat), (13 : Nat))]))
def M38 : rM := (({ cls := "WordWrightLaw", name := "schema", desc := "(LWordWright;[J)I" } : Jvm.MethodName), method_21_code, 3, (Option.some Jvm.ClassFile.FieldType.int), (some [((0 : Nat), (8 : Nat), (11 : Nat), (15 : Nat))]))
def M39 : rM := (({ cls := "WordWrightLaw", name := "several", desc := "(LWordWright;II[J)I" } : Jvm.MethodName), method_13_code, 5, (Option.some Jvm.ClassFile.FieldType.int), (some [((0 : Nat), (10 : Nat), (13 : Nat), (21 : Nat)), ((0 : Nat), (10 : Nat), (17 : Nat), (13 : Nat))]))
def M40 : rM := (({ cls := "WordWrightLaw", name := "solutionsWith", desc := "(LWordWright;II[J)I" } : Jvm.MethodName), method_32_code, 5, (Option.some Jvm.ClassFile.FieldType.int), (some [((0 : Nat), (10 : Nat), (13 : Nat), (21 : Nat)), ((0 : Nat), (10 : Nat), (17 : Nat), (13 : Nat))]))
def M41 : rM := (({ cls := "WordWrightLaw", name := "solved", desc := "(LWordWright;I[J)I" } : Jvm.MethodName), method_20_code, 4, (Option.some Jvm.ClassFile.FieldType.int), (some [((0 : Nat), (9 : Nat), (12 : Nat), (21 : Nat))]))
def M42 : rM := (({ cls := "WordWrightLaw", name := "span", desc := "(LWordWright;III[J)I" } : Jvm.MethodName), method_28_code, 6, (Option.some Jvm.ClassFile.FieldType.int), (some [((0 : Nat), (12 : Nat), (15 : Nat), (21 : Nat)), ((0 : Nat), (12 : Nat), (19 : Nat), (13 : Nat))]))
def M43 : rM := (({ cls := "WordWrightLaw", name := "step", desc := "(LWordWright;IIII[J)I" } : Jvm.MethodName), method_27_code, 7, (Option.some Jvm.ClassFile.FieldType.int), (some [((0 : Nat), (14 : Nat), (17 : Nat), (13 : Nat)), ((0 : Nat), (14 : Nat), (21 : Nat), (15 : Nat))]))
def M44 : rM := (({ cls := "WordWrightLaw", name := "symbol", desc := "(LWordWright;III[J)I" } : Jvm.MethodName), method_18_code, 6, (Option.some Jvm.ClassFile.FieldType.int), (some [((0 : Nat), (12 : Nat), (15 : Nat), (21 : Nat)), ((0 : Nat), (12 : Nat), (19 : Nat), (13 : Nat)), ((0 : Nat), (12 : Nat), (23 : Nat), (15 : Nat))]))
def M45 : rM := (({ cls := "WordWrightLaw", name := "undo", desc := "(LWordWright;[J)I" } : Jvm.MethodName), method_19_code, 3, (Option.some Jvm.ClassFile.FieldType.int), (some [((0 : Nat), (8 : Nat), (11 : Nat), (15 : Nat))]))
def M46 : rM := (({ cls := "WordWrightLaw", name := "within", desc := "(LWordWright;II[J)I" } : Jvm.MethodName), method_26_code, 5, (Option.some Jvm.ClassFile.FieldType.int), (some [((0 : Nat), (10 : Nat), (13 : Nat), (21 : Nat))]))
def M47 : rM := (({ cls := "WordWrightLaw", name := "wouldSize", desc := "(LWordWright;III[J)I" } : Jvm.MethodName), method_31_code, 6, (Option.some Jvm.ClassFile.FieldType.int), (some [((0 : Nat), (12 : Nat), (15 : Nat), (13 : Nat))]))
def M48 : rM := (({ cls := "WordWrightLaw", name := "writes", desc := "(LWordWright;III[J)I" } : Jvm.MethodName), method_12_code, 6, (Option.some Jvm.ClassFile.FieldType.int), (some [((0 : Nat), (12 : Nat), (15 : Nat), (21 : Nat)), ((0 : Nat), (12 : Nat), (19 : Nat), (13 : Nat))]))
def M49 : rM := (({ cls := "WordWright$Draft", name := "begin", desc := "(J)V" } : Jvm.MethodName), prog_2_method_2_code, 3, (Option.none : Option Jvm.ClassFile.FieldType), none)
def M50 : rM := (({ cls := "WordWright$Draft", name := "<init>", desc := "()V" } : Jvm.MethodName), prog_2_method_1_code, 1, (Option.none : Option Jvm.ClassFile.FieldType), none)
def M51 : rM := (({ cls := "WordWright$Draft", name := "number", desc := "(LWordWright$Language;)V" } : Jvm.MethodName), prog_2_method_7_code, 8, (Option.none : Option Jvm.ClassFile.FieldType), none)
def M52 : rM := (({ cls := "WordWright$Draft", name := "shrinkInto", desc := "(LWordWright$Language;)Z" } : Jvm.MethodName), prog_2_method_4_code, 5, (Option.some Jvm.ClassFile.FieldType.boolean), none)
def M53 : rM := (({ cls := "WordWright$Draft", name := "signOf", desc := "(I)I" } : Jvm.MethodName), prog_2_method_6_code, 4, (Option.some Jvm.ClassFile.FieldType.int), none)
def M54 : rM := (({ cls := "WordWright$Draft", name := "split", desc := "()I" } : Jvm.MethodName), prog_2_method_5_code, 5, (Option.some Jvm.ClassFile.FieldType.int), none)
def M55 : rM := (({ cls := "WordWright$Draft", name := "stateFor", desc := "(J)I" } : Jvm.MethodName), prog_2_method_3_code, 6, (Option.some Jvm.ClassFile.FieldType.int), none)
def M56 : rM := (({ cls := "WordWright", name := "amount", desc := "(I)I" } : Jvm.MethodName), prog_1_method_52_code, 2, (Option.some Jvm.ClassFile.FieldType.int), none)
def M57 : rM := (({ cls := "WordWright", name := "arc", desc := "(IIIII)I" } : Jvm.MethodName), prog_1_method_9_code, 6, (Option.some Jvm.ClassFile.FieldType.int), none)
def M58 : rM := (({ cls := "WordWright", name := "arcCount", desc := "()I" } : Jvm.MethodName), prog_1_method_53_code, 3, (Option.some Jvm.ClassFile.FieldType.int), none)
def M59 : rM := (({ cls := "WordWright", name := "bad", desc := "(I)I" } : Jvm.MethodName), prog_1_method_30_code, 2, (Option.some Jvm.ClassFile.FieldType.int), none)
def M60 : rM := (({ cls := "WordWright", name := "badCount", desc := "()I" } : Jvm.MethodName), prog_1_method_54_code, 3, (Option.some Jvm.ClassFile.FieldType.int), none)
def M61 : rM := (({ cls := "WordWright", name := "beneath", desc := "(III)I" } : Jvm.MethodName), prog_1_method_22_code, 5, (Option.some Jvm.ClassFile.FieldType.int), none)
def M62 : rM := (({ cls := "WordWright", name := "beyond", desc := "(II)I" } : Jvm.MethodName), prog_1_method_7_code, 4, (Option.some Jvm.ClassFile.FieldType.int), none)
def M63 : rM := (({ cls := "WordWright", name := "breaks", desc := "(III)I" } : Jvm.MethodName), prog_1_method_14_code, 5, (Option.some Jvm.ClassFile.FieldType.int), none)
def M64 : rM := (({ cls := "WordWright", name := "build", desc := "(III)Z" } : Jvm.MethodName), prog_1_method_47_code, 4, (Option.some Jvm.ClassFile.FieldType.boolean), none)
def M65 : rM := (({ cls := "WordWright", name := "canName", desc := "(III)Z" } : Jvm.MethodName), prog_1_method_45_code, 4, (Option.some Jvm.ClassFile.FieldType.boolean), none)
def M66 : rM := (({ cls := "WordWright", name := "clear", desc := "()I" } : Jvm.MethodName), prog_1_method_28_code, 2, (Option.some Jvm.ClassFile.FieldType.int), none)
def M67 : rM := (({ cls := "WordWright", name := "digest", desc := "()J" } : Jvm.MethodName), prog_1_method_35_code, 4, (Option.some Jvm.ClassFile.FieldType.long), none)
def M68 : rM := (({ cls := "WordWright", name := "domain", desc := "(III)I" } : Jvm.MethodName), prog_1_method_15_code, 4, (Option.some Jvm.ClassFile.FieldType.int), none)
def M69 : rM := (({ cls := "WordWright", name := "equation", desc := "()I" } : Jvm.MethodName), prog_1_method_16_code, 1, (Option.some Jvm.ClassFile.FieldType.int), none)
def M70 : rM := (({ cls := "WordWright", name := "finals", desc := "(II)I" } : Jvm.MethodName), prog_1_method_10_code, 4, (Option.some Jvm.ClassFile.FieldType.int), none)
def M71 : rM := (({ cls := "WordWright", name := "has", desc := "(II)Z" } : Jvm.MethodName), prog_1_method_5_code, 3, (Option.some Jvm.ClassFile.FieldType.boolean), none)
def M72 : rM := (({ cls := "WordWright", name := "howMany", desc := "(II)I" } : Jvm.MethodName), prog_1_method_6_code, 3, (Option.some Jvm.ClassFile.FieldType.int), none)
def M73 : rM := (({ cls := "WordWright", name := "<init>", desc := "()V" } : Jvm.MethodName), prog_1_method_1_code, 2, (Option.none : Option Jvm.ClassFile.FieldType), none)
def M74 : rM := (({ cls := "WordWright", name := "isLanguage", desc := "(I)Z" } : Jvm.MethodName), prog_1_method_42_code, 2, (Option.some Jvm.ClassFile.FieldType.boolean), none)
def M75 : rM := (({ cls := "WordWright", name := "isLetter", desc := "(I)Z" } : Jvm.MethodName), prog_1_method_36_code, 1, (Option.some Jvm.ClassFile.FieldType.boolean), none)
def M76 : rM := (({ cls := "WordWright", name := "isMachine", desc := "(I)Z" } : Jvm.MethodName), prog_1_method_43_code, 2, (Option.some Jvm.ClassFile.FieldType.boolean), none)
def M77 : rM := (({ cls := "WordWright", name := "isSchema", desc := "(I)Z" } : Jvm.MethodName), prog_1_method_44_code, 2, (Option.some Jvm.ClassFile.FieldType.boolean), none)
def M78 : rM := (({ cls := "WordWright", name := "isStep", desc := "(IIII)Z" } : Jvm.MethodName), prog_1_method_46_code, 5, (Option.some Jvm.ClassFile.FieldType.boolean), none)
def M79 : rM := (({ cls := "WordWright", name := "isString", desc := "(I)Z" } : Jvm.MethodName), prog_1_method_39_code, 1, (Option.some Jvm.ClassFile.FieldType.boolean), none)
def M80 : rM := (({ cls := "WordWright", name := "isVariable", desc := "(I)Z" } : Jvm.MethodName), prog_1_method_38_code, 1, (Option.some Jvm.ClassFile.FieldType.boolean), none)
def M81 : rM := (({ cls := "WordWright", name := "isWord", desc := "(I)Z" } : Jvm.MethodName), prog_1_method_40_code, 1, (Option.some Jvm.ClassFile.FieldType.boolean), none)
def M82 : rM := (({ cls := "WordWright", name := "languageFact", desc := "(LWordWright$Language;I)I" } : Jvm.MethodName), prog_1_method_49_code, 3, (Option.some Jvm.ClassFile.FieldType.int), none)
def M83 : rM := (({ cls := "WordWright", name := "least", desc := "(II)I" } : Jvm.MethodName), prog_1_method_25_code, 3, (Option.some Jvm.ClassFile.FieldType.int), none)
def M84 : rM := (({ cls := "WordWright", name := "lengthOf", desc := "(I)I" } : Jvm.MethodName), prog_1_method_41_code, 1, (Option.some Jvm.ClassFile.FieldType.int), none)
def M85 : rM := (({ cls := "WordWright", name := "loop", desc := "(II)I" } : Jvm.MethodName), prog_1_method_13_code, 3, (Option.some Jvm.ClassFile.FieldType.int), none)
def M86 : rM := (({ cls := "WordWright", name := "machine", desc := "()I" } : Jvm.MethodName), prog_1_method_8_code, 1, (Option.some Jvm.ClassFile.FieldType.int), none)
def M87 : rM := (({ cls := "WordWright", name := "make", desc := "(III)I" } : Jvm.MethodName), prog_1_method_2_code, 5, (Option.some Jvm.ClassFile.FieldType.int), none)
def M88 : rM := (({ cls := "WordWright", name := "many", desc := "(I)I" } : Jvm.MethodName), prog_1_method_31_code, 2, (Option.some Jvm.ClassFile.FieldType.int), none)
def M89 : rM := (({ cls := "WordWright", name := "meanSize", desc := "()D" } : Jvm.MethodName), prog_1_method_32_code, 3, (Option.some Jvm.ClassFile.FieldType.double), none)
def M90 : rM := (({ cls := "WordWright", name := "misfit", desc := "(I)I" } : Jvm.MethodName), prog_1_method_24_code, 2, (Option.some Jvm.ClassFile.FieldType.int), none)
def M91 : rM := (({ cls := "WordWright", name := "mixLanguages", desc := "(J)J" } : Jvm.MethodName), prog_1_method_56_code, 8, (Option.some Jvm.ClassFile.FieldType.long), none)
def M92 : rM := (({ cls := "WordWright", name := "mixMachines", desc := "(J)J" } : Jvm.MethodName), prog_1_method_57_code, 6, (Option.some Jvm.ClassFile.FieldType.long), none)
def M93 : rM := (({ cls := "WordWright", name := "mixSpans", desc := "(J)J" } : Jvm.MethodName), prog_1_method_60_code, 8, (Option.some Jvm.ClassFile.FieldType.long), none)
def M94 : rM := (({ cls := "WordWright", name := "next", desc := "(III)I" } : Jvm.MethodName), prog_1_method_4_code, 4, (Option.some Jvm.ClassFile.FieldType.int), none)
def M95 : rM := (({ cls := "WordWright", name := "node", desc := "(II)I" } : Jvm.MethodName), prog_1_method_23_code, 3, (Option.some Jvm.ClassFile.FieldType.int), none)
def M96 : rM := (({ cls := "WordWright", name := "numberOfBuilt", desc := "()I" } : Jvm.MethodName), prog_1_method_48_code, 2, (Option.some Jvm.ClassFile.FieldType.int), none)
def M97 : rM := (({ cls := "WordWright", name := "ofLanguage", desc := "(II)I" } : Jvm.MethodName), prog_1_method_3_code, 3, (Option.some Jvm.ClassFile.FieldType.int), none)
def M98 : rM := (({ cls := "WordWright", name := "schema", desc := "()I" } : Jvm.MethodName), prog_1_method_21_code, 1, (Option.some Jvm.ClassFile.FieldType.int), none)
def M99 : rM := (({ cls := "WordWright", name := "several", desc := "(II)I" } : Jvm.MethodName), prog_1_method_12_code, 3, (Option.some Jvm.ClassFile.FieldType.int), none)
def M100 : rM := (({ cls := "WordWright", name := "solutions", desc := "()I" } : Jvm.MethodName), prog_1_method_20_code, 1, (Option.some Jvm.ClassFile.FieldType.int), none)
def M101 : rM := (({ cls := "WordWright", name := "solutionsWith", desc := "(II)I" } : Jvm.MethodName), prog_1_method_34_code, 4, (Option.some Jvm.ClassFile.FieldType.int), none)
def M102 : rM := (({ cls := "WordWright", name := "solveEquations", desc := "()V" } : Jvm.MethodName), prog_1_method_55_code, 1, (Option.none : Option Jvm.ClassFile.FieldType), none)
def M103 : rM := (({ cls := "WordWright", name := "solved", desc := "(I)I" } : Jvm.MethodName), prog_1_method_19_code, 2, (Option.some Jvm.ClassFile.FieldType.int), none)
def M104 : rM := (({ cls := "WordWright", name := "span", desc := "(III)I" } : Jvm.MethodName), prog_1_method_29_code, 4, (Option.some Jvm.ClassFile.FieldType.int), none)
def M105 : rM := (({ cls := "WordWright", name := "spanFact", desc := "(III)I" } : Jvm.MethodName), prog_1_method_50_code, 5, (Option.some Jvm.ClassFile.FieldType.int), none)
def M106 : rM := (({ cls := "WordWright", name := "step", desc := "(IIII)I" } : Jvm.MethodName), prog_1_method_27_code, 5, (Option.some Jvm.ClassFile.FieldType.int), none)
def M107 : rM := (({ cls := "WordWright", name := "symbol", desc := "(III)I" } : Jvm.MethodName), prog_1_method_17_code, 4, (Option.some Jvm.ClassFile.FieldType.int), none)
def M108 : rM := (({ cls := "WordWright", name := "undo", desc := "()I" } : Jvm.MethodName), prog_1_method_18_code, 1, (Option.some Jvm.ClassFile.FieldType.int), none)
def M109 : rM := (({ cls := "WordWright", name := "within", desc := "(II)I" } : Jvm.MethodName), prog_1_method_26_code, 3, (Option.some Jvm.ClassFile.FieldType.int), none)
def M110 : rM := (({ cls := "WordWright", name := "wouldSize", desc := "(III)I" } : Jvm.MethodName), prog_1_method_33_code, 4, (Option.some Jvm.ClassFile.FieldType.int), none)
def M111 : rM := (({ cls := "WordWright", name := "writes", desc := "(III)I" } : Jvm.MethodName), prog_1_method_11_code, 4, (Option.some Jvm.ClassFile.FieldType.int), none)
def M112 : rM := (({ cls := "WordWrightModel$1", name := "ends", desc := "(J)Z" } : Jvm.MethodName), prog_14_method_4_code, 3, (Option.some Jvm.ClassFile.FieldType.boolean), none)
def M113 : rM := (({ cls := "WordWrightModel$1", name := "first", desc := "()J" } : Jvm.MethodName), prog_14_method_2_code, 1, (Option.some Jvm.ClassFile.FieldType.long), none)
def M114 : rM := (({ cls := "WordWrightModel$1", name := "go", desc := "(JI)J" } : Jvm.MethodName), prog_14_method_3_code, 4, (Option.some Jvm.ClassFile.FieldType.long), none)
def M115 : rM := (({ cls := "WordWrightModel$1", name := "<init>", desc := "(II)V" } : Jvm.MethodName), prog_14_method_1_code, 3, (Option.none : Option Jvm.ClassFile.FieldType), none)
def M116 : rM := (({ cls := "WordWrightModel$2", name := "ends", desc := "(J)Z" } : Jvm.MethodName), prog_17_method_4_code, 5, (Option.some Jvm.ClassFile.FieldType.boolean), none)
def M117 : rM := (({ cls := "WordWrightModel$2", name := "first", desc := "()J" } : Jvm.MethodName), prog_17_method_2_code, 1, (Option.some Jvm.ClassFile.FieldType.long), none)
def M118 : rM := (({ cls := "WordWrightModel$2", name := "go", desc := "(JI)J" } : Jvm.MethodName), prog_17_method_3_code, 4, (Option.some Jvm.ClassFile.FieldType.long), none)
def M119 : rM := (({ cls := "WordWrightModel$2", name := "<init>", desc := "(LWordWrightModel$Dfa;LWordWrightModel$Dfa;I)V" } : Jvm.MethodName), prog_17_method_1_code, 4, (Option.none : Option Jvm.ClassFile.FieldType), none)
def M120 : rM := (({ cls := "WordWrightModel$3", name := "ends", desc := "(J)Z" } : Jvm.MethodName), prog_18_method_5_code, 3, (Option.some Jvm.ClassFile.FieldType.boolean), none)
def M121 : rM := (({ cls := "WordWrightModel$3", name := "first", desc := "()J" } : Jvm.MethodName), prog_18_method_3_code, 1, (Option.some Jvm.ClassFile.FieldType.long), none)
def M122 : rM := (({ cls := "WordWrightModel$3", name := "go", desc := "(JI)J" } : Jvm.MethodName), prog_18_method_4_code, 4, (Option.some Jvm.ClassFile.FieldType.long), none)
def M123 : rM := (({ cls := "WordWrightModel$3", name := "<init>", desc := "(LWordWrightModel$Dfa;LWordWrightModel$Dfa;)V" } : Jvm.MethodName), prog_18_method_1_code, 3, (Option.none : Option Jvm.ClassFile.FieldType), none)
def M124 : rM := (({ cls := "WordWrightModel$3", name := "with", desc := "(IJ)J" } : Jvm.MethodName), prog_18_method_2_code, 4, (Option.some Jvm.ClassFile.FieldType.long), none)
def M125 : rM := (({ cls := "WordWrightModel$4", name := "ends", desc := "(J)Z" } : Jvm.MethodName), prog_19_method_4_code, 3, (Option.some Jvm.ClassFile.FieldType.boolean), none)
def M126 : rM := (({ cls := "WordWrightModel$4", name := "first", desc := "()J" } : Jvm.MethodName), prog_19_method_2_code, 1, (Option.some Jvm.ClassFile.FieldType.long), none)
def M127 : rM := (({ cls := "WordWrightModel$4", name := "go", desc := "(JI)J" } : Jvm.MethodName), prog_19_method_3_code, 6, (Option.some Jvm.ClassFile.FieldType.long), none)
def M128 : rM := (({ cls := "WordWrightModel$4", name := "<init>", desc := "(LWordWrightModel$Dfa;)V" } : Jvm.MethodName), prog_19_method_1_code, 2, (Option.none : Option Jvm.ClassFile.FieldType), none)
def M129 : rM := (({ cls := "WordWrightModel$5", name := "ends", desc := "(J)Z" } : Jvm.MethodName), prog_20_method_4_code, 3, (Option.some Jvm.ClassFile.FieldType.boolean), none)
def M130 : rM := (({ cls := "WordWrightModel$5", name := "first", desc := "()J" } : Jvm.MethodName), prog_20_method_2_code, 4, (Option.some Jvm.ClassFile.FieldType.long), none)
def M131 : rM := (({ cls := "WordWrightModel$5", name := "go", desc := "(JI)J" } : Jvm.MethodName), prog_20_method_3_code, 7, (Option.some Jvm.ClassFile.FieldType.long), none)
def M132 : rM := (({ cls := "WordWrightModel$5", name := "<init>", desc := "(LWordWrightModel$Dfa;)V" } : Jvm.MethodName), prog_20_method_1_code, 2, (Option.none : Option Jvm.ClassFile.FieldType), none)
def M133 : rM := (({ cls := "WordWrightModel$6", name := "ends", desc := "(J)Z" } : Jvm.MethodName), prog_21_method_4_code, 3, (Option.some Jvm.ClassFile.FieldType.boolean), none)
def M134 : rM := (({ cls := "WordWrightModel$6", name := "first", desc := "()J" } : Jvm.MethodName), prog_21_method_2_code, 1, (Option.some Jvm.ClassFile.FieldType.long), none)
def M135 : rM := (({ cls := "WordWrightModel$6", name := "go", desc := "(JI)J" } : Jvm.MethodName), prog_21_method_3_code, 4, (Option.some Jvm.ClassFile.FieldType.long), none)
def M136 : rM := (({ cls := "WordWrightModel$6", name := "<init>", desc := "(LWordWrightModel$Dfa;[Z)V" } : Jvm.MethodName), prog_21_method_1_code, 3, (Option.none : Option Jvm.ClassFile.FieldType), none)
def M137 : rM := (({ cls := "WordWright$Equations", name := "add", desc := "()I" } : Jvm.MethodName), prog_3_method_3_code, 1, (Option.some Jvm.ClassFile.FieldType.int), none)
def M138 : rM := (({ cls := "WordWright$Equations", name := "<init>", desc := "()V" } : Jvm.MethodName), prog_3_method_1_code, 1, (Option.none : Option Jvm.ClassFile.FieldType), none)
def M139 : rM := (({ cls := "WordWright$Equations", name := "keep", desc := "(LWordWright$Solver;)V" } : Jvm.MethodName), prog_3_method_7_code, 2, (Option.none : Option Jvm.ClassFile.FieldType), none)
def M140 : rM := (({ cls := "WordWright$Equations", name := "symbolCount", desc := "()I" } : Jvm.MethodName), prog_3_method_6_code, 3, (Option.some Jvm.ClassFile.FieldType.int), none)
def M141 : rM := (({ cls := "WordWright$Equations", name := "tellDomain", desc := "(III)I" } : Jvm.MethodName), prog_3_method_2_code, 5, (Option.some Jvm.ClassFile.FieldType.int), none)
def M142 : rM := (({ cls := "WordWrightModel$9", name := "first", desc := "()[Z" } : Jvm.MethodName), prog_24_method_3_code, 1, (Option.some (Jvm.ClassFile.FieldType.array Jvm.ClassFile.FieldType.boolean)), none)
def M143 : rM := (({ cls := "WordWrightModel$9", name := "go", desc := "([ZI)[Z" } : Jvm.MethodName), prog_24_method_4_code, 5, (Option.some (Jvm.ClassFile.FieldType.array Jvm.ClassFile.FieldType.boolean)), none)
def M144 : rM := (({ cls := "WordWrightModel$9", name := "<init>", desc := "(LWordWrightModel$Dfa;LWordWrightModel$Dfa;)V" } : Jvm.MethodName), prog_24_method_1_code, 3, (Option.none : Option Jvm.ClassFile.FieldType), none)
def M145 : rM := (({ cls := "WordWrightModel$9", name := "isWished", desc := "(I)Z" } : Jvm.MethodName), prog_24_method_5_code, 2, (Option.some Jvm.ClassFile.FieldType.boolean), none)
def M146 : rM := (({ cls := "WordWrightModel$9", name := "size", desc := "()I" } : Jvm.MethodName), prog_24_method_2_code, 1, (Option.some Jvm.ClassFile.FieldType.int), none)
def M147 : rM := (({ cls := "WordWrightModel$Dfa", name := "go", desc := "(II)I" } : Jvm.MethodName), prog_25_method_2_code, 3, (Option.some Jvm.ClassFile.FieldType.int), none)
def M148 : rM := (({ cls := "WordWrightModel$Dfa", name := "has", desc := "(I)Z" } : Jvm.MethodName), prog_25_method_4_code, 4, (Option.some Jvm.ClassFile.FieldType.boolean), none)
def M149 : rM := (({ cls := "WordWrightModel$Dfa", name := "<init>", desc := "(I)V" } : Jvm.MethodName), prog_25_method_1_code, 2, (Option.none : Option Jvm.ClassFile.FieldType), none)
def M150 : rM := (({ cls := "WordWrightModel$Dfa", name := "isNone", desc := "()Z" } : Jvm.MethodName), prog_25_method_6_code, 1, (Option.some Jvm.ClassFile.FieldType.boolean), none)
def M151 : rM := (({ cls := "WordWrightModel$Dfa", name := "live", desc := "()[Z" } : Jvm.MethodName), prog_25_method_5_code, 5, (Option.some (Jvm.ClassFile.FieldType.array Jvm.ClassFile.FieldType.boolean)), none)
def M152 : rM := (({ cls := "WordWrightModel$Dfa", name := "same", desc := "(LWordWrightModel$Dfa;)Z" } : Jvm.MethodName), prog_25_method_3_code, 5, (Option.some Jvm.ClassFile.FieldType.boolean), none)
def M153 : rM := (({ cls := "WordWrightModel$Equations", name := "go", desc := "(II[I[I[I)V" } : Jvm.MethodName), prog_26_method_7_code, 12, (Option.none : Option Jvm.ClassFile.FieldType), none)
def M154 : rM := (({ cls := "WordWrightModel$Equations", name := "<init>", desc := "()V" } : Jvm.MethodName), prog_26_method_1_code, 1, (Option.none : Option Jvm.ClassFile.FieldType), none)
def M155 : rM := (({ cls := "WordWrightModel$Equations", name := "solve", desc := "()V" } : Jvm.MethodName), prog_26_method_3_code, 9, (Option.none : Option Jvm.ClassFile.FieldType), none)
def M156 : rM := (({ cls := "WordWrightModel$Equations", name := "words", desc := "(II)[I" } : Jvm.MethodName), prog_26_method_2_code, 6, (Option.some (Jvm.ClassFile.FieldType.array Jvm.ClassFile.FieldType.int)), none)
def M157 : rM := (({ cls := "WordWrightModel$Machine", name := "<init>", desc := "()V" } : Jvm.MethodName), prog_27_method_1_code, 1, (Option.none : Option Jvm.ClassFile.FieldType), none)
def M158 : rM := (({ cls := "WordWrightModel$Search", name := "<init>", desc := "()V" } : Jvm.MethodName), prog_28_method_1_code, 1, (Option.none : Option Jvm.ClassFile.FieldType), none)
def M159 : rM := (({ cls := "WordWrightModel$Search", name := "isBlankMeant", desc := "()Z" } : Jvm.MethodName), prog_28_method_6_code, 1, (Option.some Jvm.ClassFile.FieldType.boolean), none)
def M160 : rM := (({ cls := "WordWrightModel$Search", name := "least", desc := "()I" } : Jvm.MethodName), prog_28_method_7_code, 15, (Option.some Jvm.ClassFile.FieldType.int), none)
def M161 : rM := (({ cls := "WordWrightModel$Spans", name := "<init>", desc := "(LWordWrightModel;)V" } : Jvm.MethodName), prog_29_method_1_code, 4, (Option.none : Option Jvm.ClassFile.FieldType), none)
def M162 : rM := (({ cls := "WordWrightModel$Step", name := "<init>", desc := "(IIII)V" } : Jvm.MethodName), prog_30_method_1_code, 5, (Option.none : Option Jvm.ClassFile.FieldType), none)
def M163 : rM := (({ cls := "WordWrightModel$Walk", name := "<init>", desc := "()V" } : Jvm.MethodName), prog_31_method_1_code, 1, (Option.none : Option Jvm.ClassFile.FieldType), none)
def M164 : rM := (({ cls := "WordWrightModel$Walk", name := "isAlike", desc := "([I[III)Z" } : Jvm.MethodName), prog_31_method_11_code, 6, (Option.some Jvm.ClassFile.FieldType.boolean), none)
def M165 : rM := (({ cls := "WordWrightModel$Walk", name := "most", desc := "()I" } : Jvm.MethodName), prog_31_method_5_code, 1, (Option.some Jvm.ClassFile.FieldType.int), none)
def M166 : rM := (({ cls := "WordWrightModel$Walk", name := "numbered", desc := "([J[I[I[II)LWordWrightModel$Dfa;" } : Jvm.MethodName), prog_31_method_12_code, 14, (Option.some (Jvm.ClassFile.FieldType.object "WordWrightModel$Dfa")), none)
def M167 : rM := (({ cls := "WordWrightModel$Walk", name := "parted", desc := "([J[II)LWordWrightModel$Dfa;" } : Jvm.MethodName), prog_31_method_10_code, 11, (Option.some (Jvm.ClassFile.FieldType.object "WordWrightModel$Dfa")), none)
def M168 : rM := (({ cls := "WordWrightModel$Walk", name := "slot", desc := "(J[I[J)I" } : Jvm.MethodName), prog_31_method_7_code, 5, (Option.some Jvm.ClassFile.FieldType.int), none)
def M169 : rM := (({ cls := "WordWrightModel$Walk", name := "smallest", desc := "()LWordWrightModel$Dfa;" } : Jvm.MethodName), prog_31_method_6_code, 12, (Option.some (Jvm.ClassFile.FieldType.object "WordWrightModel$Dfa")), none)
def M170 : rM := (({ cls := "WordWrightModel", name := "arc", desc := "(IIIII)I" } : Jvm.MethodName), prog_13_method_37_code, 7, (Option.some Jvm.ClassFile.FieldType.int), none)
def M171 : rM := (({ cls := "WordWrightModel", name := "bad", desc := "(I)I" } : Jvm.MethodName), prog_13_method_70_code, 2, (Option.some Jvm.ClassFile.FieldType.int), none)
def M172 : rM := (({ cls := "WordWrightModel", name := "beneath", desc := "(III)I" } : Jvm.MethodName), prog_13_method_55_code, 6, (Option.some Jvm.ClassFile.FieldType.int), none)
def M173 : rM := (({ cls := "WordWrightModel", name := "beyond", desc := "(LWordWrightModel$Dfa;LWordWrightModel$Dfa;)I" } : Jvm.MethodName), prog_13_method_14_code, 2, (Option.some Jvm.ClassFile.FieldType.int), none)
def M174 : rM := (({ cls := "WordWrightModel", name := "beyond", desc := "(II)I" } : Jvm.MethodName), prog_13_method_35_code, 6, (Option.some Jvm.ClassFile.FieldType.int), none)
def M175 : rM := (({ cls := "WordWrightModel", name := "breaks", desc := "(III)I" } : Jvm.MethodName), prog_13_method_47_code, 8, (Option.some Jvm.ClassFile.FieldType.int), none)
def M176 : rM := (({ cls := "WordWrightModel", name := "clear", desc := "()I" } : Jvm.MethodName), prog_13_method_66_code, 2, (Option.some Jvm.ClassFile.FieldType.int), none)
def M177 : rM := (({ cls := "WordWrightModel", name := "count", desc := "(LWordWrightModel$Dfa;I)I" } : Jvm.MethodName), prog_13_method_33_code, 7, (Option.some Jvm.ClassFile.FieldType.int), none)
def M178 : rM := (({ cls := "WordWrightModel", name := "digest", desc := "()J" } : Jvm.MethodName), prog_13_method_76_code, 12, (Option.some Jvm.ClassFile.FieldType.long), none)
def M179 : rM := (({ cls := "WordWrightModel", name := "domain", desc := "(III)I" } : Jvm.MethodName), prog_13_method_48_code, 5, (Option.some Jvm.ClassFile.FieldType.int), none)
def M180 : rM := (({ cls := "WordWrightModel", name := "equation", desc := "()I" } : Jvm.MethodName), prog_13_method_49_code, 2, (Option.some Jvm.ClassFile.FieldType.int), none)
def M181 : rM := (({ cls := "WordWrightModel", name := "finals", desc := "(II)I" } : Jvm.MethodName), prog_13_method_38_code, 5, (Option.some Jvm.ClassFile.FieldType.int), none)
def M182 : rM := (({ cls := "WordWrightModel", name := "has", desc := "(II)Z" } : Jvm.MethodName), prog_13_method_32_code, 4, (Option.some Jvm.ClassFile.FieldType.boolean), none)
def M183 : rM := (({ cls := "WordWrightModel", name := "heads", desc := "(LWordWrightModel$Dfa;)LWordWrightModel$Dfa;" } : Jvm.MethodName), prog_13_method_10_code, 2, (Option.some (Jvm.ClassFile.FieldType.object "WordWrightModel$Dfa")), none)
def M184 : rM := (({ cls := "WordWrightModel", name := "howMany", desc := "(II)I" } : Jvm.MethodName), prog_13_method_34_code, 4, (Option.some Jvm.ClassFile.FieldType.int), none)
def M185 : rM := (({ cls := "WordWrightModel", name := "in", desc := "(II)Z" } : Jvm.MethodName), prog_13_method_20_code, 2, (Option.some Jvm.ClassFile.FieldType.boolean), none)
def M186 : rM := (({ cls := "WordWrightModel", name := "<init>", desc := "()V" } : Jvm.MethodName), prog_13_method_17_code, 2, (Option.none : Option Jvm.ClassFile.FieldType), none)
def M187 : rM := (({ cls := "WordWrightModel", name := "isEndless", desc := "(LWordWrightModel$Dfa;)Z" } : Jvm.MethodName), prog_13_method_27_code, 1, (Option.some Jvm.ClassFile.FieldType.boolean), none)
def M188 : rM := (({ cls := "WordWrightModel", name := "isRight", desc := "(III)Z" } : Jvm.MethodName), prog_13_method_21_code, 7, (Option.some Jvm.ClassFile.FieldType.boolean), none)
def M189 : rM := (({ cls := "WordWrightModel", name := "isWord", desc := "(I)Z" } : Jvm.MethodName), prog_13_method_2_code, 3, (Option.some Jvm.ClassFile.FieldType.boolean), none)
def M190 : rM := (({ cls := "WordWrightModel", name := "joined", desc := "(LWordWrightModel$Dfa;LWordWrightModel$Dfa;)LWordWrightModel$Dfa;" } : Jvm.MethodName), prog_13_method_5_code, 2, (Option.some (Jvm.ClassFile.FieldType.object "WordWrightModel$Dfa")), none)
def M191 : rM := (({ cls := "WordWrightModel", name := "languageNow", desc := "(LWordWrightModel$Dfa;I)I" } : Jvm.MethodName), prog_13_method_29_code, 5, (Option.some Jvm.ClassFile.FieldType.int), none)
def M192 : rM := (({ cls := "WordWrightModel", name := "least", desc := "(LWordWrightModel$Dfa;)I" } : Jvm.MethodName), prog_13_method_24_code, 2, (Option.some Jvm.ClassFile.FieldType.int), none)
def M193 : rM := (({ cls := "WordWrightModel", name := "least", desc := "(II)I" } : Jvm.MethodName), prog_13_method_61_code, 4, (Option.some Jvm.ClassFile.FieldType.int), none)
def M194 : rM := (({ cls := "WordWrightModel", name := "length", desc := "(I)I" } : Jvm.MethodName), prog_13_method_1_code, 3, (Option.some Jvm.ClassFile.FieldType.int), none)
def M195 : rM := (({ cls := "WordWrightModel", name := "lettersOf", desc := "(LWordWrightModel$Dfa;[Z)I" } : Jvm.MethodName), prog_13_method_28_code, 8, (Option.some Jvm.ClassFile.FieldType.int), none)
def M196 : rM := (({ cls := "WordWrightModel", name := "longest", desc := "(LWordWrightModel$Dfa;)I" } : Jvm.MethodName), prog_13_method_26_code, 9, (Option.some Jvm.ClassFile.FieldType.int), none)
def M197 : rM := (({ cls := "WordWrightModel", name := "loop", desc := "(II)I" } : Jvm.MethodName), prog_13_method_46_code, 4, (Option.some Jvm.ClassFile.FieldType.int), none)
def M198 : rM := (({ cls := "WordWrightModel", name := "machine", desc := "()I" } : Jvm.MethodName), prog_13_method_36_code, 1, (Option.some Jvm.ClassFile.FieldType.int), none)
def M199 : rM := (({ cls := "WordWrightModel", name := "made", desc := "(III)LWordWrightModel$Dfa;" } : Jvm.MethodName), prog_13_method_22_code, 4, (Option.some (Jvm.ClassFile.FieldType.object "WordWrightModel$Dfa")), none)
def M200 : rM := (({ cls := "WordWrightModel", name := "make", desc := "(III)I" } : Jvm.MethodName), prog_13_method_23_code, 6, (Option.some Jvm.ClassFile.FieldType.int), none)
def M201 : rM := (({ cls := "WordWrightModel", name := "many", desc := "(I)I" } : Jvm.MethodName), prog_13_method_72_code, 2, (Option.some Jvm.ClassFile.FieldType.int), none)
def M202 : rM := (({ cls := "WordWrightModel", name := "manyNow", desc := "(ILWordWrightModel$Spans;)I" } : Jvm.MethodName), prog_13_method_71_code, 5, (Option.some Jvm.ClassFile.FieldType.int), none)
def M203 : rM := (({ cls := "WordWrightModel", name := "meanSize", desc := "()D" } : Jvm.MethodName), prog_13_method_73_code, 3, (Option.some Jvm.ClassFile.FieldType.double), none)
def M204 : rM := (({ cls := "WordWrightModel", name := "meets", desc := "(LWordWrightModel$Dfa;J)Z" } : Jvm.MethodName), prog_13_method_7_code, 5, (Option.some Jvm.ClassFile.FieldType.boolean), none)
def M205 : rM := (({ cls := "WordWrightModel", name := "misfit", desc := "(I)I" } : Jvm.MethodName), prog_13_method_58_code, 3, (Option.some Jvm.ClassFile.FieldType.int), none)
def M206 : rM := (({ cls := "WordWrightModel", name := "next", desc := "(III)I" } : Jvm.MethodName), prog_13_method_31_code, 5, (Option.some Jvm.ClassFile.FieldType.int), none)
def M207 : rM := (({ cls := "WordWrightModel", name := "no", desc := "(I)I" } : Jvm.MethodName), prog_13_method_19_code, 2, (Option.some Jvm.ClassFile.FieldType.int), none)
def M208 : rM := (({ cls := "WordWrightModel", name := "node", desc := "(II)I" } : Jvm.MethodName), prog_13_method_56_code, 5, (Option.some Jvm.ClassFile.FieldType.int), none)
def M209 : rM := (({ cls := "WordWrightModel", name := "none", desc := "()LWordWrightModel$Dfa;" } : Jvm.MethodName), prog_13_method_25_code, 1, (Option.some (Jvm.ClassFile.FieldType.object "WordWrightModel$Dfa")), none)
def M210 : rM := (({ cls := "WordWrightModel", name := "ofLanguage", desc := "(II)I" } : Jvm.MethodName), prog_13_method_30_code, 4, (Option.some Jvm.ClassFile.FieldType.int), none)
def M211 : rM := (({ cls := "WordWrightModel", name := "one", desc := "(II)[Z" } : Jvm.MethodName), prog_13_method_13_code, 3, (Option.some (Jvm.ClassFile.FieldType.array Jvm.ClassFile.FieldType.boolean)), none)
def M212 : rM := (({ cls := "WordWrightModel", name := "pair", desc := "(ILWordWrightModel$Dfa;LWordWrightModel$Dfa;)LWordWrightModel$Dfa;" } : Jvm.MethodName), prog_13_method_4_code, 3, (Option.some (Jvm.ClassFile.FieldType.object "WordWrightModel$Dfa")), none)
def M213 : rM := (({ cls := "WordWrightModel", name := "schema", desc := "()I" } : Jvm.MethodName), prog_13_method_54_code, 2, (Option.some Jvm.ClassFile.FieldType.int), none)
def M214 : rM := (({ cls := "WordWrightModel", name := "several", desc := "(II)I" } : Jvm.MethodName), prog_13_method_44_code, 4, (Option.some Jvm.ClassFile.FieldType.int), none)
def M215 : rM := (({ cls := "WordWrightModel", name := "simple", desc := "(II)LWordWrightModel$Dfa;" } : Jvm.MethodName), prog_13_method_3_code, 2, (Option.some (Jvm.ClassFile.FieldType.object "WordWrightModel$Dfa")), none)
def M216 : rM := (({ cls := "WordWrightModel", name := "solutions", desc := "()I" } : Jvm.MethodName), prog_13_method_53_code, 1, (Option.some Jvm.ClassFile.FieldType.int), none)
def M217 : rM := (({ cls := "WordWrightModel", name := "solutionsWith", desc := "(II)I" } : Jvm.MethodName), prog_13_method_75_code, 4, (Option.some Jvm.ClassFile.FieldType.int), none)
def M218 : rM := (({ cls := "WordWrightModel", name := "solved", desc := "(I)I" } : Jvm.MethodName), prog_13_method_52_code, 2, (Option.some Jvm.ClassFile.FieldType.int), none)
def M219 : rM := (({ cls := "WordWrightModel", name := "span", desc := "(III)I" } : Jvm.MethodName), prog_13_method_68_code, 4, (Option.some Jvm.ClassFile.FieldType.int), none)
def M220 : rM := (({ cls := "WordWrightModel", name := "spanNow", desc := "(LWordWrightModel$Spans;III)I" } : Jvm.MethodName), prog_13_method_67_code, 7, (Option.some Jvm.ClassFile.FieldType.int), none)
def M221 : rM := (({ cls := "WordWrightModel", name := "star", desc := "(LWordWrightModel$Dfa;)LWordWrightModel$Dfa;" } : Jvm.MethodName), prog_13_method_8_code, 1, (Option.some (Jvm.ClassFile.FieldType.object "WordWrightModel$Dfa")), none)
def M222 : rM := (({ cls := "WordWrightModel", name := "step", desc := "(LWordWrightModel$Dfa;JI)J" } : Jvm.MethodName), prog_13_method_6_code, 7, (Option.some Jvm.ClassFile.FieldType.long), none)
def M223 : rM := (({ cls := "WordWrightModel", name := "step", desc := "(IIII)I" } : Jvm.MethodName), prog_13_method_65_code, 8, (Option.some Jvm.ClassFile.FieldType.int), none)
def M224 : rM := (({ cls := "WordWrightModel", name := "symbol", desc := "(III)I" } : Jvm.MethodName), prog_13_method_50_code, 5, (Option.some Jvm.ClassFile.FieldType.int), none)
def M225 : rM := (({ cls := "WordWrightModel", name := "thrown", desc := "()I" } : Jvm.MethodName), prog_13_method_18_code, 1, (Option.some Jvm.ClassFile.FieldType.int), none)
def M226 : rM := (({ cls := "WordWrightModel", name := "turned", desc := "(LWordWrightModel$Dfa;)LWordWrightModel$Dfa;" } : Jvm.MethodName), prog_13_method_9_code, 1, (Option.some (Jvm.ClassFile.FieldType.object "WordWrightModel$Dfa")), none)
def M227 : rM := (({ cls := "WordWrightModel", name := "undo", desc := "()I" } : Jvm.MethodName), prog_13_method_51_code, 1, (Option.some Jvm.ClassFile.FieldType.int), none)
def M228 : rM := (({ cls := "WordWrightModel", name := "within", desc := "(II)I" } : Jvm.MethodName), prog_13_method_64_code, 5, (Option.some Jvm.ClassFile.FieldType.int), none)
def M229 : rM := (({ cls := "WordWrightModel", name := "wouldSize", desc := "(III)I" } : Jvm.MethodName), prog_13_method_74_code, 4, (Option.some Jvm.ClassFile.FieldType.int), none)
def M230 : rM := (({ cls := "WordWrightModel", name := "writes", desc := "(III)I" } : Jvm.MethodName), prog_13_method_42_code, 5, (Option.some Jvm.ClassFile.FieldType.int), none)
def M231 : rM := (({ cls := "WordWright$Language", name := "after", desc := "(II)I" } : Jvm.MethodName), prog_4_method_10_code, 3, (Option.some Jvm.ClassFile.FieldType.int), none)
def M232 : rM := (({ cls := "WordWright$Language", name := "afterSet", desc := "(II)I" } : Jvm.MethodName), prog_4_method_11_code, 5, (Option.some Jvm.ClassFile.FieldType.int), none)
def M233 : rM := (({ cls := "WordWright$Language", name := "aheadOfSet", desc := "(II)I" } : Jvm.MethodName), prog_4_method_12_code, 5, (Option.some Jvm.ClassFile.FieldType.int), none)
def M234 : rM := (({ cls := "WordWright$Language", name := "becomeAll", desc := "()V" } : Jvm.MethodName), prog_4_method_4_code, 1, (Option.none : Option Jvm.ClassFile.FieldType), none)
def M235 : rM := (({ cls := "WordWright$Language", name := "becomeBlank", desc := "()V" } : Jvm.MethodName), prog_4_method_5_code, 1, (Option.none : Option Jvm.ClassFile.FieldType), none)
def M236 : rM := (({ cls := "WordWright$Language", name := "becomeLetter", desc := "(I)V" } : Jvm.MethodName), prog_4_method_6_code, 4, (Option.none : Option Jvm.ClassFile.FieldType), none)
def M237 : rM := (({ cls := "WordWright$Language", name := "becomeNone", desc := "()V" } : Jvm.MethodName), prog_4_method_3_code, 1, (Option.none : Option Jvm.ClassFile.FieldType), none)
def M238 : rM := (({ cls := "WordWright$Language", name := "holds", desc := "(I)Z" } : Jvm.MethodName), prog_4_method_13_code, 4, (Option.some Jvm.ClassFile.FieldType.boolean), none)
def M239 : rM := (({ cls := "WordWright$Language", name := "<init>", desc := "()V" } : Jvm.MethodName), prog_4_method_1_code, 1, (Option.none : Option Jvm.ClassFile.FieldType), none)
def M240 : rM := (({ cls := "WordWright$Language", name := "isEnd", desc := "(I)Z" } : Jvm.MethodName), prog_4_method_9_code, 2, (Option.some Jvm.ClassFile.FieldType.boolean), none)
def M241 : rM := (({ cls := "WordWright$Language", name := "isEndless", desc := "()Z" } : Jvm.MethodName), prog_4_method_16_code, 1, (Option.some Jvm.ClassFile.FieldType.boolean), none)
def M242 : rM := (({ cls := "WordWright$Language", name := "lettersAmong", desc := "(I)I" } : Jvm.MethodName), prog_4_method_19_code, 6, (Option.some Jvm.ClassFile.FieldType.int), none)
def M243 : rM := (({ cls := "WordWright$Language", name := "livingBy", desc := "(I)I" } : Jvm.MethodName), prog_4_method_18_code, 5, (Option.some Jvm.ClassFile.FieldType.int), none)
def M244 : rM := (({ cls := "WordWright$Language", name := "longest", desc := "()I" } : Jvm.MethodName), prog_4_method_15_code, 4, (Option.some Jvm.ClassFile.FieldType.int), none)
def M245 : rM := (({ cls := "WordWright$Language", name := "reachedBy", desc := "(I)I" } : Jvm.MethodName), prog_4_method_17_code, 5, (Option.some Jvm.ClassFile.FieldType.int), none)
def M246 : rM := (({ cls := "WordWright$Language", name := "sameAs", desc := "(LWordWright$Language;)Z" } : Jvm.MethodName), prog_4_method_7_code, 3, (Option.some Jvm.ClassFile.FieldType.boolean), none)
def M247 : rM := (({ cls := "WordWright$Language", name := "take", desc := "(LWordWright$Language;)V" } : Jvm.MethodName), prog_4_method_2_code, 2, (Option.none : Option Jvm.ClassFile.FieldType), none)
def M248 : rM := (({ cls := "WordWright$Language", name := "wordsOf", desc := "(I[I)I" } : Jvm.MethodName), prog_4_method_14_code, 9, (Option.some Jvm.ClassFile.FieldType.int), none)
def M249 : rM := (({ cls := "WordWright$Machine", name := "add", desc := "(IIII)V" } : Jvm.MethodName), prog_5_method_2_code, 5, (Option.none : Option Jvm.ClassFile.FieldType), none)
def M250 : rM := (({ cls := "WordWright$Machine", name := "becomeCopier", desc := "(I)V" } : Jvm.MethodName), prog_5_method_3_code, 3, (Option.none : Option Jvm.ClassFile.FieldType), none)
def M251 : rM := (({ cls := "WordWright$Machine", name := "<init>", desc := "()V" } : Jvm.MethodName), prog_5_method_1_code, 1, (Option.none : Option Jvm.ClassFile.FieldType), none)
def M252 : rM := (({ cls := "WordWright$Machine", name := "isEnd", desc := "(I)Z" } : Jvm.MethodName), prog_5_method_4_code, 2, (Option.some Jvm.ClassFile.FieldType.boolean), none)
def M253 : rM := (({ cls := "WordWright$Program", name := "add", desc := "(IIII)I" } : Jvm.MethodName), prog_6_method_2_code, 5, (Option.some Jvm.ClassFile.FieldType.int), none)
def M254 : rM := (({ cls := "WordWright$Program", name := "begin", desc := "()V" } : Jvm.MethodName), prog_6_method_6_code, 2, (Option.none : Option Jvm.ClassFile.FieldType), none)
def M255 : rM := (({ cls := "WordWright$Program", name := "forget", desc := "()V" } : Jvm.MethodName), prog_6_method_3_code, 1, (Option.none : Option Jvm.ClassFile.FieldType), none)
def M256 : rM := (({ cls := "WordWright$Program", name := "<init>", desc := "()V" } : Jvm.MethodName), prog_6_method_1_code, 2, (Option.none : Option Jvm.ClassFile.FieldType), none)
def M257 : rM := (({ cls := "WordWright$Program", name := "lookThrough", desc := "([LWordWright$Language;[LWordWright$Machine;LWordWright$Workshop;)V" } : Jvm.MethodName), prog_6_method_5_code, 7, (Option.none : Option Jvm.ClassFile.FieldType), none)
def M258 : rM := (({ cls := "WordWright$Program", name := "placeOf", desc := "(I)I" } : Jvm.MethodName), prog_6_method_4_code, 2, (Option.some Jvm.ClassFile.FieldType.int), none)
def M259 : rM := (({ cls := "WordWright$Schemas", name := "addNode", desc := "(II)I" } : Jvm.MethodName), prog_7_method_3_code, 3, (Option.some Jvm.ClassFile.FieldType.int), none)
def M260 : rM := (({ cls := "WordWright$Schemas", name := "<init>", desc := "()V" } : Jvm.MethodName), prog_7_method_1_code, 1, (Option.none : Option Jvm.ClassFile.FieldType), none)
def M261 : rM := (({ cls := "WordWright$Search", name := "goOn", desc := "(ILWordWright$Machine;LWordWright$Language;LWordWright$Language;)V" } : Jvm.MethodName), prog_8_method_7_code, 12, (Option.none : Option Jvm.ClassFile.FieldType), none)
def M262 : rM := (({ cls := "WordWright$Search", name := "<init>", desc := "()V" } : Jvm.MethodName), prog_8_method_1_code, 1, (Option.none : Option Jvm.ClassFile.FieldType), none)
def M263 : rM := (({ cls := "WordWright$Search", name := "leastAmong", desc := "(IILWordWright$Machine;LWordWright$Language;LWordWright$Language;)I" } : Jvm.MethodName), prog_8_method_6_code, 10, (Option.some Jvm.ClassFile.FieldType.int), none)
def M264 : rM := (({ cls := "WordWright$Search", name := "leastBeyond", desc := "(LWordWright$Language;LWordWright$Language;)I" } : Jvm.MethodName), prog_8_method_3_code, 3, (Option.some Jvm.ClassFile.FieldType.int), none)
def M265 : rM := (({ cls := "WordWright$Search", name := "leastBroken", desc := "(LWordWright$Machine;LWordWright$Language;LWordWright$Language;)I" } : Jvm.MethodName), prog_8_method_4_code, 9, (Option.some Jvm.ClassFile.FieldType.int), none)
def M266 : rM := (({ cls := "WordWright$Search", name := "leastOf", desc := "(LWordWright$Language;)I" } : Jvm.MethodName), prog_8_method_2_code, 2, (Option.some Jvm.ClassFile.FieldType.int), none)
def M267 : rM := (({ cls := "WordWright$Search", name := "reach", desc := "(II)V" } : Jvm.MethodName), prog_8_method_5_code, 3, (Option.none : Option Jvm.ClassFile.FieldType), none)
def M268 : rM := (({ cls := "WordWright$Solver", name := "allow", desc := "(LWordWright$Equations;[LWordWright$Language;)V" } : Jvm.MethodName), prog_9_method_4_code, 7, (Option.none : Option Jvm.ClassFile.FieldType), none)
def M269 : rM := (({ cls := "WordWright$Solver", name := "begin", desc := "(I)V" } : Jvm.MethodName), prog_9_method_5_code, 4, (Option.none : Option Jvm.ClassFile.FieldType), none)
def M270 : rM := (({ cls := "WordWright$Solver", name := "countCase", desc := "()I" } : Jvm.MethodName), prog_9_method_10_code, 3, (Option.some Jvm.ClassFile.FieldType.int), none)
def M271 : rM := (({ cls := "WordWright$Solver", name := "countTeam", desc := "(I)I" } : Jvm.MethodName), prog_9_method_14_code, 5, (Option.some Jvm.ClassFile.FieldType.int), none)
def M272 : rM := (({ cls := "WordWright$Solver", name := "findTeams", desc := "()V" } : Jvm.MethodName), prog_9_method_11_code, 3, (Option.none : Option Jvm.ClassFile.FieldType), none)
def M273 : rM := (({ cls := "WordWright$Solver", name := "<init>", desc := "()V" } : Jvm.MethodName), prog_9_method_1_code, 1, (Option.none : Option Jvm.ClassFile.FieldType), none)
def M274 : rM := (({ cls := "WordWright$Solver", name := "isAllowed", desc := "()Z" } : Jvm.MethodName), prog_9_method_6_code, 2, (Option.some Jvm.ClassFile.FieldType.boolean), none)
def M275 : rM := (({ cls := "WordWright$Solver", name := "isOpen", desc := "(I)Z" } : Jvm.MethodName), prog_9_method_16_code, 3, (Option.some Jvm.ClassFile.FieldType.boolean), none)
def M276 : rM := (({ cls := "WordWright$Solver", name := "isTeamAllowed", desc := "(I)Z" } : Jvm.MethodName), prog_9_method_17_code, 4, (Option.some Jvm.ClassFile.FieldType.boolean), none)
def M277 : rM := (({ cls := "WordWright$Solver", name := "keepGuess", desc := "(I)V" } : Jvm.MethodName), prog_9_method_18_code, 3, (Option.none : Option Jvm.ClassFile.FieldType), none)
def M278 : rM := (({ cls := "WordWright$Solver", name := "openLetters", desc := "(I)V" } : Jvm.MethodName), prog_9_method_15_code, 5, (Option.none : Option Jvm.ClassFile.FieldType), none)
def M279 : rM := (({ cls := "WordWright$Solver", name := "sharesLetter", desc := "(II)Z" } : Jvm.MethodName), prog_9_method_13_code, 6, (Option.some Jvm.ClassFile.FieldType.boolean), none)
def M280 : rM := (({ cls := "WordWright$Solver", name := "solve", desc := "(LWordWright$Equations;[LWordWright$Language;)V" } : Jvm.MethodName), prog_9_method_2_code, 7, (Option.none : Option Jvm.ClassFile.FieldType), none)
def M281 : rM := (({ cls := "WordWright$Solver", name := "tieAll", desc := "(LWordWright$Equations;)Z" } : Jvm.MethodName), prog_9_method_7_code, 5, (Option.some Jvm.ClassFile.FieldType.boolean), none)
def M282 : rM := (({ cls := "WordWright$Solver", name := "wordOf", desc := "(I)I" } : Jvm.MethodName), prog_9_method_19_code, 4, (Option.some Jvm.ClassFile.FieldType.int), none)
def M283 : rM := (({ cls := "WordWright$Workshop", name := "combined", desc := "(LWordWright$Language;LWordWright$Language;ILWordWright$Language;)Z" } : Jvm.MethodName), prog_10_method_3_code, 10, (Option.some Jvm.ClassFile.FieldType.boolean), none)
def M284 : rM := (({ cls := "WordWright$Workshop", name := "heads", desc := "(LWordWright$Language;LWordWright$Language;)Z" } : Jvm.MethodName), prog_10_method_7_code, 7, (Option.some Jvm.ClassFile.FieldType.boolean), none)
def M285 : rM := (({ cls := "WordWright$Workshop", name := "<init>", desc := "()V" } : Jvm.MethodName), prog_10_method_1_code, 1, (Option.none : Option Jvm.ClassFile.FieldType), none)
def M286 : rM := (({ cls := "WordWright$Workshop", name := "isIn", desc := "(ZZI)Z" } : Jvm.MethodName), prog_10_method_4_code, 3, (Option.some Jvm.ClassFile.FieldType.boolean), none)
def M287 : rM := (({ cls := "WordWright$Workshop", name := "joined", desc := "(LWordWright$Language;LWordWright$Language;LWordWright$Language;)Z" } : Jvm.MethodName), prog_10_method_2_code, 10, (Option.some Jvm.ClassFile.FieldType.boolean), none)
def M288 : rM := (({ cls := "WordWright$Workshop", name := "star", desc := "(LWordWright$Language;LWordWright$Language;)Z" } : Jvm.MethodName), prog_10_method_5_code, 8, (Option.some Jvm.ClassFile.FieldType.boolean), none)
def M289 : rM := (({ cls := "WordWright$Workshop", name := "turned", desc := "(LWordWright$Language;LWordWright$Language;)Z" } : Jvm.MethodName), prog_10_method_6_code, 6, (Option.some Jvm.ClassFile.FieldType.boolean), none)
def M290 : rM := (({ cls := "WordWright$Writings", name := "firstPlace", desc := "(I)I" } : Jvm.MethodName), prog_11_method_8_code, 1, (Option.some Jvm.ClassFile.FieldType.int), none)
def M291 : rM := (({ cls := "WordWright$Writings", name := "<init>", desc := "()V" } : Jvm.MethodName), prog_11_method_1_code, 1, (Option.none : Option Jvm.ClassFile.FieldType), none)
def M292 : rM := (({ cls := "WordWright$Writings", name := "wordsUpTo", desc := "(I)I" } : Jvm.MethodName), prog_11_method_7_code, 1, (Option.some Jvm.ClassFile.FieldType.int), none)
def labL : List (rM × Nat) := [(M0, 0), (M1, 0), (M2, 0), (M3, 0), (M3, 5), (M4, 1), (M5, 1), (M6, 0), (M7, 0), (M8, 0), (M9, 0), (M10, 0), (M11, 0), (M12, 0), (M13, 0), (M14, 0), (M15, 0), (M16, 0), (M17, 0), (M18, 0), (M19, 0), (M20, 0), (M21, 0), (M22, 0), (M23, 0), (M24, 0), (M25, 0), (M26, 0), (M27, 0), (M28, 0), (M28, 23), (M29, 0), (M30, 0), (M31, 0), (M32, 0), (M33, 0), (M34, 0), (M35, 0), (M36, 0), (M37, 0), (M38, 0), (M39, 0), (M40, 0), (M41, 0), (M42, 0), (M43, 0), (M44, 0), (M45, 0), (M46, 0), (M47, 0), (M48, 0), (M49, 0), (M50, 0), (M51, 0), (M51, 39), (M51, 86), (M52, 0), (M52, 2), (M52, 40), (M53, 0), (M53, 9), (M54, 0), (M54, 4), (M54, 21), (M55, 0), (M56, 0), (M57, 0), (M58, 0), (M59, 0), (M60, 0), (M61, 0), (M62, 0), (M63, 0), (M64, 0), (M65, 0), (M66, 0), (M67, 0), (M67, 29), (M67, 68), (M68, 0), (M69, 0), (M70, 0), (M71, 0), (M72, 0), (M73, 0), (M73, 120), (M73, 147), (M74, 0), (M75, 0), (M76, 0), (M77, 0), (M78, 0), (M79, 0), (M80, 0), (M81, 0), (M82, 0), (M83, 0), (M84, 0), (M85, 0), (M86, 0), (M87, 0), (M88, 0), (M89, 0), (M89, 4), (M90, 0), (M91, 0), (M91, 5), (M91, 26), (M91, 93), (M92, 0), (M93, 0), (M93, 5), (M93, 15), (M93, 24), (M94, 0), (M95, 0), (M96, 0), (M96, 2), (M97, 0), (M98, 0), (M99, 0), (M100, 0), (M101, 0), (M102, 0), (M103, 0), (M104, 0), (M105, 0), (M106, 0), (M107, 0), (M108, 0), (M109, 0), (M110, 0), (M111, 0), (M112, 0), (M113, 0), (M114, 0), (M115, 0), (M116, 0), (M117, 0), (M118, 0), (M119, 0), (M120, 0), (M121, 0), (M122, 0), (M123, 0), (M124, 0), (M125, 0), (M126, 0), (M127, 0), (M128, 0), (M129, 0), (M130, 0), (M130, 4), (M131, 0), (M131, 6), (M132, 0), (M133, 0), (M134, 0), (M135, 0), (M136, 0), (M137, 0), (M138, 0), (M139, 0), (M140, 0), (M141, 0), (M142, 0), (M143, 0), (M143, 10), (M144, 0), (M145, 0), (M146, 0), (M147, 0), (M148, 0), (M148, 9), (M149, 0), (M150, 0), (M151, 0), (M151, 9), (M151, 19), (M151, 42), (M152, 0), (M152, 19), (M152, 55), (M153, 0), (M153, 11), (M153, 119), (M154, 0), (M155, 0), (M155, 14), (M155, 290), (M155, 336), (M155, 400), (M156, 0), (M156, 11), (M157, 0), (M158, 0), (M159, 0), (M160, 0), (M160, 22), (M160, 90), (M160, 109), (M160, 161), (M161, 0), (M162, 0), (M163, 0), (M164, 0), (M164, 19), (M165, 0), (M166, 0), (M166, 26), (M166, 65), (M166, 101), (M167, 0), (M167, 11), (M167, 54), (M167, 80), (M167, 97), (M167, 106), (M168, 0), (M169, 0), (M169, 48), (M169, 58), (M170, 0), (M171, 0), (M172, 0), (M173, 0), (M174, 0), (M175, 0), (M176, 0), (M177, 0), (M177, 9), (M177, 42), (M177, 58), (M177, 70), (M178, 0), (M178, 21), (M178, 52), (M178, 85), (M178, 142), (M178, 155), (M178, 365), (M178, 562), (M178, 572), (M178, 581), (M179, 0), (M180, 0), (M181, 0), (M182, 0), (M183, 0), (M184, 0), (M185, 0), (M186, 0), (M186, 115), (M187, 0), (M188, 0), (M189, 0), (M189, 4), (M190, 0), (M191, 0), (M191, 46), (M192, 0), (M193, 0), (M194, 0), (M194, 4), (M195, 0), (M195, 22), (M195, 34), (M195, 61), (M195, 154), (M195, 166), (M196, 0), (M196, 19), (M196, 42), (M196, 87), (M197, 0), (M198, 0), (M199, 0), (M200, 0), (M200, 47), (M201, 0), (M202, 0), (M203, 0), (M203, 9), (M204, 0), (M204, 5), (M205, 0), (M206, 0), (M207, 0), (M208, 0), (M209, 0), (M210, 0), (M211, 0), (M212, 0), (M213, 0), (M214, 0), (M215, 0), (M216, 0), (M217, 0), (M218, 0), (M219, 0), (M220, 0), (M221, 0), (M222, 0), (M222, 6), (M223, 0), (M224, 0), (M225, 0), (M226, 0), (M227, 0), (M228, 0), (M229, 0), (M230, 0), (M231, 0), (M232, 0), (M232, 5), (M233, 0), (M233, 5), (M234, 0), (M235, 0), (M236, 0), (M237, 0), (M238, 0), (M238, 9), (M239, 0), (M240, 0), (M241, 0), (M242, 0), (M242, 18), (M243, 0), (M244, 0), (M244, 6), (M245, 0), (M246, 0), (M246, 26), (M247, 0), (M248, 0), (M248, 5), (M248, 41), (M248, 56), (M248, 71), (M249, 0), (M250, 0), (M250, 12), (M251, 0), (M252, 0), (M253, 0), (M254, 0), (M254, 2), (M254, 41), (M255, 0), (M256, 0), (M256, 85), (M256, 115), (M257, 0), (M258, 0), (M259, 0), (M260, 0), (M261, 0), (M261, 27), (M262, 0), (M263, 0), (M263, 6), (M264, 0), (M265, 0), (M265, 25), (M265, 84), (M266, 0), (M267, 0), (M268, 0), (M268, 10), (M268, 18), (M268, 40), (M269, 0), (M269, 4), (M269, 30), (M269, 54), (M270, 0), (M270, 8), (M271, 0), (M271, 9), (M271, 24), (M272, 0), (M272, 2), (M272, 16), (M273, 0), (M274, 0), (M274, 2), (M275, 0), (M275, 2), (M276, 0), (M276, 2), (M277, 0), (M277, 2), (M278, 0), (M278, 7), (M278, 14), (M279, 0), (M279, 2), (M279, 15), (M280, 0), (M280, 25), (M281, 0), (M282, 0), (M282, 4), (M283, 0), (M283, 11), (M283, 92), (M284, 0), (M284, 18), (M284, 78), (M285, 0), (M286, 0), (M287, 0), (M287, 23), (M287, 104), (M288, 0), (M288, 18), (M288, 99), (M289, 0), (M289, 14), (M289, 68), (M290, 0), (M291, 0), (M292, 0)]
def lab (id : Nat) : rM × Nat := labL.getD id (M0, 1)
def rRfb (ty : FieldType) : Bool := match ty with
  | .int => true
  | .long => true
  | .boolean => true
  | .object _ => true
  | .array _ => true
  | _ => false
theorem rRfb_of {ty : FieldType} (h : rRfb ty = true) : ty = .int ∨ ty = .long ∨ ty = .boolean ∨ (∃ C, ty = .object C) ∨ ∃ t, ty = .array t := by
  cases ty <;> first | (cases h; done) | simp
theorem kr0 : ∀ k, k < 13 → rFt 0 k = .int ∨ rFt 0 k = .long ∨ rFt 0 k = .boolean ∨ (∃ C, rFt 0 k = .object C) ∨ ∃ t, rFt 0 k = .array t := fun k hk => rRfb_of ((show ∀ k, k < 13 → rRfb (rFt 0 k) = true from by decide) k hk)
theorem kr1 : ∀ k, k < 12 → rFt 1 k = .int ∨ rFt 1 k = .long ∨ rFt 1 k = .boolean ∨ (∃ C, rFt 1 k = .object C) ∨ ∃ t, rFt 1 k = .array t := fun k hk => rRfb_of ((show ∀ k, k < 12 → rRfb (rFt 1 k) = true from by decide) k hk)
theorem kr2 : ∀ k, k < 8 → rFt 2 k = .int ∨ rFt 2 k = .long ∨ rFt 2 k = .boolean ∨ (∃ C, rFt 2 k = .object C) ∨ ∃ t, rFt 2 k = .array t := fun k hk => rRfb_of ((show ∀ k, k < 8 → rRfb (rFt 2 k) = true from by decide) k hk)
theorem kr3 : ∀ k, k < 3 → rFt 3 k = .int ∨ rFt 3 k = .long ∨ rFt 3 k = .boolean ∨ (∃ C, rFt 3 k = .object C) ∨ ∃ t, rFt 3 k = .array t := fun k hk => rRfb_of ((show ∀ k, k < 3 → rRfb (rFt 3 k) = true from by decide) k hk)
theorem kr4 : ∀ k, k < 6 → rFt 4 k = .int ∨ rFt 4 k = .long ∨ rFt 4 k = .boolean ∨ (∃ C, rFt 4 k = .object C) ∨ ∃ t, rFt 4 k = .array t := fun k hk => rRfb_of ((show ∀ k, k < 6 → rRfb (rFt 4 k) = true from by decide) k hk)
theorem kr5 : ∀ k, k < 12 → rFt 5 k = .int ∨ rFt 5 k = .long ∨ rFt 5 k = .boolean ∨ (∃ C, rFt 5 k = .object C) ∨ ∃ t, rFt 5 k = .array t := fun k hk => rRfb_of ((show ∀ k, k < 12 → rRfb (rFt 5 k) = true from by decide) k hk)
theorem kr6 : ∀ k, k < 8 → rFt 6 k = .int ∨ rFt 6 k = .long ∨ rFt 6 k = .boolean ∨ (∃ C, rFt 6 k = .object C) ∨ ∃ t, rFt 6 k = .array t := fun k hk => rRfb_of ((show ∀ k, k < 8 → rRfb (rFt 6 k) = true from by decide) k hk)
theorem kr7 : ∀ k, k < 7 → rFt 7 k = .int ∨ rFt 7 k = .long ∨ rFt 7 k = .boolean ∨ (∃ C, rFt 7 k = .object C) ∨ ∃ t, rFt 7 k = .array t := fun k hk => rRfb_of ((show ∀ k, k < 7 → rRfb (rFt 7 k) = true from by decide) k hk)
theorem kr8 : ∀ k, k < 11 → rFt 8 k = .int ∨ rFt 8 k = .long ∨ rFt 8 k = .boolean ∨ (∃ C, rFt 8 k = .object C) ∨ ∃ t, rFt 8 k = .array t := fun k hk => rRfb_of ((show ∀ k, k < 11 → rRfb (rFt 8 k) = true from by decide) k hk)
theorem kr9 : ∀ k, k < 1 → rFt 9 k = .int ∨ rFt 9 k = .long ∨ rFt 9 k = .boolean ∨ (∃ C, rFt 9 k = .object C) ∨ ∃ t, rFt 9 k = .array t := fun k hk => rRfb_of ((show ∀ k, k < 1 → rRfb (rFt 9 k) = true from by decide) k hk)
theorem kr10 : ∀ k, k < 1 → rFt 10 k = .int ∨ rFt 10 k = .long ∨ rFt 10 k = .boolean ∨ (∃ C, rFt 10 k = .object C) ∨ ∃ t, rFt 10 k = .array t := fun k hk => rRfb_of ((show ∀ k, k < 1 → rRfb (rFt 10 k) = true from by decide) k hk)
theorem kr11 : ∀ k, k < 10 → rFt 11 k = .int ∨ rFt 11 k = .long ∨ rFt 11 k = .boolean ∨ (∃ C, rFt 11 k = .object C) ∨ ∃ t, rFt 11 k = .array t := fun k hk => rRfb_of ((show ∀ k, k < 10 → rRfb (rFt 11 k) = true from by decide) k hk)
theorem kr12 : ∀ k, k < 2 → rFt 12 k = .int ∨ rFt 12 k = .long ∨ rFt 12 k = .boolean ∨ (∃ C, rFt 12 k = .object C) ∨ ∃ t, rFt 12 k = .array t := fun k hk => rRfb_of ((show ∀ k, k < 2 → rRfb (rFt 12 k) = true from by decide) k hk)
theorem kr13 : ∀ k, k < 3 → rFt 13 k = .int ∨ rFt 13 k = .long ∨ rFt 13 k = .boolean ∨ (∃ C, rFt 13 k = .object C) ∨ ∃ t, rFt 13 k = .array t := fun k hk => rRfb_of ((show ∀ k, k < 3 → rRfb (rFt 13 k) = true from by decide) k hk)
theorem kr14 : ∀ k, k < 2 → rFt 14 k = .int ∨ rFt 14 k = .long ∨ rFt 14 k = .boolean ∨ (∃ C, rFt 14 k = .object C) ∨ ∃ t, rFt 14 k = .array t := fun k hk => rRfb_of ((show ∀ k, k < 2 → rRfb (rFt 14 k) = true from by decide) k hk)
theorem kr15 : ∀ k, k < 1 → rFt 15 k = .int ∨ rFt 15 k = .long ∨ rFt 15 k = .boolean ∨ (∃ C, rFt 15 k = .object C) ∨ ∃ t, rFt 15 k = .array t := fun k hk => rRfb_of ((show ∀ k, k < 1 → rRfb (rFt 15 k) = true from by decide) k hk)
theorem kr16 : ∀ k, k < 1 → rFt 16 k = .int ∨ rFt 16 k = .long ∨ rFt 16 k = .boolean ∨ (∃ C, rFt 16 k = .object C) ∨ ∃ t, rFt 16 k = .array t := fun k hk => rRfb_of ((show ∀ k, k < 1 → rRfb (rFt 16 k) = true from by decide) k hk)
theorem kr17 : ∀ k, k < 2 → rFt 17 k = .int ∨ rFt 17 k = .long ∨ rFt 17 k = .boolean ∨ (∃ C, rFt 17 k = .object C) ∨ ∃ t, rFt 17 k = .array t := fun k hk => rRfb_of ((show ∀ k, k < 2 → rRfb (rFt 17 k) = true from by decide) k hk)
theorem kr18 : ∀ k, k < 2 → rFt 18 k = .int ∨ rFt 18 k = .long ∨ rFt 18 k = .boolean ∨ (∃ C, rFt 18 k = .object C) ∨ ∃ t, rFt 18 k = .array t := fun k hk => rRfb_of ((show ∀ k, k < 2 → rRfb (rFt 18 k) = true from by decide) k hk)
theorem kr19 : ∀ k, k < 3 → rFt 19 k = .int ∨ rFt 19 k = .long ∨ rFt 19 k = .boolean ∨ (∃ C, rFt 19 k = .object C) ∨ ∃ t, rFt 19 k = .array t := fun k hk => rRfb_of ((show ∀ k, k < 3 → rRfb (rFt 19 k) = true from by decide) k hk)
theorem kr20 : ∀ k, k < 6 → rFt 20 k = .int ∨ rFt 20 k = .long ∨ rFt 20 k = .boolean ∨ (∃ C, rFt 20 k = .object C) ∨ ∃ t, rFt 20 k = .array t := fun k hk => rRfb_of ((show ∀ k, k < 6 → rRfb (rFt 20 k) = true from by decide) k hk)
theorem kr21 : ∀ k, k < 6 → rFt 21 k = .int ∨ rFt 21 k = .long ∨ rFt 21 k = .boolean ∨ (∃ C, rFt 21 k = .object C) ∨ ∃ t, rFt 21 k = .array t := fun k hk => rRfb_of ((show ∀ k, k < 6 → rRfb (rFt 21 k) = true from by decide) k hk)
theorem kr22 : ∀ k, k < 5 → rFt 22 k = .int ∨ rFt 22 k = .long ∨ rFt 22 k = .boolean ∨ (∃ C, rFt 22 k = .object C) ∨ ∃ t, rFt 22 k = .array t := fun k hk => rRfb_of ((show ∀ k, k < 5 → rRfb (rFt 22 k) = true from by decide) k hk)
theorem kr23 : ∀ k, k < 4 → rFt 23 k = .int ∨ rFt 23 k = .long ∨ rFt 23 k = .boolean ∨ (∃ C, rFt 23 k = .object C) ∨ ∃ t, rFt 23 k = .array t := fun k hk => rRfb_of ((show ∀ k, k < 4 → rRfb (rFt 23 k) = true from by decide) k hk)
theorem kr24 : ∀ k, k < 3 → rFt 24 k = .int ∨ rFt 24 k = .long ∨ rFt 24 k = .boolean ∨ (∃ C, rFt 24 k = .object C) ∨ ∃ t, rFt 24 k = .array t := fun k hk => rRfb_of ((show ∀ k, k < 3 → rRfb (rFt 24 k) = true from by decide) k hk)
theorem cst_ok {kd : Nat} {C : String} (h0 : kd ≠ 0) (hn : rNm kd = C) : ∀ k, Nat.beq kd k = true → k ≠ 0 ∧ rNm k = C := fun k h => by
  have := bq h
  subst this
  exact ⟨h0, hn⟩
theorem rIf_i {b t f : Bool} (h : rIf b t f = true) : (b = true ∧ t = true) ∨ (b = false ∧ f = true) := by
  cases b
  · exact Or.inr ⟨rfl, h⟩
  · exact Or.inl ⟨rfl, h⟩
theorem okAs_ok : rOkA okAs := by
  intro k v h
  unfold okAs at h
  rcases rIf_i h with ⟨-, h0⟩ | ⟨-, h0⟩
  · cases h0
  rcases rIf_i h0 with ⟨e1, h1⟩ | ⟨-, h1⟩
  · have e1 := bq e1
    clear h h0
    unfold okObj at h1
    rcases rIf_i h1 with ⟨e, -⟩ | ⟨-, h2⟩
    · rw [e1, bq e]
      exact ⟨by decide, 3, (.object "java/lang/Object"), rfl, rfl, Or.inl ⟨_, rfl⟩, Or.inr ⟨114, by decide +kernel⟩⟩
    rcases rIf_i h2 with ⟨e, -⟩ | ⟨-, h3⟩
    · rw [e1, bq e]
      exact ⟨by decide, 3, (.object "java/lang/Object"), rfl, rfl, Or.inl ⟨_, rfl⟩, Or.inr ⟨104, by decide +kernel⟩⟩
    rcases rIf_i h3 with ⟨e, -⟩ | ⟨-, h4⟩
    · rw [e1, bq e]
      exact ⟨by decide, 3, (.object "java/lang/Object"), rfl, rfl, Or.inl ⟨_, rfl⟩, Or.inr ⟨99, by decide +kernel⟩⟩
    rcases rIf_i h4 with ⟨e, -⟩ | ⟨-, h5⟩
    · rw [e1, bq e]
      exact ⟨by decide, 3, (.object "java/lang/Object"), rfl, rfl, Or.inl ⟨_, rfl⟩, Or.inr ⟨84, by decide +kernel⟩⟩
    rcases rIf_i h5 with ⟨e, -⟩ | ⟨-, h6⟩
    · rw [e1, bq e]
      exact ⟨by decide, 3, (.object "java/lang/Object"), rfl, rfl, Or.inl ⟨_, rfl⟩, Or.inr ⟨71, by decide +kernel⟩⟩
    cases h6
  rcases rIf_i h1 with ⟨e, g⟩ | ⟨-, h2⟩
  · rw [bq e, bq g]
    exact ⟨by decide, 4, (.object "WordWrightModel$Dfa"), rfl, rfl, Or.inl ⟨_, rfl⟩, Or.inl (by decide +kernel)⟩
  rcases rIf_i h2 with ⟨e, g⟩ | ⟨-, h3⟩
  · rw [bq e, bq g]
    exact ⟨by decide, 5, (.object "WordWright$Language"), rfl, rfl, Or.inl ⟨_, rfl⟩, Or.inl (by decide +kernel)⟩
  rcases rIf_i h3 with ⟨e, g⟩ | ⟨-, h4⟩
  · rw [bq e, bq g]
    exact ⟨by decide, 6, (.object "WordWright$Machine"), rfl, rfl, Or.inl ⟨_, rfl⟩, Or.inl (by decide +kernel)⟩
  rcases rIf_i h4 with ⟨e, g⟩ | ⟨-, h5⟩
  · rw [bq e, bq g]
    exact ⟨by decide, 7, (.array .int), rfl, rfl, Or.inr ⟨rfl, 53, rfl⟩, Or.inl (by decide +kernel)⟩
  cases h5
theorem kc_I_1048576 : (1048576 : Int32) = nI 1048576 := by decide +kernel
theorem kc_I_1073741824 : (1073741824 : Int32) = nI 1073741824 := by decide +kernel
theorem kc_I_2097152 : (2097152 : Int32) = nI 2097152 := by decide +kernel
theorem kc_I_2147483647 : (2147483647 : Int32) = nI 2147483647 := by decide +kernel
theorem kc_I_40960 : (40960 : Int32) = nI 40960 := by decide +kernel
theorem kc_I_65536 : (65536 : Int32) = nI 65536 := by decide +kernel
theorem kc_J_1024 : (1024 : Int64) = lN 1024 := by decide +kernel
theorem kc_J_1025 : (1025 : Int64) = lN 1025 := by decide +kernel
theorem kc_J_16 : (16 : Int64) = lN 16 := by decide +kernel
theorem kc_J_2 : (2 : Int64) = lN 2 := by decide +kernel
theorem kc_J_31 : (31 : Int64) = lN 31 := by decide +kernel
theorem kc_J_58152 : (58152 : Int64) = lN 58152 := by decide +kernel
theorem kc_J_m7046029254386353131 : (-7046029254386353131 : Int64) = lN 11400714819323198485 := by decide +kernel
theorem kc_L_0 : Int64.ofNat ((0 : Fin 2) : Nat) = lN 0 := by decide +kernel
theorem kc_L_1 : Int64.ofNat ((1 : Fin 2) : Nat) = lN 1 := by decide +kernel
theorem kc_b_10 : (Int8.ofInt (10)).toInt32 = nI 10 := by decide +kernel
theorem kc_b_11 : (Int8.ofInt (11)).toInt32 = nI 11 := by decide +kernel
theorem kc_b_12 : (Int8.ofInt (12)).toInt32 = nI 12 := by decide +kernel
theorem kc_b_13 : (Int8.ofInt (13)).toInt32 = nI 13 := by decide +kernel
theorem kc_b_15 : (Int8.ofInt (15)).toInt32 = nI 15 := by decide +kernel
theorem kc_b_16 : (Int8.ofInt (16)).toInt32 = nI 16 := by decide +kernel
theorem kc_b_20 : (Int8.ofInt (20)).toInt32 = nI 20 := by decide +kernel
theorem kc_b_21 : (Int8.ofInt (21)).toInt32 = nI 21 := by decide +kernel
theorem kc_b_22 : (Int8.ofInt (22)).toInt32 = nI 22 := by decide +kernel
theorem kc_b_24 : (Int8.ofInt (24)).toInt32 = nI 24 := by decide +kernel
theorem kc_b_30 : (Int8.ofInt (30)).toInt32 = nI 30 := by decide +kernel
theorem kc_b_31 : (Int8.ofInt (31)).toInt32 = nI 31 := by decide +kernel
theorem kc_b_32 : (Int8.ofInt (32)).toInt32 = nI 32 := by decide +kernel
theorem kc_b_33 : (Int8.ofInt (33)).toInt32 = nI 33 := by decide +kernel
theorem kc_b_40 : (Int8.ofInt (40)).toInt32 = nI 40 := by decide +kernel
theorem kc_b_48 : (Int8.ofInt (48)).toInt32 = nI 48 := by decide +kernel
theorem kc_b_50 : (Int8.ofInt (50)).toInt32 = nI 50 := by decide +kernel
theorem kc_b_6 : (Int8.ofInt (6)).toInt32 = nI 6 := by decide +kernel
theorem kc_b_63 : (Int8.ofInt (63)).toInt32 = nI 63 := by decide +kernel
theorem kc_b_64 : (Int8.ofInt (64)).toInt32 = nI 64 := by decide +kernel
theorem kc_b_7 : (Int8.ofInt (7)).toInt32 = nI 7 := by decide +kernel
theorem kc_b_8 : (Int8.ofInt (8)).toInt32 = nI 8 := by decide +kernel
theorem kc_b_81 : (Int8.ofInt (81)).toInt32 = nI 81 := by decide +kernel
theorem kc_b_9 : (Int8.ofInt (9)).toInt32 = nI 9 := by decide +kernel
theorem kc_i_0 : Int32.ofInt (0) = nI 0 := by decide +kernel
theorem kc_i_1 : Int32.ofInt (1) = nI 1 := by decide +kernel
theorem kc_i_2 : Int32.ofInt (2) = nI 2 := by decide +kernel
theorem kc_i_3 : Int32.ofInt (3) = nI 3 := by decide +kernel
theorem kc_i_4 : Int32.ofInt (4) = nI 4 := by decide +kernel
theorem kc_i_5 : Int32.ofInt (5) = nI 5 := by decide +kernel
theorem kc_i_6 : Int32.ofInt (6) = nI 6 := by decide +kernel
theorem kc_i_m1 : Int32.ofInt (-1) = nI 4294967295 := by decide +kernel
theorem kc_i_m16 : Int32.ofInt (-16) = nI 4294967280 := by decide +kernel
theorem kc_i_m2 : Int32.ofInt (-2) = nI 4294967294 := by decide +kernel
theorem kc_i_m4 : Int32.ofInt (-4) = nI 4294967292 := by decide +kernel
theorem kc_i_m8 : Int32.ofInt (-8) = nI 4294967288 := by decide +kernel
theorem kc_s_1023 : (Int16.ofInt (1023)).toInt32 = nI 1023 := by decide +kernel
theorem kc_s_1024 : (Int16.ofInt (1024)).toInt32 = nI 1024 := by decide +kernel
theorem kc_s_10240 : (Int16.ofInt (10240)).toInt32 = nI 10240 := by decide +kernel
theorem kc_s_16384 : (Int16.ofInt (16384)).toInt32 = nI 16384 := by decide +kernel
theorem kc_s_256 : (Int16.ofInt (256)).toInt32 = nI 256 := by decide +kernel
theorem kc_s_400 : (Int16.ofInt (400)).toInt32 = nI 400 := by decide +kernel
theorem kc_s_4096 : (Int16.ofInt (4096)).toInt32 = nI 4096 := by decide +kernel
