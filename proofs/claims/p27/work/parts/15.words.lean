/-! words of the tables that are used, by their places (printed by wip/gen.py) -/
theorem tw_1 : Cond.selects "Sharedair$Land" ⟨"Sharedair$Land", "findHearers", "()V"⟩ ⟨"Sharedair$Land", "findHearers", "()V"⟩ ∈ TBg := tb_in 1 (by decide +kernel) (by decide +kernel)
theorem tw_2 : Cond.selects "Sharedair$Routes" ⟨"Sharedair$Routes", "renewPair", "(II)V"⟩ ⟨"Sharedair$Routes", "renewPair", "(II)V"⟩ ∈ TBg := tb_in 2 (by decide +kernel) (by decide +kernel)
theorem tw_3 : Cond.selects "Sharedair$Routes" ⟨"Sharedair$Routes", "cheapestNeighbour", "(II)I"⟩ ⟨"Sharedair$Routes", "cheapestNeighbour", "(II)I"⟩ ∈ TBg := tb_in 3 (by decide +kernel) (by decide +kernel)
theorem tw_4 : Cond.selects "Sharedair" ⟨"Sharedair", "checkNode", "(I)V"⟩ ⟨"Sharedair", "checkNode", "(I)V"⟩ ∈ TBg := tb_in 4 (by decide +kernel) (by decide +kernel)
theorem tw_5 : Cond.selects "Sharedair$Routes" ⟨"Sharedair$Routes", "follow", "(II)I"⟩ ⟨"Sharedair$Routes", "follow", "(II)I"⟩ ∈ TBg := tb_in 5 (by decide +kernel) (by decide +kernel)
theorem tw_6 : Cond.selects "Sharedair" ⟨"Sharedair", "checkSilent", "(I)V"⟩ ⟨"Sharedair", "checkSilent", "(I)V"⟩ ∈ TBg := tb_in 6 (by decide +kernel) (by decide +kernel)
theorem tw_7 : Cond.selects "Sharedair$Market" ⟨"Sharedair$Market", "weigh", "(I)V"⟩ ⟨"Sharedair$Market", "weigh", "(I)V"⟩ ∈ TBg := tb_in 7 (by decide +kernel) (by decide +kernel)
theorem tw_8 : Cond.selects "Sharedair$Market" ⟨"Sharedair$Market", "winningPrice", "(I)I"⟩ ⟨"Sharedair$Market", "winningPrice", "(I)I"⟩ ∈ TBg := tb_in 8 (by decide +kernel) (by decide +kernel)
theorem tw_9 : Cond.selects "Sharedair$Market" ⟨"Sharedair$Market", "forgetBids", "()V"⟩ ⟨"Sharedair$Market", "forgetBids", "()V"⟩ ∈ TBg := tb_in 9 (by decide +kernel) (by decide +kernel)
theorem tw_10 : Cond.selects "Sharedair$Traffic" ⟨"Sharedair$Traffic", "takeTurn", "(I)V"⟩ ⟨"Sharedair$Traffic", "takeTurn", "(I)V"⟩ ∈ TBg := tb_in 10 (by decide +kernel) (by decide +kernel)
theorem tw_11 : Cond.selects "Sharedair$Traffic" ⟨"Sharedair$Traffic", "dropFirst", "(LSharedair$Node;)V"⟩ ⟨"Sharedair$Traffic", "dropFirst", "(LSharedair$Node;)V"⟩ ∈ TBg := tb_in 11 (by decide +kernel) (by decide +kernel)
theorem tw_12 : Cond.selects "Sharedair$Traffic" ⟨"Sharedair$Traffic", "goOn", "(II)V"⟩ ⟨"Sharedair$Traffic", "goOn", "(II)V"⟩ ∈ TBg := tb_in 12 (by decide +kernel) (by decide +kernel)
theorem tw_13 : Cond.selects "Sharedair$Traffic" ⟨"Sharedair$Traffic", "end", "(I)V"⟩ ⟨"Sharedair$Traffic", "end", "(I)V"⟩ ∈ TBg := tb_in 13 (by decide +kernel) (by decide +kernel)
theorem tw_14 : Cond.selects "Sharedair$Traffic" ⟨"Sharedair$Traffic", "receive", "(ILSharedair$Frame;)V"⟩ ⟨"Sharedair$Traffic", "receive", "(ILSharedair$Frame;)V"⟩ ∈ TBg := tb_in 14 (by decide +kernel) (by decide +kernel)
theorem tw_15 : Cond.selects "Sharedair$Traffic" ⟨"Sharedair$Traffic", "arrive", "(LSharedair$Frame;)V"⟩ ⟨"Sharedair$Traffic", "arrive", "(LSharedair$Frame;)V"⟩ ∈ TBg := tb_in 15 (by decide +kernel) (by decide +kernel)
theorem tw_16 : Cond.selects "Sharedair$Traffic" ⟨"Sharedair$Traffic", "tryAgain", "(LSharedair$Node;)V"⟩ ⟨"Sharedair$Traffic", "tryAgain", "(LSharedair$Node;)V"⟩ ∈ TBg := tb_in 16 (by decide +kernel) (by decide +kernel)
theorem tw_17 : Cond.selects "Sharedair$Traffic" ⟨"Sharedair$Traffic", "draw", "(I)I"⟩ ⟨"Sharedair$Traffic", "draw", "(I)I"⟩ ∈ TBg := tb_in 17 (by decide +kernel) (by decide +kernel)
theorem tw_18 : Cond.selects "Sharedair" ⟨"Sharedair", "mixNode", "(JI)J"⟩ ⟨"Sharedair", "mixNode", "(JI)J"⟩ ∈ TBg := tb_in 18 (by decide +kernel) (by decide +kernel)
theorem tw_19 : Cond.selects "Sharedair" ⟨"Sharedair", "checkPair", "(II)V"⟩ ⟨"Sharedair", "checkPair", "(II)V"⟩ ∈ TBg := tb_in 19 (by decide +kernel) (by decide +kernel)
theorem tw_20 : Cond.selects "Sharedair$Land" ⟨"Sharedair$Land", "isCovering", "(I)Z"⟩ ⟨"Sharedair$Land", "isCovering", "(I)Z"⟩ ∈ TBg := tb_in 20 (by decide +kernel) (by decide +kernel)
theorem tw_21 : Jvm.Cond.initialized "SharedairLaw" ∈ TBg := tb_in 21 (by decide +kernel) (by decide +kernel)
theorem tw_22 : Jvm.Cond.initialized "Sharedair" ∈ TBg := tb_in 22 (by decide +kernel) (by decide +kernel)
theorem tw_23 : Jvm.Cond.initialized "Sharedair$Land" ∈ TBg := tb_in 23 (by decide +kernel) (by decide +kernel)
theorem tw_24 : Jvm.Cond.initialized "Sharedair$Node" ∈ TBg := tb_in 24 (by decide +kernel) (by decide +kernel)
theorem tw_25 : Jvm.Cond.initialized "Sharedair$FrameQueue" ∈ TBg := tb_in 25 (by decide +kernel) (by decide +kernel)
theorem tw_26 : Jvm.Cond.initialized "Sharedair$Frame" ∈ TBg := tb_in 26 (by decide +kernel) (by decide +kernel)
theorem tw_27 : Jvm.Cond.initialized "Sharedair$NumberSet" ∈ TBg := tb_in 27 (by decide +kernel) (by decide +kernel)
theorem tw_28 : Jvm.Cond.initialized "Sharedair$Routes" ∈ TBg := tb_in 28 (by decide +kernel) (by decide +kernel)
theorem tw_29 : Jvm.Cond.initialized "Sharedair$Traffic" ∈ TBg := tb_in 29 (by decide +kernel) (by decide +kernel)
theorem tw_30 : Jvm.Cond.initialized "Sharedair$Market" ∈ TBg := tb_in 30 (by decide +kernel) (by decide +kernel)
theorem tw_34 : Jvm.Cond.initialized "java/lang/IllegalArgumentException" ∈ TBg := tb_in 34 (by decide +kernel) (by decide +kernel)
theorem tw_35 : Jvm.Cond.initialized "java/lang/IllegalStateException" ∈ TBg := tb_in 35 (by decide +kernel) (by decide +kernel)
theorem tw_36 : Jvm.Cond.initialized "java/lang/IndexOutOfBoundsException" ∈ TBg := tb_in 36 (by decide +kernel) (by decide +kernel)
theorem tw_37 : Jvm.Cond.initialized "java/lang/Integer" ∈ TBg := tb_in 37 (by decide +kernel) (by decide +kernel)
theorem tw_38 : Jvm.Cond.initialized "java/lang/Long" ∈ TBg := tb_in 38 (by decide +kernel) (by decide +kernel)
theorem tw_39 : Jvm.Cond.classLink "SharedairLaw" (9 : Nat) "Sharedair" ∈ TBg := tb_in 39 (by decide +kernel) (by decide +kernel)
theorem tw_40 : Jvm.Cond.instantiable "Sharedair" (5 : Nat) ∈ TBg := tb_in 40 (by decide +kernel) (by decide +kernel)
theorem tw_41 : Jvm.Cond.methodLink "SharedairLaw" (11 : Nat) ({ cls := "Sharedair", name := "<init>", desc := "()V" } : Jvm.MethodName) ∈ TBg := tb_in 41 (by decide +kernel) (by decide +kernel)
theorem tw_42 : Jvm.Cond.instanceMethod ({ cls := "Sharedair", name := "<init>", desc := "()V" } : Jvm.MethodName) ∈ TBg := tb_in 42 (by decide +kernel) (by decide +kernel)
theorem tw_43 : Jvm.Cond.code ({ cls := "Sharedair", name := "<init>", desc := "()V" } : Jvm.MethodName) prog_1_method_1_code (1 : Nat) (Option.none : Option Jvm.ClassFile.FieldType) ∈ TBg := tb_in 43 (by decide +kernel) (by decide +kernel)
theorem tw_44 : Jvm.Cond.methodLink "Sharedair" (1 : Nat) ({ cls := "java/lang/Object", name := "<init>", desc := "()V" } : Jvm.MethodName) ∈ TBg := tb_in 44 (by decide +kernel) (by decide +kernel)
theorem tw_45 : Jvm.Cond.instanceMethod ({ cls := "java/lang/Object", name := "<init>", desc := "()V" } : Jvm.MethodName) ∈ TBg := tb_in 45 (by decide +kernel) (by decide +kernel)
theorem tw_46 : Jvm.Cond.code ({ cls := "java/lang/Object", name := "<init>", desc := "()V" } : Jvm.MethodName) object_method_1_code (1 : Nat) (Option.none : Option Jvm.ClassFile.FieldType) ∈ TBg := tb_in 46 (by decide +kernel) (by decide +kernel)
theorem tw_47 : Jvm.Cond.classLink "Sharedair" (7 : Nat) "Sharedair$Land" ∈ TBg := tb_in 47 (by decide +kernel) (by decide +kernel)
theorem tw_48 : Jvm.Cond.instantiable "Sharedair$Land" (3 : Nat) ∈ TBg := tb_in 48 (by decide +kernel) (by decide +kernel)
theorem tw_49 : Jvm.Cond.methodLink "Sharedair" (9 : Nat) ({ cls := "Sharedair$Land", name := "<init>", desc := "()V" } : Jvm.MethodName) ∈ TBg := tb_in 49 (by decide +kernel) (by decide +kernel)
theorem tw_50 : Jvm.Cond.instanceMethod ({ cls := "Sharedair$Land", name := "<init>", desc := "()V" } : Jvm.MethodName) ∈ TBg := tb_in 50 (by decide +kernel) (by decide +kernel)
theorem tw_51 : Jvm.Cond.code ({ cls := "Sharedair$Land", name := "<init>", desc := "()V" } : Jvm.MethodName) prog_4_method_1_code (2 : Nat) (Option.none : Option Jvm.ClassFile.FieldType) ∈ TBg := tb_in 51 (by decide +kernel) (by decide +kernel)
theorem tw_52 : Jvm.Cond.methodLink "Sharedair$Land" (3 : Nat) ({ cls := "java/lang/Object", name := "<init>", desc := "()V" } : Jvm.MethodName) ∈ TBg := tb_in 52 (by decide +kernel) (by decide +kernel)
theorem tw_53 : Jvm.Cond.classLink "Sharedair$Land" (9 : Nat) "Sharedair$Node" ∈ TBg := tb_in 53 (by decide +kernel) (by decide +kernel)
theorem tw_55 : Jvm.Cond.instantiable "Sharedair$Node" (16 : Nat) ∈ TBg := tb_in 55 (by decide +kernel) (by decide +kernel)
theorem tw_57 : Jvm.Cond.instanceMethod ({ cls := "Sharedair$Node", name := "<init>", desc := "()V" } : Jvm.MethodName) ∈ TBg := tb_in 57 (by decide +kernel) (by decide +kernel)
theorem tw_58 : Jvm.Cond.code ({ cls := "Sharedair$Node", name := "<init>", desc := "()V" } : Jvm.MethodName) prog_6_method_1_code (1 : Nat) (Option.none : Option Jvm.ClassFile.FieldType) ∈ TBg := tb_in 58 (by decide +kernel) (by decide +kernel)
theorem tw_59 : Jvm.Cond.methodLink "Sharedair$Node" (3 : Nat) ({ cls := "java/lang/Object", name := "<init>", desc := "()V" } : Jvm.MethodName) ∈ TBg := tb_in 59 (by decide +kernel) (by decide +kernel)
theorem tw_60 : Jvm.Cond.classLink "Sharedair$Node" (25 : Nat) "Sharedair$FrameQueue" ∈ TBg := tb_in 60 (by decide +kernel) (by decide +kernel)
theorem tw_61 : Jvm.Cond.instantiable "Sharedair$FrameQueue" (2 : Nat) ∈ TBg := tb_in 61 (by decide +kernel) (by decide +kernel)
theorem tw_62 : Jvm.Cond.methodLink "Sharedair$Node" (27 : Nat) ({ cls := "Sharedair$FrameQueue", name := "<init>", desc := "()V" } : Jvm.MethodName) ∈ TBg := tb_in 62 (by decide +kernel) (by decide +kernel)
theorem tw_63 : Jvm.Cond.instanceMethod ({ cls := "Sharedair$FrameQueue", name := "<init>", desc := "()V" } : Jvm.MethodName) ∈ TBg := tb_in 63 (by decide +kernel) (by decide +kernel)
theorem tw_64 : Jvm.Cond.code ({ cls := "Sharedair$FrameQueue", name := "<init>", desc := "()V" } : Jvm.MethodName) prog_3_method_1_code (2 : Nat) (Option.none : Option Jvm.ClassFile.FieldType) ∈ TBg := tb_in 64 (by decide +kernel) (by decide +kernel)
theorem tw_65 : Jvm.Cond.methodLink "Sharedair$FrameQueue" (3 : Nat) ({ cls := "java/lang/Object", name := "<init>", desc := "()V" } : Jvm.MethodName) ∈ TBg := tb_in 65 (by decide +kernel) (by decide +kernel)
theorem tw_66 : Jvm.Cond.classLink "Sharedair$FrameQueue" (9 : Nat) "Sharedair$Frame" ∈ TBg := tb_in 66 (by decide +kernel) (by decide +kernel)
theorem tw_68 : Jvm.Cond.instantiable "Sharedair$Frame" (5 : Nat) ∈ TBg := tb_in 68 (by decide +kernel) (by decide +kernel)
theorem tw_70 : Jvm.Cond.instanceMethod ({ cls := "Sharedair$Frame", name := "<init>", desc := "()V" } : Jvm.MethodName) ∈ TBg := tb_in 70 (by decide +kernel) (by decide +kernel)
theorem tw_71 : Jvm.Cond.code ({ cls := "Sharedair$Frame", name := "<init>", desc := "()V" } : Jvm.MethodName) prog_2_method_1_code (1 : Nat) (Option.none : Option Jvm.ClassFile.FieldType) ∈ TBg := tb_in 71 (by decide +kernel) (by decide +kernel)
theorem tw_72 : Jvm.Cond.methodLink "Sharedair$Frame" (1 : Nat) ({ cls := "java/lang/Object", name := "<init>", desc := "()V" } : Jvm.MethodName) ∈ TBg := tb_in 72 (by decide +kernel) (by decide +kernel)
theorem tw_73 : Jvm.Cond.fieldLink "Sharedair$Frame" (7 : Nat) "Sharedair$Frame" "from" "I" ∈ TBg := tb_in 73 (by decide +kernel) (by decide +kernel)
theorem tw_74 : Jvm.Cond.fieldLink "Sharedair$FrameQueue" (22 : Nat) "Sharedair$Frame" "from" "I" ∈ TBg := tb_in 74 (by decide +kernel) (by decide +kernel)
theorem tw_75 : Jvm.Cond.fieldLink "Sharedair$Traffic" (164 : Nat) "Sharedair$Frame" "from" "I" ∈ TBg := tb_in 75 (by decide +kernel) (by decide +kernel)
theorem tw_76 : Jvm.Cond.fieldLink "Sharedair" (214 : Nat) "Sharedair$Frame" "from" "I" ∈ TBg := tb_in 76 (by decide +kernel) (by decide +kernel)
theorem tw_77 : Jvm.Cond.fieldLink "Sharedair$Frame" (13 : Nat) "Sharedair$Frame" "to" "I" ∈ TBg := tb_in 77 (by decide +kernel) (by decide +kernel)
theorem tw_78 : Jvm.Cond.fieldLink "Sharedair$FrameQueue" (25 : Nat) "Sharedair$Frame" "to" "I" ∈ TBg := tb_in 78 (by decide +kernel) (by decide +kernel)
theorem tw_79 : Jvm.Cond.fieldLink "Sharedair$Traffic" (85 : Nat) "Sharedair$Frame" "to" "I" ∈ TBg := tb_in 79 (by decide +kernel) (by decide +kernel)
theorem tw_80 : Jvm.Cond.fieldLink "Sharedair" (219 : Nat) "Sharedair$Frame" "to" "I" ∈ TBg := tb_in 80 (by decide +kernel) (by decide +kernel)
theorem tw_81 : Jvm.Cond.fieldLink "Sharedair$Frame" (16 : Nat) "Sharedair$Frame" "length" "I" ∈ TBg := tb_in 81 (by decide +kernel) (by decide +kernel)
theorem tw_82 : Jvm.Cond.fieldLink "Sharedair$FrameQueue" (28 : Nat) "Sharedair$Frame" "length" "I" ∈ TBg := tb_in 82 (by decide +kernel) (by decide +kernel)
theorem tw_83 : Jvm.Cond.fieldLink "Sharedair$Traffic" (100 : Nat) "Sharedair$Frame" "length" "I" ∈ TBg := tb_in 83 (by decide +kernel) (by decide +kernel)
theorem tw_84 : Jvm.Cond.fieldLink "Sharedair" (222 : Nat) "Sharedair$Frame" "length" "I" ∈ TBg := tb_in 84 (by decide +kernel) (by decide +kernel)
theorem tw_85 : Jvm.Cond.fieldLink "Sharedair$Frame" (19 : Nat) "Sharedair$Frame" "number" "I" ∈ TBg := tb_in 85 (by decide +kernel) (by decide +kernel)
theorem tw_86 : Jvm.Cond.fieldLink "Sharedair$FrameQueue" (31 : Nat) "Sharedair$Frame" "number" "I" ∈ TBg := tb_in 86 (by decide +kernel) (by decide +kernel)
theorem tw_87 : Jvm.Cond.fieldLink "Sharedair$Traffic" (167 : Nat) "Sharedair$Frame" "number" "I" ∈ TBg := tb_in 87 (by decide +kernel) (by decide +kernel)
theorem tw_88 : Jvm.Cond.fieldLink "Sharedair" (225 : Nat) "Sharedair$Frame" "number" "I" ∈ TBg := tb_in 88 (by decide +kernel) (by decide +kernel)
theorem tw_89 : Jvm.Cond.fieldLink "Sharedair$Frame" (22 : Nat) "Sharedair$Frame" "hops" "I" ∈ TBg := tb_in 89 (by decide +kernel) (by decide +kernel)
theorem tw_90 : Jvm.Cond.fieldLink "Sharedair$FrameQueue" (34 : Nat) "Sharedair$Frame" "hops" "I" ∈ TBg := tb_in 90 (by decide +kernel) (by decide +kernel)
theorem tw_91 : Jvm.Cond.fieldLink "Sharedair$Traffic" (157 : Nat) "Sharedair$Frame" "hops" "I" ∈ TBg := tb_in 91 (by decide +kernel) (by decide +kernel)
theorem tw_92 : Jvm.Cond.fieldLink "Sharedair" (228 : Nat) "Sharedair$Frame" "hops" "I" ∈ TBg := tb_in 92 (by decide +kernel) (by decide +kernel)
theorem tw_104 : Jvm.Cond.arrayClass Jvm.ClassFile.FieldType.int ∈ TBg := tb_in 104 (by decide +kernel) (by decide +kernel)
theorem tw_105 : Jvm.Cond.fieldLink "Sharedair$FrameQueue" (11 : Nat) "Sharedair$FrameQueue" "frames" "[LSharedair$Frame;" ∈ TBg := tb_in 105 (by decide +kernel) (by decide +kernel)
theorem tw_106 : Jvm.Cond.fieldLink "Sharedair$FrameQueue" (17 : Nat) "Sharedair$FrameQueue" "size" "I" ∈ TBg := tb_in 106 (by decide +kernel) (by decide +kernel)
theorem tw_107 : Jvm.Cond.fieldLink "Sharedair$Node" (76 : Nat) "Sharedair$FrameQueue" "size" "I" ∈ TBg := tb_in 107 (by decide +kernel) (by decide +kernel)
theorem tw_108 : Jvm.Cond.fieldLink "Sharedair" (176 : Nat) "Sharedair$FrameQueue" "size" "I" ∈ TBg := tb_in 108 (by decide +kernel) (by decide +kernel)
theorem tw_109 : Jvm.Cond.fieldLink "Sharedair$Land" (68 : Nat) "Sharedair$FrameQueue" "size" "I" ∈ TBg := tb_in 109 (by decide +kernel) (by decide +kernel)
theorem tw_115 : Jvm.Cond.classLink "Sharedair$Node" (62 : Nat) "Sharedair$NumberSet" ∈ TBg := tb_in 115 (by decide +kernel) (by decide +kernel)
theorem tw_116 : Jvm.Cond.instantiable "Sharedair$NumberSet" (1 : Nat) ∈ TBg := tb_in 116 (by decide +kernel) (by decide +kernel)
theorem tw_118 : Jvm.Cond.instanceMethod ({ cls := "Sharedair$NumberSet", name := "<init>", desc := "()V" } : Jvm.MethodName) ∈ TBg := tb_in 118 (by decide +kernel) (by decide +kernel)
theorem tw_119 : Jvm.Cond.code ({ cls := "Sharedair$NumberSet", name := "<init>", desc := "()V" } : Jvm.MethodName) prog_7_method_1_code (1 : Nat) (Option.none : Option Jvm.ClassFile.FieldType) ∈ TBg := tb_in 119 (by decide +kernel) (by decide +kernel)
theorem tw_120 : Jvm.Cond.methodLink "Sharedair$NumberSet" (1 : Nat) ({ cls := "java/lang/Object", name := "<init>", desc := "()V" } : Jvm.MethodName) ∈ TBg := tb_in 120 (by decide +kernel) (by decide +kernel)
theorem tw_121 : Jvm.Cond.fieldLink "Sharedair$NumberSet" (9 : Nat) "Sharedair$NumberSet" "bits" "[J" ∈ TBg := tb_in 121 (by decide +kernel) (by decide +kernel)
theorem tw_125 : Jvm.Cond.arrayClass Jvm.ClassFile.FieldType.long ∈ TBg := tb_in 125 (by decide +kernel) (by decide +kernel)
theorem tw_126 : Jvm.Cond.fieldLink "Sharedair$Node" (9 : Nat) "Sharedair$Node" "x" "I" ∈ TBg := tb_in 126 (by decide +kernel) (by decide +kernel)
theorem tw_127 : Jvm.Cond.fieldLink "Sharedair$Land" (26 : Nat) "Sharedair$Node" "x" "I" ∈ TBg := tb_in 127 (by decide +kernel) (by decide +kernel)
theorem tw_128 : Jvm.Cond.fieldLink "Sharedair" (166 : Nat) "Sharedair$Node" "x" "I" ∈ TBg := tb_in 128 (by decide +kernel) (by decide +kernel)
theorem tw_129 : Jvm.Cond.fieldLink "Sharedair$Node" (15 : Nat) "Sharedair$Node" "y" "I" ∈ TBg := tb_in 129 (by decide +kernel) (by decide +kernel)
theorem tw_130 : Jvm.Cond.fieldLink "Sharedair$Land" (29 : Nat) "Sharedair$Node" "y" "I" ∈ TBg := tb_in 130 (by decide +kernel) (by decide +kernel)
theorem tw_131 : Jvm.Cond.fieldLink "Sharedair" (169 : Nat) "Sharedair$Node" "y" "I" ∈ TBg := tb_in 131 (by decide +kernel) (by decide +kernel)
theorem tw_132 : Jvm.Cond.fieldLink "Sharedair$Node" (18 : Nat) "Sharedair$Node" "reach" "I" ∈ TBg := tb_in 132 (by decide +kernel) (by decide +kernel)
theorem tw_133 : Jvm.Cond.fieldLink "Sharedair" (100 : Nat) "Sharedair$Node" "reach" "I" ∈ TBg := tb_in 133 (by decide +kernel) (by decide +kernel)
theorem tw_134 : Jvm.Cond.fieldLink "Sharedair$Land" (39 : Nat) "Sharedair$Node" "reach" "I" ∈ TBg := tb_in 134 (by decide +kernel) (by decide +kernel)
theorem tw_135 : Jvm.Cond.fieldLink "Sharedair$Node" (21 : Nat) "Sharedair$Node" "isCheat" "Z" ∈ TBg := tb_in 135 (by decide +kernel) (by decide +kernel)
theorem tw_136 : Jvm.Cond.fieldLink "Sharedair$Land" (42 : Nat) "Sharedair$Node" "isCheat" "Z" ∈ TBg := tb_in 136 (by decide +kernel) (by decide +kernel)
theorem tw_137 : Jvm.Cond.fieldLink "Sharedair$Traffic" (143 : Nat) "Sharedair$Node" "isCheat" "Z" ∈ TBg := tb_in 137 (by decide +kernel) (by decide +kernel)
theorem tw_138 : Jvm.Cond.fieldLink "Sharedair" (172 : Nat) "Sharedair$Node" "isCheat" "Z" ∈ TBg := tb_in 138 (by decide +kernel) (by decide +kernel)
theorem tw_139 : Jvm.Cond.fieldLink "Sharedair$Node" (28 : Nat) "Sharedair$Node" "queue" "LSharedair$FrameQueue;" ∈ TBg := tb_in 139 (by decide +kernel) (by decide +kernel)
theorem tw_140 : Jvm.Cond.fieldLink "Sharedair$Traffic" (72 : Nat) "Sharedair$Node" "queue" "LSharedair$FrameQueue;" ∈ TBg := tb_in 140 (by decide +kernel) (by decide +kernel)
theorem tw_141 : Jvm.Cond.fieldLink "Sharedair" (118 : Nat) "Sharedair$Node" "queue" "LSharedair$FrameQueue;" ∈ TBg := tb_in 141 (by decide +kernel) (by decide +kernel)
theorem tw_142 : Jvm.Cond.fieldLink "Sharedair$Land" (64 : Nat) "Sharedair$Node" "queue" "LSharedair$FrameQueue;" ∈ TBg := tb_in 142 (by decide +kernel) (by decide +kernel)
theorem tw_143 : Jvm.Cond.fieldLink "Sharedair$Node" (32 : Nat) "Sharedair$Node" "waiting" "I" ∈ TBg := tb_in 143 (by decide +kernel) (by decide +kernel)
theorem tw_144 : Jvm.Cond.fieldLink "Sharedair$Traffic" (82 : Nat) "Sharedair$Node" "waiting" "I" ∈ TBg := tb_in 144 (by decide +kernel) (by decide +kernel)
theorem tw_145 : Jvm.Cond.fieldLink "Sharedair" (179 : Nat) "Sharedair$Node" "waiting" "I" ∈ TBg := tb_in 145 (by decide +kernel) (by decide +kernel)
theorem tw_146 : Jvm.Cond.fieldLink "Sharedair$Node" (35 : Nat) "Sharedair$Node" "tries" "I" ∈ TBg := tb_in 146 (by decide +kernel) (by decide +kernel)
theorem tw_147 : Jvm.Cond.fieldLink "Sharedair$Traffic" (140 : Nat) "Sharedair$Node" "tries" "I" ∈ TBg := tb_in 147 (by decide +kernel) (by decide +kernel)
theorem tw_148 : Jvm.Cond.fieldLink "Sharedair" (182 : Nat) "Sharedair$Node" "tries" "I" ∈ TBg := tb_in 148 (by decide +kernel) (by decide +kernel)
theorem tw_149 : Jvm.Cond.fieldLink "Sharedair$Node" (38 : Nat) "Sharedair$Node" "toCome" "I" ∈ TBg := tb_in 149 (by decide +kernel) (by decide +kernel)
theorem tw_150 : Jvm.Cond.fieldLink "Sharedair$Traffic" (109 : Nat) "Sharedair$Node" "toCome" "I" ∈ TBg := tb_in 150 (by decide +kernel) (by decide +kernel)
theorem tw_151 : Jvm.Cond.fieldLink "Sharedair" (185 : Nat) "Sharedair$Node" "toCome" "I" ∈ TBg := tb_in 151 (by decide +kernel) (by decide +kernel)
theorem tw_152 : Jvm.Cond.fieldLink "Sharedair$Node" (41 : Nat) "Sharedair$Node" "next" "I" ∈ TBg := tb_in 152 (by decide +kernel) (by decide +kernel)
theorem tw_153 : Jvm.Cond.fieldLink "Sharedair$Traffic" (112 : Nat) "Sharedair$Node" "next" "I" ∈ TBg := tb_in 153 (by decide +kernel) (by decide +kernel)
theorem tw_154 : Jvm.Cond.fieldLink "Sharedair" (188 : Nat) "Sharedair$Node" "next" "I" ∈ TBg := tb_in 154 (by decide +kernel) (by decide +kernel)
theorem tw_155 : Jvm.Cond.fieldLink "Sharedair$Node" (44 : Nat) "Sharedair$Node" "nextGotAll" "Z" ∈ TBg := tb_in 155 (by decide +kernel) (by decide +kernel)
theorem tw_156 : Jvm.Cond.fieldLink "Sharedair$Traffic" (123 : Nat) "Sharedair$Node" "nextGotAll" "Z" ∈ TBg := tb_in 156 (by decide +kernel) (by decide +kernel)
theorem tw_157 : Jvm.Cond.fieldLink "Sharedair$Node" (47 : Nat) "Sharedair$Node" "slotsSent" "I" ∈ TBg := tb_in 157 (by decide +kernel) (by decide +kernel)
theorem tw_158 : Jvm.Cond.fieldLink "Sharedair$Traffic" (106 : Nat) "Sharedair$Node" "slotsSent" "I" ∈ TBg := tb_in 158 (by decide +kernel) (by decide +kernel)
theorem tw_159 : Jvm.Cond.fieldLink "Sharedair" (191 : Nat) "Sharedair$Node" "slotsSent" "I" ∈ TBg := tb_in 159 (by decide +kernel) (by decide +kernel)
theorem tw_160 : Jvm.Cond.fieldLink "Sharedair$Node" (50 : Nat) "Sharedair$Node" "starts" "I" ∈ TBg := tb_in 160 (by decide +kernel) (by decide +kernel)
theorem tw_161 : Jvm.Cond.fieldLink "Sharedair" (194 : Nat) "Sharedair$Node" "starts" "I" ∈ TBg := tb_in 161 (by decide +kernel) (by decide +kernel)
theorem tw_162 : Jvm.Cond.fieldLink "Sharedair$Node" (53 : Nat) "Sharedair$Node" "patience" "I" ∈ TBg := tb_in 162 (by decide +kernel) (by decide +kernel)
theorem tw_163 : Jvm.Cond.fieldLink "Sharedair" (197 : Nat) "Sharedair$Node" "patience" "I" ∈ TBg := tb_in 163 (by decide +kernel) (by decide +kernel)
theorem tw_164 : Jvm.Cond.fieldLink "Sharedair$Land" (73 : Nat) "Sharedair$Node" "patience" "I" ∈ TBg := tb_in 164 (by decide +kernel) (by decide +kernel)
theorem tw_165 : Jvm.Cond.fieldLink "Sharedair$Node" (56 : Nat) "Sharedair$Node" "repeats" "I" ∈ TBg := tb_in 165 (by decide +kernel) (by decide +kernel)
theorem tw_166 : Jvm.Cond.fieldLink "Sharedair" (200 : Nat) "Sharedair$Node" "repeats" "I" ∈ TBg := tb_in 166 (by decide +kernel) (by decide +kernel)
theorem tw_167 : Jvm.Cond.fieldLink "Sharedair$Land" (76 : Nat) "Sharedair$Node" "repeats" "I" ∈ TBg := tb_in 167 (by decide +kernel) (by decide +kernel)
theorem tw_168 : Jvm.Cond.fieldLink "Sharedair$Node" (59 : Nat) "Sharedair$Node" "sent" "I" ∈ TBg := tb_in 168 (by decide +kernel) (by decide +kernel)
theorem tw_169 : Jvm.Cond.fieldLink "Sharedair" (115 : Nat) "Sharedair$Node" "sent" "I" ∈ TBg := tb_in 169 (by decide +kernel) (by decide +kernel)
theorem tw_170 : Jvm.Cond.fieldLink "Sharedair$Node" (65 : Nat) "Sharedair$Node" "arrivals" "LSharedair$NumberSet;" ∈ TBg := tb_in 170 (by decide +kernel) (by decide +kernel)
theorem tw_171 : Jvm.Cond.fieldLink "Sharedair$Traffic" (174 : Nat) "Sharedair$Node" "arrivals" "LSharedair$NumberSet;" ∈ TBg := tb_in 171 (by decide +kernel) (by decide +kernel)
theorem tw_172 : Jvm.Cond.fieldLink "Sharedair" (280 : Nat) "Sharedair$Node" "arrivals" "LSharedair$NumberSet;" ∈ TBg := tb_in 172 (by decide +kernel) (by decide +kernel)
theorem tw_206 : Jvm.Cond.fieldLink "Sharedair$Land" (11 : Nat) "Sharedair$Land" "nodes" "[LSharedair$Node;" ∈ TBg := tb_in 206 (by decide +kernel) (by decide +kernel)
theorem tw_207 : Jvm.Cond.fieldLink "Sharedair$Traffic" (40 : Nat) "Sharedair$Land" "nodes" "[LSharedair$Node;" ∈ TBg := tb_in 207 (by decide +kernel) (by decide +kernel)
theorem tw_208 : Jvm.Cond.fieldLink "Sharedair" (96 : Nat) "Sharedair$Land" "nodes" "[LSharedair$Node;" ∈ TBg := tb_in 208 (by decide +kernel) (by decide +kernel)
theorem tw_209 : Jvm.Cond.fieldLink "Sharedair$Land" (17 : Nat) "Sharedair$Land" "hearers" "[I" ∈ TBg := tb_in 209 (by decide +kernel) (by decide +kernel)
theorem tw_210 : Jvm.Cond.fieldLink "Sharedair$Land" (21 : Nat) "Sharedair$Land" "count" "I" ∈ TBg := tb_in 210 (by decide +kernel) (by decide +kernel)
theorem tw_211 : Jvm.Cond.fieldLink "Sharedair$Traffic" (35 : Nat) "Sharedair$Land" "count" "I" ∈ TBg := tb_in 211 (by decide +kernel) (by decide +kernel)
theorem tw_212 : Jvm.Cond.fieldLink "Sharedair" (60 : Nat) "Sharedair$Land" "count" "I" ∈ TBg := tb_in 212 (by decide +kernel) (by decide +kernel)
theorem tw_213 : Jvm.Cond.fieldLink "Sharedair$Routes" (39 : Nat) "Sharedair$Land" "count" "I" ∈ TBg := tb_in 213 (by decide +kernel) (by decide +kernel)
theorem tw_221 : Jvm.Cond.classLink "Sharedair" (16 : Nat) "Sharedair$Routes" ∈ TBg := tb_in 221 (by decide +kernel) (by decide +kernel)
theorem tw_222 : Jvm.Cond.instantiable "Sharedair$Routes" (6 : Nat) ∈ TBg := tb_in 222 (by decide +kernel) (by decide +kernel)
theorem tw_223 : Jvm.Cond.methodLink "Sharedair" (18 : Nat) ({ cls := "Sharedair$Routes", name := "<init>", desc := "(LSharedair$Land;)V" } : Jvm.MethodName) ∈ TBg := tb_in 223 (by decide +kernel) (by decide +kernel)
theorem tw_224 : Jvm.Cond.instanceMethod ({ cls := "Sharedair$Routes", name := "<init>", desc := "(LSharedair$Land;)V" } : Jvm.MethodName) ∈ TBg := tb_in 224 (by decide +kernel) (by decide +kernel)
theorem tw_225 : Jvm.Cond.code ({ cls := "Sharedair$Routes", name := "<init>", desc := "(LSharedair$Land;)V" } : Jvm.MethodName) prog_8_method_1_code (4 : Nat) (Option.none : Option Jvm.ClassFile.FieldType) ∈ TBg := tb_in 225 (by decide +kernel) (by decide +kernel)
theorem tw_226 : Jvm.Cond.methodLink "Sharedair$Routes" (3 : Nat) ({ cls := "java/lang/Object", name := "<init>", desc := "()V" } : Jvm.MethodName) ∈ TBg := tb_in 226 (by decide +kernel) (by decide +kernel)
theorem tw_227 : Jvm.Cond.classLink "Sharedair$Routes" (9 : Nat) "[[I" ∈ TBg := tb_in 227 (by decide +kernel) (by decide +kernel)
theorem tw_229 : Jvm.Cond.fieldLink "Sharedair$Routes" (29 : Nat) "Sharedair$Routes" "land" "LSharedair$Land;" ∈ TBg := tb_in 229 (by decide +kernel) (by decide +kernel)
theorem tw_230 : Jvm.Cond.fieldLink "Sharedair$Routes" (11 : Nat) "Sharedair$Routes" "costs" "[[I" ∈ TBg := tb_in 230 (by decide +kernel) (by decide +kernel)
theorem tw_231 : Jvm.Cond.fieldLink "Sharedair$Routes" (16 : Nat) "Sharedair$Routes" "nexts" "[[I" ∈ TBg := tb_in 231 (by decide +kernel) (by decide +kernel)
theorem tw_232 : Jvm.Cond.fieldLink "Sharedair$Routes" (19 : Nat) "Sharedair$Routes" "newCosts" "[[I" ∈ TBg := tb_in 232 (by decide +kernel) (by decide +kernel)
theorem tw_233 : Jvm.Cond.fieldLink "Sharedair$Routes" (22 : Nat) "Sharedair$Routes" "newNexts" "[[I" ∈ TBg := tb_in 233 (by decide +kernel) (by decide +kernel)
theorem tw_234 : Jvm.Cond.fieldLink "Sharedair$Routes" (25 : Nat) "Sharedair$Routes" "exchanges" "I" ∈ TBg := tb_in 234 (by decide +kernel) (by decide +kernel)
theorem tw_235 : Jvm.Cond.fieldLink "Sharedair" (264 : Nat) "Sharedair$Routes" "exchanges" "I" ∈ TBg := tb_in 235 (by decide +kernel) (by decide +kernel)
theorem tw_249 : Jvm.Cond.classLink "Sharedair" (25 : Nat) "Sharedair$Traffic" ∈ TBg := tb_in 249 (by decide +kernel) (by decide +kernel)
theorem tw_250 : Jvm.Cond.instantiable "Sharedair$Traffic" (7 : Nat) ∈ TBg := tb_in 250 (by decide +kernel) (by decide +kernel)
theorem tw_251 : Jvm.Cond.methodLink "Sharedair" (27 : Nat) ({ cls := "Sharedair$Traffic", name := "<init>", desc := "(LSharedair$Land;LSharedair$Routes;)V" } : Jvm.MethodName) ∈ TBg := tb_in 251 (by decide +kernel) (by decide +kernel)
theorem tw_252 : Jvm.Cond.instanceMethod ({ cls := "Sharedair$Traffic", name := "<init>", desc := "(LSharedair$Land;LSharedair$Routes;)V" } : Jvm.MethodName) ∈ TBg := tb_in 252 (by decide +kernel) (by decide +kernel)
theorem tw_253 : Jvm.Cond.code ({ cls := "Sharedair$Traffic", name := "<init>", desc := "(LSharedair$Land;LSharedair$Routes;)V" } : Jvm.MethodName) prog_9_method_1_code (3 : Nat) (Option.none : Option Jvm.ClassFile.FieldType) ∈ TBg := tb_in 253 (by decide +kernel) (by decide +kernel)
theorem tw_254 : Jvm.Cond.methodLink "Sharedair$Traffic" (3 : Nat) ({ cls := "java/lang/Object", name := "<init>", desc := "()V" } : Jvm.MethodName) ∈ TBg := tb_in 254 (by decide +kernel) (by decide +kernel)
theorem tw_255 : Jvm.Cond.fieldLink "Sharedair$Traffic" (27 : Nat) "Sharedair$Traffic" "land" "LSharedair$Land;" ∈ TBg := tb_in 255 (by decide +kernel) (by decide +kernel)
theorem tw_256 : Jvm.Cond.fieldLink "Sharedair$Traffic" (31 : Nat) "Sharedair$Traffic" "routes" "LSharedair$Routes;" ∈ TBg := tb_in 256 (by decide +kernel) (by decide +kernel)
theorem tw_257 : Jvm.Cond.fieldLink "Sharedair$Traffic" (9 : Nat) "Sharedair$Traffic" "slot" "I" ∈ TBg := tb_in 257 (by decide +kernel) (by decide +kernel)
theorem tw_258 : Jvm.Cond.fieldLink "Sharedair" (131 : Nat) "Sharedair$Traffic" "slot" "I" ∈ TBg := tb_in 258 (by decide +kernel) (by decide +kernel)
theorem tw_259 : Jvm.Cond.fieldLink "Sharedair$Traffic" (15 : Nat) "Sharedair$Traffic" "luck" "I" ∈ TBg := tb_in 259 (by decide +kernel) (by decide +kernel)
theorem tw_260 : Jvm.Cond.fieldLink "Sharedair" (246 : Nat) "Sharedair$Traffic" "luck" "I" ∈ TBg := tb_in 260 (by decide +kernel) (by decide +kernel)
theorem tw_261 : Jvm.Cond.fieldLink "Sharedair$Traffic" (18 : Nat) "Sharedair$Traffic" "deliveries" "I" ∈ TBg := tb_in 261 (by decide +kernel) (by decide +kernel)
theorem tw_262 : Jvm.Cond.fieldLink "Sharedair" (252 : Nat) "Sharedair$Traffic" "deliveries" "I" ∈ TBg := tb_in 262 (by decide +kernel) (by decide +kernel)
theorem tw_263 : Jvm.Cond.fieldLink "Sharedair$Traffic" (21 : Nat) "Sharedair$Traffic" "doubles" "I" ∈ TBg := tb_in 263 (by decide +kernel) (by decide +kernel)
theorem tw_264 : Jvm.Cond.fieldLink "Sharedair" (255 : Nat) "Sharedair$Traffic" "doubles" "I" ∈ TBg := tb_in 264 (by decide +kernel) (by decide +kernel)
theorem tw_265 : Jvm.Cond.fieldLink "Sharedair$Traffic" (24 : Nat) "Sharedair$Traffic" "dropped" "I" ∈ TBg := tb_in 265 (by decide +kernel) (by decide +kernel)
theorem tw_266 : Jvm.Cond.fieldLink "Sharedair" (258 : Nat) "Sharedair$Traffic" "dropped" "I" ∈ TBg := tb_in 266 (by decide +kernel) (by decide +kernel)
theorem tw_282 : Jvm.Cond.classLink "Sharedair" (34 : Nat) "Sharedair$Market" ∈ TBg := tb_in 282 (by decide +kernel) (by decide +kernel)
theorem tw_283 : Jvm.Cond.instantiable "Sharedair$Market" (9 : Nat) ∈ TBg := tb_in 283 (by decide +kernel) (by decide +kernel)
theorem tw_285 : Jvm.Cond.instanceMethod ({ cls := "Sharedair$Market", name := "<init>", desc := "()V" } : Jvm.MethodName) ∈ TBg := tb_in 285 (by decide +kernel) (by decide +kernel)
theorem tw_286 : Jvm.Cond.code ({ cls := "Sharedair$Market", name := "<init>", desc := "()V" } : Jvm.MethodName) prog_5_method_1_code (1 : Nat) (Option.none : Option Jvm.ClassFile.FieldType) ∈ TBg := tb_in 286 (by decide +kernel) (by decide +kernel)
theorem tw_287 : Jvm.Cond.methodLink "Sharedair$Market" (3 : Nat) ({ cls := "java/lang/Object", name := "<init>", desc := "()V" } : Jvm.MethodName) ∈ TBg := tb_in 287 (by decide +kernel) (by decide +kernel)
theorem tw_288 : Jvm.Cond.fieldLink "Sharedair$Market" (9 : Nat) "Sharedair$Market" "bidders" "[I" ∈ TBg := tb_in 288 (by decide +kernel) (by decide +kernel)
theorem tw_289 : Jvm.Cond.fieldLink "Sharedair$Market" (15 : Nat) "Sharedair$Market" "prices" "[I" ∈ TBg := tb_in 289 (by decide +kernel) (by decide +kernel)
theorem tw_290 : Jvm.Cond.fieldLink "Sharedair$Market" (18 : Nat) "Sharedair$Market" "taken" "[I" ∈ TBg := tb_in 290 (by decide +kernel) (by decide +kernel)
theorem tw_291 : Jvm.Cond.fieldLink "Sharedair$Market" (21 : Nat) "Sharedair$Market" "worth" "[I" ∈ TBg := tb_in 291 (by decide +kernel) (by decide +kernel)
theorem tw_292 : Jvm.Cond.fieldLink "Sharedair$Market" (24 : Nat) "Sharedair$Market" "worthWithout" "[I" ∈ TBg := tb_in 292 (by decide +kernel) (by decide +kernel)
theorem tw_293 : Jvm.Cond.fieldLink "Sharedair$Market" (27 : Nat) "Sharedair$Market" "count" "I" ∈ TBg := tb_in 293 (by decide +kernel) (by decide +kernel)
theorem tw_294 : Jvm.Cond.fieldLink "Sharedair" (150 : Nat) "Sharedair$Market" "count" "I" ∈ TBg := tb_in 294 (by decide +kernel) (by decide +kernel)
theorem tw_295 : Jvm.Cond.fieldLink "Sharedair$Market" (31 : Nat) "Sharedair$Market" "winners" "I" ∈ TBg := tb_in 295 (by decide +kernel) (by decide +kernel)
theorem tw_296 : Jvm.Cond.fieldLink "Sharedair" (325 : Nat) "Sharedair$Market" "winners" "I" ∈ TBg := tb_in 296 (by decide +kernel) (by decide +kernel)
theorem tw_297 : Jvm.Cond.fieldLink "Sharedair$Market" (34 : Nat) "Sharedair$Market" "mostWorth" "I" ∈ TBg := tb_in 297 (by decide +kernel) (by decide +kernel)
theorem tw_298 : Jvm.Cond.fieldLink "Sharedair" (328 : Nat) "Sharedair$Market" "mostWorth" "I" ∈ TBg := tb_in 298 (by decide +kernel) (by decide +kernel)
theorem tw_299 : Jvm.Cond.fieldLink "Sharedair$Market" (37 : Nat) "Sharedair$Market" "paidEver" "I" ∈ TBg := tb_in 299 (by decide +kernel) (by decide +kernel)
theorem tw_300 : Jvm.Cond.fieldLink "Sharedair" (267 : Nat) "Sharedair$Market" "paidEver" "I" ∈ TBg := tb_in 300 (by decide +kernel) (by decide +kernel)
theorem tw_320 : Jvm.Cond.fieldLink "Sharedair" (10 : Nat) "Sharedair" "land" "LSharedair$Land;" ∈ TBg := tb_in 320 (by decide +kernel) (by decide +kernel)
theorem tw_321 : Jvm.Cond.fieldLink "Sharedair" (21 : Nat) "Sharedair" "routes" "LSharedair$Routes;" ∈ TBg := tb_in 321 (by decide +kernel) (by decide +kernel)
theorem tw_322 : Jvm.Cond.fieldLink "Sharedair" (30 : Nat) "Sharedair" "traffic" "LSharedair$Traffic;" ∈ TBg := tb_in 322 (by decide +kernel) (by decide +kernel)
theorem tw_323 : Jvm.Cond.fieldLink "Sharedair" (37 : Nat) "Sharedair" "market" "LSharedair$Market;" ∈ TBg := tb_in 323 (by decide +kernel) (by decide +kernel)
theorem tw_324 : Jvm.Cond.fieldLink "Sharedair" (41 : Nat) "Sharedair" "refused" "I" ∈ TBg := tb_in 324 (by decide +kernel) (by decide +kernel)
theorem tw_336 : Jvm.Cond.methodLink "SharedairLaw" (22 : Nat) ({ cls := "Sharedair", name := "node", desc := "(IIIZ)I" } : Jvm.MethodName) ∈ TBg := tb_in 336 (by decide +kernel) (by decide +kernel)
theorem tw_337 : Jvm.Cond.instanceMethod ({ cls := "Sharedair", name := "node", desc := "(IIIZ)I" } : Jvm.MethodName) ∈ TBg := tb_in 337 (by decide +kernel) (by decide +kernel)
theorem tw_338 : Jvm.Cond.selects "Sharedair" ({ cls := "Sharedair", name := "node", desc := "(IIIZ)I" } : Jvm.MethodName) ({ cls := "Sharedair", name := "node", desc := "(IIIZ)I" } : Jvm.MethodName) ∈ TBg := tb_in 338 (by decide +kernel) (by decide +kernel)
theorem tw_339 : Jvm.Cond.code ({ cls := "Sharedair", name := "node", desc := "(IIIZ)I" } : Jvm.MethodName) prog_1_method_2_code (5 : Nat) (Option.some Jvm.ClassFile.FieldType.int) ∈ TBg := tb_in 339 (by decide +kernel) (by decide +kernel)
theorem tw_340 : Jvm.Cond.methodLink "Sharedair" (45 : Nat) ({ cls := "Sharedair", name := "isPlace", desc := "(II)Z" } : Jvm.MethodName) ∈ TBg := tb_in 340 (by decide +kernel) (by decide +kernel)
theorem tw_341 : Jvm.Cond.static ({ cls := "Sharedair", name := "isPlace", desc := "(II)Z" } : Jvm.MethodName) ∈ TBg := tb_in 341 (by decide +kernel) (by decide +kernel)
theorem tw_342 : Jvm.Cond.code ({ cls := "Sharedair", name := "isPlace", desc := "(II)Z" } : Jvm.MethodName) prog_1_method_32_code (2 : Nat) (Option.some Jvm.ClassFile.FieldType.boolean) ∈ TBg := tb_in 342 (by decide +kernel) (by decide +kernel)
theorem tw_343 : Jvm.Cond.methodLink "Sharedair" (109 : Nat) ({ cls := "Sharedair", name := "isWithin", desc := "(III)Z" } : Jvm.MethodName) ∈ TBg := tb_in 343 (by decide +kernel) (by decide +kernel)
theorem tw_344 : Jvm.Cond.static ({ cls := "Sharedair", name := "isWithin", desc := "(III)Z" } : Jvm.MethodName) ∈ TBg := tb_in 344 (by decide +kernel) (by decide +kernel)
theorem tw_345 : Jvm.Cond.code ({ cls := "Sharedair", name := "isWithin", desc := "(III)Z" } : Jvm.MethodName) prog_1_method_31_code (3 : Nat) (Option.some Jvm.ClassFile.FieldType.boolean) ∈ TBg := tb_in 345 (by decide +kernel) (by decide +kernel)
theorem tw_346 : Jvm.Cond.methodLink "Sharedair" (49 : Nat) ({ cls := "Sharedair", name := "isReach", desc := "(I)Z" } : Jvm.MethodName) ∈ TBg := tb_in 346 (by decide +kernel) (by decide +kernel)
theorem tw_347 : Jvm.Cond.static ({ cls := "Sharedair", name := "isReach", desc := "(I)Z" } : Jvm.MethodName) ∈ TBg := tb_in 347 (by decide +kernel) (by decide +kernel)
theorem tw_348 : Jvm.Cond.code ({ cls := "Sharedair", name := "isReach", desc := "(I)Z" } : Jvm.MethodName) prog_1_method_33_code (1 : Nat) (Option.some Jvm.ClassFile.FieldType.boolean) ∈ TBg := tb_in 348 (by decide +kernel) (by decide +kernel)
theorem tw_349 : Jvm.Cond.classLink "Sharedair" (53 : Nat) "java/lang/IllegalArgumentException" ∈ TBg := tb_in 349 (by decide +kernel) (by decide +kernel)
theorem tw_417 : Jvm.Cond.classLink "Sharedair" (63 : Nat) "java/lang/IllegalStateException" ∈ TBg := tb_in 417 (by decide +kernel) (by decide +kernel)
theorem tw_433 : Jvm.Cond.methodLink "Sharedair" (68 : Nat) ({ cls := "Sharedair$Land", name := "add", desc := "(IIIZ)I" } : Jvm.MethodName) ∈ TBg := tb_in 433 (by decide +kernel) (by decide +kernel)
theorem tw_434 : Jvm.Cond.instanceMethod ({ cls := "Sharedair$Land", name := "add", desc := "(IIIZ)I" } : Jvm.MethodName) ∈ TBg := tb_in 434 (by decide +kernel) (by decide +kernel)
theorem tw_435 : Jvm.Cond.selects "Sharedair$Land" ({ cls := "Sharedair$Land", name := "add", desc := "(IIIZ)I" } : Jvm.MethodName) ({ cls := "Sharedair$Land", name := "add", desc := "(IIIZ)I" } : Jvm.MethodName) ∈ TBg := tb_in 435 (by decide +kernel) (by decide +kernel)
theorem tw_436 : Jvm.Cond.code ({ cls := "Sharedair$Land", name := "add", desc := "(IIIZ)I" } : Jvm.MethodName) prog_4_method_4_code (6 : Nat) (Option.some Jvm.ClassFile.FieldType.int) ∈ TBg := tb_in 436 (by decide +kernel) (by decide +kernel)
theorem tw_437 : Jvm.Cond.methodLink "Sharedair$Land" (32 : Nat) ({ cls := "Sharedair$Land", name := "adjust", desc := "(IIZ)V" } : Jvm.MethodName) ∈ TBg := tb_in 437 (by decide +kernel) (by decide +kernel)
theorem tw_438 : Jvm.Cond.instanceMethod ({ cls := "Sharedair$Land", name := "adjust", desc := "(IIZ)V" } : Jvm.MethodName) ∈ TBg := tb_in 438 (by decide +kernel) (by decide +kernel)
theorem tw_439 : Jvm.Cond.selects "Sharedair$Land" ({ cls := "Sharedair$Land", name := "adjust", desc := "(IIZ)V" } : Jvm.MethodName) ({ cls := "Sharedair$Land", name := "adjust", desc := "(IIZ)V" } : Jvm.MethodName) ∈ TBg := tb_in 439 (by decide +kernel) (by decide +kernel)
theorem tw_440 : Jvm.Cond.code ({ cls := "Sharedair$Land", name := "adjust", desc := "(IIZ)V" } : Jvm.MethodName) prog_4_method_6_code (4 : Nat) (Option.none : Option Jvm.ClassFile.FieldType) ∈ TBg := tb_in 440 (by decide +kernel) (by decide +kernel)
theorem tw_441 : Jvm.Cond.methodLink "Sharedair$Land" (36 : Nat) ({ cls := "Sharedair$Land", name := "findHearers", desc := "()V" } : Jvm.MethodName) ∈ TBg := tb_in 441 (by decide +kernel) (by decide +kernel)
theorem tw_443 : Jvm.Cond.instanceMethod ({ cls := "Sharedair$Land", name := "findHearers", desc := "()V" } : Jvm.MethodName) ∈ TBg := tb_in 443 (by decide +kernel) (by decide +kernel)
theorem tw_444 : Jvm.Cond.code ({ cls := "Sharedair$Land", name := "findHearers", desc := "()V" } : Jvm.MethodName) prog_4_method_7_code (4 : Nat) (Option.none : Option Jvm.ClassFile.FieldType) ∈ TBg := tb_in 444 (by decide +kernel) (by decide +kernel)
theorem tw_445 : Jvm.Cond.methodLink "Sharedair$Land" (46 : Nat) ({ cls := "Sharedair$Land", name := "far", desc := "(II)I" } : Jvm.MethodName) ∈ TBg := tb_in 445 (by decide +kernel) (by decide +kernel)
theorem tw_446 : Jvm.Cond.instanceMethod ({ cls := "Sharedair$Land", name := "far", desc := "(II)I" } : Jvm.MethodName) ∈ TBg := tb_in 446 (by decide +kernel) (by decide +kernel)
theorem tw_447 : Jvm.Cond.selects "Sharedair$Land" ({ cls := "Sharedair$Land", name := "far", desc := "(II)I" } : Jvm.MethodName) ({ cls := "Sharedair$Land", name := "far", desc := "(II)I" } : Jvm.MethodName) ∈ TBg := tb_in 447 (by decide +kernel) (by decide +kernel)
theorem tw_448 : Jvm.Cond.code ({ cls := "Sharedair$Land", name := "far", desc := "(II)I" } : Jvm.MethodName) prog_4_method_8_code (5 : Nat) (Option.some Jvm.ClassFile.FieldType.int) ∈ TBg := tb_in 448 (by decide +kernel) (by decide +kernel)
theorem tw_449 : Jvm.Cond.methodLink "SharedairLaw" (26 : Nat) ({ cls := "Sharedair", name := "exchange", desc := "(I)I" } : Jvm.MethodName) ∈ TBg := tb_in 449 (by decide +kernel) (by decide +kernel)
theorem tw_450 : Jvm.Cond.instanceMethod ({ cls := "Sharedair", name := "exchange", desc := "(I)I" } : Jvm.MethodName) ∈ TBg := tb_in 450 (by decide +kernel) (by decide +kernel)
theorem tw_451 : Jvm.Cond.selects "Sharedair" ({ cls := "Sharedair", name := "exchange", desc := "(I)I" } : Jvm.MethodName) ({ cls := "Sharedair", name := "exchange", desc := "(I)I" } : Jvm.MethodName) ∈ TBg := tb_in 451 (by decide +kernel) (by decide +kernel)
theorem tw_452 : Jvm.Cond.code ({ cls := "Sharedair", name := "exchange", desc := "(I)I" } : Jvm.MethodName) prog_1_method_7_code (3 : Nat) (Option.some Jvm.ClassFile.FieldType.int) ∈ TBg := tb_in 452 (by decide +kernel) (by decide +kernel)
theorem tw_454 : Jvm.Cond.methodLink "Sharedair" (141 : Nat) ({ cls := "Sharedair$Routes", name := "renew", desc := "()V" } : Jvm.MethodName) ∈ TBg := tb_in 454 (by decide +kernel) (by decide +kernel)
theorem tw_455 : Jvm.Cond.instanceMethod ({ cls := "Sharedair$Routes", name := "renew", desc := "()V" } : Jvm.MethodName) ∈ TBg := tb_in 455 (by decide +kernel) (by decide +kernel)
theorem tw_456 : Jvm.Cond.selects "Sharedair$Routes" ({ cls := "Sharedair$Routes", name := "renew", desc := "()V" } : Jvm.MethodName) ({ cls := "Sharedair$Routes", name := "renew", desc := "()V" } : Jvm.MethodName) ∈ TBg := tb_in 456 (by decide +kernel) (by decide +kernel)
theorem tw_457 : Jvm.Cond.code ({ cls := "Sharedair$Routes", name := "renew", desc := "()V" } : Jvm.MethodName) prog_8_method_4_code (3 : Nat) (Option.none : Option Jvm.ClassFile.FieldType) ∈ TBg := tb_in 457 (by decide +kernel) (by decide +kernel)
theorem tw_458 : Jvm.Cond.methodLink "Sharedair$Routes" (42 : Nat) ({ cls := "Sharedair$Routes", name := "renewPair", desc := "(II)V" } : Jvm.MethodName) ∈ TBg := tb_in 458 (by decide +kernel) (by decide +kernel)
theorem tw_460 : Jvm.Cond.instanceMethod ({ cls := "Sharedair$Routes", name := "renewPair", desc := "(II)V" } : Jvm.MethodName) ∈ TBg := tb_in 460 (by decide +kernel) (by decide +kernel)
theorem tw_461 : Jvm.Cond.code ({ cls := "Sharedair$Routes", name := "renewPair", desc := "(II)V" } : Jvm.MethodName) prog_8_method_5_code (6 : Nat) (Option.none : Option Jvm.ClassFile.FieldType) ∈ TBg := tb_in 461 (by decide +kernel) (by decide +kernel)
theorem tw_462 : Jvm.Cond.methodLink "Sharedair$Routes" (46 : Nat) ({ cls := "Sharedair$Land", name := "areLinked", desc := "(II)Z" } : Jvm.MethodName) ∈ TBg := tb_in 462 (by decide +kernel) (by decide +kernel)
theorem tw_463 : Jvm.Cond.instanceMethod ({ cls := "Sharedair$Land", name := "areLinked", desc := "(II)Z" } : Jvm.MethodName) ∈ TBg := tb_in 463 (by decide +kernel) (by decide +kernel)
theorem tw_464 : Jvm.Cond.selects "Sharedair$Land" ({ cls := "Sharedair$Land", name := "areLinked", desc := "(II)Z" } : Jvm.MethodName) ({ cls := "Sharedair$Land", name := "areLinked", desc := "(II)Z" } : Jvm.MethodName) ∈ TBg := tb_in 464 (by decide +kernel) (by decide +kernel)
theorem tw_465 : Jvm.Cond.code ({ cls := "Sharedair$Land", name := "areLinked", desc := "(II)Z" } : Jvm.MethodName) prog_4_method_10_code (3 : Nat) (Option.some Jvm.ClassFile.FieldType.boolean) ∈ TBg := tb_in 465 (by decide +kernel) (by decide +kernel)
theorem tw_466 : Jvm.Cond.methodLink "Sharedair$Land" (58 : Nat) ({ cls := "Sharedair$Land", name := "canHear", desc := "(II)Z" } : Jvm.MethodName) ∈ TBg := tb_in 466 (by decide +kernel) (by decide +kernel)
theorem tw_467 : Jvm.Cond.instanceMethod ({ cls := "Sharedair$Land", name := "canHear", desc := "(II)Z" } : Jvm.MethodName) ∈ TBg := tb_in 467 (by decide +kernel) (by decide +kernel)
theorem tw_468 : Jvm.Cond.selects "Sharedair$Land" ({ cls := "Sharedair$Land", name := "canHear", desc := "(II)Z" } : Jvm.MethodName) ({ cls := "Sharedair$Land", name := "canHear", desc := "(II)Z" } : Jvm.MethodName) ∈ TBg := tb_in 468 (by decide +kernel) (by decide +kernel)
theorem tw_469 : Jvm.Cond.code ({ cls := "Sharedair$Land", name := "canHear", desc := "(II)Z" } : Jvm.MethodName) prog_4_method_9_code (3 : Nat) (Option.some Jvm.ClassFile.FieldType.boolean) ∈ TBg := tb_in 469 (by decide +kernel) (by decide +kernel)
theorem tw_470 : Jvm.Cond.methodLink "Sharedair$Land" (50 : Nat) ({ cls := "Sharedair$Land", name := "isNode", desc := "(I)Z" } : Jvm.MethodName) ∈ TBg := tb_in 470 (by decide +kernel) (by decide +kernel)
theorem tw_471 : Jvm.Cond.instanceMethod ({ cls := "Sharedair$Land", name := "isNode", desc := "(I)Z" } : Jvm.MethodName) ∈ TBg := tb_in 471 (by decide +kernel) (by decide +kernel)
theorem tw_472 : Jvm.Cond.selects "Sharedair$Land" ({ cls := "Sharedair$Land", name := "isNode", desc := "(I)Z" } : Jvm.MethodName) ({ cls := "Sharedair$Land", name := "isNode", desc := "(I)Z" } : Jvm.MethodName) ∈ TBg := tb_in 472 (by decide +kernel) (by decide +kernel)
theorem tw_473 : Jvm.Cond.code ({ cls := "Sharedair$Land", name := "isNode", desc := "(I)Z" } : Jvm.MethodName) prog_4_method_2_code (2 : Nat) (Option.some Jvm.ClassFile.FieldType.boolean) ∈ TBg := tb_in 473 (by decide +kernel) (by decide +kernel)
theorem tw_475 : Jvm.Cond.static ({ cls := "Sharedair", name := "isIn", desc := "(II)Z" } : Jvm.MethodName) ∈ TBg := tb_in 475 (by decide +kernel) (by decide +kernel)
theorem tw_476 : Jvm.Cond.code ({ cls := "Sharedair", name := "isIn", desc := "(II)Z" } : Jvm.MethodName) prog_1_method_34_code (2 : Nat) (Option.some Jvm.ClassFile.FieldType.boolean) ∈ TBg := tb_in 476 (by decide +kernel) (by decide +kernel)
theorem tw_477 : Jvm.Cond.methodLink "Sharedair$Routes" (50 : Nat) ({ cls := "Sharedair$Routes", name := "cheapestNeighbour", desc := "(II)I" } : Jvm.MethodName) ∈ TBg := tb_in 477 (by decide +kernel) (by decide +kernel)
theorem tw_479 : Jvm.Cond.instanceMethod ({ cls := "Sharedair$Routes", name := "cheapestNeighbour", desc := "(II)I" } : Jvm.MethodName) ∈ TBg := tb_in 479 (by decide +kernel) (by decide +kernel)
theorem tw_480 : Jvm.Cond.code ({ cls := "Sharedair$Routes", name := "cheapestNeighbour", desc := "(II)I" } : Jvm.MethodName) prog_8_method_6_code (6 : Nat) (Option.some Jvm.ClassFile.FieldType.int) ∈ TBg := tb_in 480 (by decide +kernel) (by decide +kernel)
theorem tw_481 : Jvm.Cond.methodLink "Sharedair" (144 : Nat) ({ cls := "Sharedair$Routes", name := "pairsWithRoute", desc := "()I" } : Jvm.MethodName) ∈ TBg := tb_in 481 (by decide +kernel) (by decide +kernel)
theorem tw_482 : Jvm.Cond.instanceMethod ({ cls := "Sharedair$Routes", name := "pairsWithRoute", desc := "()I" } : Jvm.MethodName) ∈ TBg := tb_in 482 (by decide +kernel) (by decide +kernel)
theorem tw_483 : Jvm.Cond.selects "Sharedair$Routes" ({ cls := "Sharedair$Routes", name := "pairsWithRoute", desc := "()I" } : Jvm.MethodName) ({ cls := "Sharedair$Routes", name := "pairsWithRoute", desc := "()I" } : Jvm.MethodName) ∈ TBg := tb_in 483 (by decide +kernel) (by decide +kernel)
theorem tw_484 : Jvm.Cond.code ({ cls := "Sharedair$Routes", name := "pairsWithRoute", desc := "()I" } : Jvm.MethodName) prog_8_method_10_code (4 : Nat) (Option.some Jvm.ClassFile.FieldType.int) ∈ TBg := tb_in 484 (by decide +kernel) (by decide +kernel)
theorem tw_485 : Jvm.Cond.methodLink "SharedairLaw" (36 : Nat) ({ cls := "Sharedair", name := "ofNode", desc := "(II)I" } : Jvm.MethodName) ∈ TBg := tb_in 485 (by decide +kernel) (by decide +kernel)
theorem tw_486 : Jvm.Cond.instanceMethod ({ cls := "Sharedair", name := "ofNode", desc := "(II)I" } : Jvm.MethodName) ∈ TBg := tb_in 486 (by decide +kernel) (by decide +kernel)
theorem tw_487 : Jvm.Cond.selects "Sharedair" ({ cls := "Sharedair", name := "ofNode", desc := "(II)I" } : Jvm.MethodName) ({ cls := "Sharedair", name := "ofNode", desc := "(II)I" } : Jvm.MethodName) ∈ TBg := tb_in 487 (by decide +kernel) (by decide +kernel)
theorem tw_488 : Jvm.Cond.code ({ cls := "Sharedair", name := "ofNode", desc := "(II)I" } : Jvm.MethodName) prog_1_method_12_code (4 : Nat) (Option.some Jvm.ClassFile.FieldType.int) ∈ TBg := tb_in 488 (by decide +kernel) (by decide +kernel)
theorem tw_489 : Jvm.Cond.methodLink "Sharedair" (72 : Nat) ({ cls := "Sharedair", name := "checkNode", desc := "(I)V" } : Jvm.MethodName) ∈ TBg := tb_in 489 (by decide +kernel) (by decide +kernel)
theorem tw_491 : Jvm.Cond.instanceMethod ({ cls := "Sharedair", name := "checkNode", desc := "(I)V" } : Jvm.MethodName) ∈ TBg := tb_in 491 (by decide +kernel) (by decide +kernel)
theorem tw_492 : Jvm.Cond.code ({ cls := "Sharedair", name := "checkNode", desc := "(I)V" } : Jvm.MethodName) prog_1_method_28_code (2 : Nat) (Option.none : Option Jvm.ClassFile.FieldType) ∈ TBg := tb_in 492 (by decide +kernel) (by decide +kernel)
theorem tw_493 : Jvm.Cond.methodLink "Sharedair" (388 : Nat) ({ cls := "Sharedair$Land", name := "isNode", desc := "(I)Z" } : Jvm.MethodName) ∈ TBg := tb_in 493 (by decide +kernel) (by decide +kernel)
theorem tw_494 : Jvm.Cond.classLink "Sharedair" (275 : Nat) "java/lang/IndexOutOfBoundsException" ∈ TBg := tb_in 494 (by decide +kernel) (by decide +kernel)
theorem tw_510 : Jvm.Cond.methodLink "Sharedair" (203 : Nat) ({ cls := "Sharedair$Land", name := "isSuspect", desc := "(I)Z" } : Jvm.MethodName) ∈ TBg := tb_in 510 (by decide +kernel) (by decide +kernel)
theorem tw_511 : Jvm.Cond.instanceMethod ({ cls := "Sharedair$Land", name := "isSuspect", desc := "(I)Z" } : Jvm.MethodName) ∈ TBg := tb_in 511 (by decide +kernel) (by decide +kernel)
theorem tw_512 : Jvm.Cond.selects "Sharedair$Land" ({ cls := "Sharedair$Land", name := "isSuspect", desc := "(I)Z" } : Jvm.MethodName) ({ cls := "Sharedair$Land", name := "isSuspect", desc := "(I)Z" } : Jvm.MethodName) ∈ TBg := tb_in 512 (by decide +kernel) (by decide +kernel)
theorem tw_513 : Jvm.Cond.code ({ cls := "Sharedair$Land", name := "isSuspect", desc := "(I)Z" } : Jvm.MethodName) prog_4_method_15_code (11 : Nat) (Option.some Jvm.ClassFile.FieldType.boolean) ∈ TBg := tb_in 513 (by decide +kernel) (by decide +kernel)
theorem tw_514 : Jvm.Cond.constantLong "Sharedair$Land" (79 : Nat) (3 : Int64) ∈ TBg := tb_in 514 (by decide +kernel) (by decide +kernel)
theorem tw_515 : Jvm.Cond.constantLong "Sharedair$Land" (81 : Nat) (4 : Int64) ∈ TBg := tb_in 515 (by decide +kernel) (by decide +kernel)
theorem tw_516 : Jvm.Cond.methodLink "Sharedair" (85 : Nat) ({ cls := "Sharedair$Land", name := "linkedWith", desc := "(I)I" } : Jvm.MethodName) ∈ TBg := tb_in 516 (by decide +kernel) (by decide +kernel)
theorem tw_517 : Jvm.Cond.instanceMethod ({ cls := "Sharedair$Land", name := "linkedWith", desc := "(I)I" } : Jvm.MethodName) ∈ TBg := tb_in 517 (by decide +kernel) (by decide +kernel)
theorem tw_518 : Jvm.Cond.selects "Sharedair$Land" ({ cls := "Sharedair$Land", name := "linkedWith", desc := "(I)I" } : Jvm.MethodName) ({ cls := "Sharedair$Land", name := "linkedWith", desc := "(I)I" } : Jvm.MethodName) ∈ TBg := tb_in 518 (by decide +kernel) (by decide +kernel)
theorem tw_519 : Jvm.Cond.code ({ cls := "Sharedair$Land", name := "linkedWith", desc := "(I)I" } : Jvm.MethodName) prog_4_method_11_code (4 : Nat) (Option.some Jvm.ClassFile.FieldType.int) ∈ TBg := tb_in 519 (by decide +kernel) (by decide +kernel)
theorem tw_520 : Jvm.Cond.methodLink "Sharedair$Land" (61 : Nat) ({ cls := "Sharedair$Land", name := "areLinked", desc := "(II)Z" } : Jvm.MethodName) ∈ TBg := tb_in 520 (by decide +kernel) (by decide +kernel)
theorem tw_522 : Jvm.Cond.methodLink "SharedairLaw" (39 : Nat) ({ cls := "Sharedair", name := "air", desc := "(I)I" } : Jvm.MethodName) ∈ TBg := tb_in 522 (by decide +kernel) (by decide +kernel)
theorem tw_523 : Jvm.Cond.instanceMethod ({ cls := "Sharedair", name := "air", desc := "(I)I" } : Jvm.MethodName) ∈ TBg := tb_in 523 (by decide +kernel) (by decide +kernel)
theorem tw_524 : Jvm.Cond.selects "Sharedair" ({ cls := "Sharedair", name := "air", desc := "(I)I" } : Jvm.MethodName) ({ cls := "Sharedair", name := "air", desc := "(I)I" } : Jvm.MethodName) ∈ TBg := tb_in 524 (by decide +kernel) (by decide +kernel)
theorem tw_525 : Jvm.Cond.code ({ cls := "Sharedair", name := "air", desc := "(I)I" } : Jvm.MethodName) prog_1_method_15_code (2 : Nat) (Option.some Jvm.ClassFile.FieldType.int) ∈ TBg := tb_in 525 (by decide +kernel) (by decide +kernel)
theorem tw_526 : Jvm.Cond.methodLink "Sharedair" (249 : Nat) ({ cls := "Sharedair$Traffic", name := "senders", desc := "()I" } : Jvm.MethodName) ∈ TBg := tb_in 526 (by decide +kernel) (by decide +kernel)
theorem tw_527 : Jvm.Cond.instanceMethod ({ cls := "Sharedair$Traffic", name := "senders", desc := "()I" } : Jvm.MethodName) ∈ TBg := tb_in 527 (by decide +kernel) (by decide +kernel)
theorem tw_528 : Jvm.Cond.selects "Sharedair$Traffic" ({ cls := "Sharedair$Traffic", name := "senders", desc := "()I" } : Jvm.MethodName) ({ cls := "Sharedair$Traffic", name := "senders", desc := "()I" } : Jvm.MethodName) ∈ TBg := tb_in 528 (by decide +kernel) (by decide +kernel)
theorem tw_529 : Jvm.Cond.code ({ cls := "Sharedair$Traffic", name := "senders", desc := "()I" } : Jvm.MethodName) prog_9_method_2_code (3 : Nat) (Option.some Jvm.ClassFile.FieldType.int) ∈ TBg := tb_in 529 (by decide +kernel) (by decide +kernel)
theorem tw_530 : Jvm.Cond.methodLink "Sharedair$Traffic" (44 : Nat) ({ cls := "Sharedair$Node", name := "isSending", desc := "()Z" } : Jvm.MethodName) ∈ TBg := tb_in 530 (by decide +kernel) (by decide +kernel)
theorem tw_531 : Jvm.Cond.instanceMethod ({ cls := "Sharedair$Node", name := "isSending", desc := "()Z" } : Jvm.MethodName) ∈ TBg := tb_in 531 (by decide +kernel) (by decide +kernel)
theorem tw_532 : Jvm.Cond.selects "Sharedair$Node" ({ cls := "Sharedair$Node", name := "isSending", desc := "()Z" } : Jvm.MethodName) ({ cls := "Sharedair$Node", name := "isSending", desc := "()Z" } : Jvm.MethodName) ∈ TBg := tb_in 532 (by decide +kernel) (by decide +kernel)
theorem tw_533 : Jvm.Cond.code ({ cls := "Sharedair$Node", name := "isSending", desc := "()Z" } : Jvm.MethodName) prog_6_method_2_code (1 : Nat) (Option.some Jvm.ClassFile.FieldType.boolean) ∈ TBg := tb_in 533 (by decide +kernel) (by decide +kernel)
theorem tw_534 : Jvm.Cond.methodLink "Sharedair" (89 : Nat) ({ cls := "java/lang/Integer", name := "bitCount", desc := "(I)I" } : Jvm.MethodName) ∈ TBg := tb_in 534 (by decide +kernel) (by decide +kernel)
theorem tw_535 : Jvm.Cond.static ({ cls := "java/lang/Integer", name := "bitCount", desc := "(I)I" } : Jvm.MethodName) ∈ TBg := tb_in 535 (by decide +kernel) (by decide +kernel)
theorem tw_536 : Jvm.Cond.code ({ cls := "java/lang/Integer", name := "bitCount", desc := "(I)I" } : Jvm.MethodName) prog_17_method_49_code (1 : Nat) (Option.some Jvm.ClassFile.FieldType.int) ∈ TBg := tb_in 536 (by decide +kernel) (by decide +kernel)
theorem tw_537 : Jvm.Cond.constant "java/lang/Integer" (265 : Nat) (1431655765 : Int32) ∈ TBg := tb_in 537 (by decide +kernel) (by decide +kernel)
theorem tw_538 : Jvm.Cond.constant "java/lang/Integer" (266 : Nat) (858993459 : Int32) ∈ TBg := tb_in 538 (by decide +kernel) (by decide +kernel)
theorem tw_539 : Jvm.Cond.constant "java/lang/Integer" (267 : Nat) (252645135 : Int32) ∈ TBg := tb_in 539 (by decide +kernel) (by decide +kernel)
theorem tw_540 : Jvm.Cond.methodLink "Sharedair" (261 : Nat) ({ cls := "Sharedair$Land", name := "framesInQueues", desc := "()I" } : Jvm.MethodName) ∈ TBg := tb_in 540 (by decide +kernel) (by decide +kernel)
theorem tw_541 : Jvm.Cond.instanceMethod ({ cls := "Sharedair$Land", name := "framesInQueues", desc := "()I" } : Jvm.MethodName) ∈ TBg := tb_in 541 (by decide +kernel) (by decide +kernel)
theorem tw_542 : Jvm.Cond.selects "Sharedair$Land" ({ cls := "Sharedair$Land", name := "framesInQueues", desc := "()I" } : Jvm.MethodName) ({ cls := "Sharedair$Land", name := "framesInQueues", desc := "()I" } : Jvm.MethodName) ∈ TBg := tb_in 542 (by decide +kernel) (by decide +kernel)
theorem tw_543 : Jvm.Cond.code ({ cls := "Sharedair$Land", name := "framesInQueues", desc := "()I" } : Jvm.MethodName) prog_4_method_14_code (3 : Nat) (Option.some Jvm.ClassFile.FieldType.int) ∈ TBg := tb_in 543 (by decide +kernel) (by decide +kernel)
theorem tw_544 : Jvm.Cond.methodLink "Sharedair" (270 : Nat) ({ cls := "Sharedair$Routes", name := "pairsWithCircle", desc := "()I" } : Jvm.MethodName) ∈ TBg := tb_in 544 (by decide +kernel) (by decide +kernel)
theorem tw_545 : Jvm.Cond.instanceMethod ({ cls := "Sharedair$Routes", name := "pairsWithCircle", desc := "()I" } : Jvm.MethodName) ∈ TBg := tb_in 545 (by decide +kernel) (by decide +kernel)
theorem tw_546 : Jvm.Cond.selects "Sharedair$Routes" ({ cls := "Sharedair$Routes", name := "pairsWithCircle", desc := "()I" } : Jvm.MethodName) ({ cls := "Sharedair$Routes", name := "pairsWithCircle", desc := "()I" } : Jvm.MethodName) ∈ TBg := tb_in 546 (by decide +kernel) (by decide +kernel)
theorem tw_547 : Jvm.Cond.code ({ cls := "Sharedair$Routes", name := "pairsWithCircle", desc := "()I" } : Jvm.MethodName) prog_8_method_11_code (4 : Nat) (Option.some Jvm.ClassFile.FieldType.int) ∈ TBg := tb_in 547 (by decide +kernel) (by decide +kernel)
theorem tw_548 : Jvm.Cond.methodLink "Sharedair$Routes" (60 : Nat) ({ cls := "Sharedair$Routes", name := "hasCircle", desc := "(II)Z" } : Jvm.MethodName) ∈ TBg := tb_in 548 (by decide +kernel) (by decide +kernel)
theorem tw_549 : Jvm.Cond.instanceMethod ({ cls := "Sharedair$Routes", name := "hasCircle", desc := "(II)Z" } : Jvm.MethodName) ∈ TBg := tb_in 549 (by decide +kernel) (by decide +kernel)
theorem tw_550 : Jvm.Cond.selects "Sharedair$Routes" ({ cls := "Sharedair$Routes", name := "hasCircle", desc := "(II)Z" } : Jvm.MethodName) ({ cls := "Sharedair$Routes", name := "hasCircle", desc := "(II)Z" } : Jvm.MethodName) ∈ TBg := tb_in 550 (by decide +kernel) (by decide +kernel)
theorem tw_551 : Jvm.Cond.code ({ cls := "Sharedair$Routes", name := "hasCircle", desc := "(II)Z" } : Jvm.MethodName) prog_8_method_8_code (3 : Nat) (Option.some Jvm.ClassFile.FieldType.boolean) ∈ TBg := tb_in 551 (by decide +kernel) (by decide +kernel)
theorem tw_552 : Jvm.Cond.methodLink "Sharedair$Routes" (54 : Nat) ({ cls := "Sharedair$Routes", name := "follow", desc := "(II)I" } : Jvm.MethodName) ∈ TBg := tb_in 552 (by decide +kernel) (by decide +kernel)
theorem tw_554 : Jvm.Cond.instanceMethod ({ cls := "Sharedair$Routes", name := "follow", desc := "(II)I" } : Jvm.MethodName) ∈ TBg := tb_in 554 (by decide +kernel) (by decide +kernel)
theorem tw_555 : Jvm.Cond.code ({ cls := "Sharedair$Routes", name := "follow", desc := "(II)I" } : Jvm.MethodName) prog_8_method_9_code (5 : Nat) (Option.some Jvm.ClassFile.FieldType.int) ∈ TBg := tb_in 555 (by decide +kernel) (by decide +kernel)
theorem tw_556 : Jvm.Cond.methodLink "Sharedair$Routes" (57 : Nat) ({ cls := "Sharedair$Routes", name := "nextOf", desc := "(II)I" } : Jvm.MethodName) ∈ TBg := tb_in 556 (by decide +kernel) (by decide +kernel)
theorem tw_557 : Jvm.Cond.instanceMethod ({ cls := "Sharedair$Routes", name := "nextOf", desc := "(II)I" } : Jvm.MethodName) ∈ TBg := tb_in 557 (by decide +kernel) (by decide +kernel)
theorem tw_558 : Jvm.Cond.selects "Sharedair$Routes" ({ cls := "Sharedair$Routes", name := "nextOf", desc := "(II)I" } : Jvm.MethodName) ({ cls := "Sharedair$Routes", name := "nextOf", desc := "(II)I" } : Jvm.MethodName) ∈ TBg := tb_in 558 (by decide +kernel) (by decide +kernel)
theorem tw_559 : Jvm.Cond.code ({ cls := "Sharedair$Routes", name := "nextOf", desc := "(II)I" } : Jvm.MethodName) prog_8_method_3_code (3 : Nat) (Option.some Jvm.ClassFile.FieldType.int) ∈ TBg := tb_in 559 (by decide +kernel) (by decide +kernel)
theorem tw_560 : Jvm.Cond.methodLink "Sharedair$Routes" (33 : Nat) ({ cls := "Sharedair$Land", name := "isNode", desc := "(I)Z" } : Jvm.MethodName) ∈ TBg := tb_in 560 (by decide +kernel) (by decide +kernel)
theorem tw_562 : Jvm.Cond.methodLink "SharedairLaw" (18 : Nat) ({ cls := "SharedairLaw", name := "below", desc := "(II)I" } : Jvm.MethodName) ∈ TBg := tb_in 562 (by decide +kernel) (by decide +kernel)
theorem tw_563 : Jvm.Cond.static ({ cls := "SharedairLaw", name := "below", desc := "(II)I" } : Jvm.MethodName) ∈ TBg := tb_in 563 (by decide +kernel) (by decide +kernel)
theorem tw_564 : Jvm.Cond.code ({ cls := "SharedairLaw", name := "below", desc := "(II)I" } : Jvm.MethodName) method_2_code (2 : Nat) (Option.some Jvm.ClassFile.FieldType.int) ∈ TBg := tb_in 564 (by decide +kernel) (by decide +kernel)
theorem tw_565 : Jvm.Cond.constant "SharedairLaw" (7 : Nat) (2147483647 : Int32) ∈ TBg := tb_in 565 (by decide +kernel) (by decide +kernel)
theorem tw_566 : Jvm.Cond.methodLink "SharedairLaw" (12 : Nat) ({ cls := "SharedairLaw", name := "cell", desc := "([II)I" } : Jvm.MethodName) ∈ TBg := tb_in 566 (by decide +kernel) (by decide +kernel)
theorem tw_567 : Jvm.Cond.static ({ cls := "SharedairLaw", name := "cell", desc := "([II)I" } : Jvm.MethodName) ∈ TBg := tb_in 567 (by decide +kernel) (by decide +kernel)
theorem tw_568 : Jvm.Cond.code ({ cls := "SharedairLaw", name := "cell", desc := "([II)I" } : Jvm.MethodName) method_3_code (2 : Nat) (Option.some Jvm.ClassFile.FieldType.int) ∈ TBg := tb_in 568 (by decide +kernel) (by decide +kernel)
theorem tw_569 : Jvm.Cond.constant "SharedairLaw" (8 : Nat) (790386105 : Int32) ∈ TBg := tb_in 569 (by decide +kernel) (by decide +kernel)
theorem tw_570 : Jvm.Cond.methodLink "SharedairLaw" (32 : Nat) ({ cls := "SharedairLaw", name := "act", desc := "(LSharedair;III)V" } : Jvm.MethodName) ∈ TBg := tb_in 570 (by decide +kernel) (by decide +kernel)
theorem tw_571 : Jvm.Cond.static ({ cls := "SharedairLaw", name := "act", desc := "(LSharedair;III)V" } : Jvm.MethodName) ∈ TBg := tb_in 571 (by decide +kernel) (by decide +kernel)
theorem tw_572 : Jvm.Cond.codeWith ({ cls := "SharedairLaw", name := "act", desc := "(LSharedair;III)V" } : Jvm.MethodName) method_5_code (6 : Nat) (Option.none : Option Jvm.ClassFile.FieldType) [((7 : Nat), (222 : Nat), (225 : Nat), (67 : Nat)), ((7 : Nat), (222 : Nat), (228 : Nat), (69 : Nat)), ((7 : Nat), (222 : Nat), (231 : Nat), (71 : Nat))] ∈ TBg := tb_in 572 (by decide +kernel) (by decide +kernel)
theorem tw_573 : Jvm.Cond.classLink "SharedairLaw" (67 : Nat) "java/lang/IndexOutOfBoundsException" ∈ TBg := tb_in 573 (by decide +kernel) (by decide +kernel)
theorem tw_574 : Jvm.Cond.classLink "SharedairLaw" (69 : Nat) "java/lang/IllegalArgumentException" ∈ TBg := tb_in 574 (by decide +kernel) (by decide +kernel)
theorem tw_575 : Jvm.Cond.classLink "SharedairLaw" (71 : Nat) "java/lang/IllegalStateException" ∈ TBg := tb_in 575 (by decide +kernel) (by decide +kernel)
theorem tw_576 : Jvm.Cond.methodLink "SharedairLaw" (46 : Nat) ({ cls := "Sharedair", name := "send", desc := "(III)I" } : Jvm.MethodName) ∈ TBg := tb_in 576 (by decide +kernel) (by decide +kernel)
theorem tw_577 : Jvm.Cond.instanceMethod ({ cls := "Sharedair", name := "send", desc := "(III)I" } : Jvm.MethodName) ∈ TBg := tb_in 577 (by decide +kernel) (by decide +kernel)
theorem tw_578 : Jvm.Cond.selects "Sharedair" ({ cls := "Sharedair", name := "send", desc := "(III)I" } : Jvm.MethodName) ({ cls := "Sharedair", name := "send", desc := "(III)I" } : Jvm.MethodName) ∈ TBg := tb_in 578 (by decide +kernel) (by decide +kernel)
theorem tw_579 : Jvm.Cond.code ({ cls := "Sharedair", name := "send", desc := "(III)I" } : Jvm.MethodName) prog_1_method_5_code (6 : Nat) (Option.some Jvm.ClassFile.FieldType.int) ∈ TBg := tb_in 579 (by decide +kernel) (by decide +kernel)
theorem tw_581 : Jvm.Cond.methodLink "Sharedair" (122 : Nat) ({ cls := "Sharedair$FrameQueue", name := "add", desc := "(IIIII)Z" } : Jvm.MethodName) ∈ TBg := tb_in 581 (by decide +kernel) (by decide +kernel)
theorem tw_582 : Jvm.Cond.instanceMethod ({ cls := "Sharedair$FrameQueue", name := "add", desc := "(IIIII)Z" } : Jvm.MethodName) ∈ TBg := tb_in 582 (by decide +kernel) (by decide +kernel)
theorem tw_583 : Jvm.Cond.selects "Sharedair$FrameQueue" ({ cls := "Sharedair$FrameQueue", name := "add", desc := "(IIIII)Z" } : Jvm.MethodName) ({ cls := "Sharedair$FrameQueue", name := "add", desc := "(IIIII)Z" } : Jvm.MethodName) ∈ TBg := tb_in 583 (by decide +kernel) (by decide +kernel)
theorem tw_584 : Jvm.Cond.code ({ cls := "Sharedair$FrameQueue", name := "add", desc := "(IIIII)Z" } : Jvm.MethodName) prog_3_method_3_code (7 : Nat) (Option.some Jvm.ClassFile.FieldType.boolean) ∈ TBg := tb_in 584 (by decide +kernel) (by decide +kernel)
theorem tw_586 : Jvm.Cond.methodLink "SharedairLaw" (50 : Nat) ({ cls := "Sharedair", name := "move", desc := "(III)I" } : Jvm.MethodName) ∈ TBg := tb_in 586 (by decide +kernel) (by decide +kernel)
theorem tw_587 : Jvm.Cond.instanceMethod ({ cls := "Sharedair", name := "move", desc := "(III)I" } : Jvm.MethodName) ∈ TBg := tb_in 587 (by decide +kernel) (by decide +kernel)
theorem tw_588 : Jvm.Cond.selects "Sharedair" ({ cls := "Sharedair", name := "move", desc := "(III)I" } : Jvm.MethodName) ({ cls := "Sharedair", name := "move", desc := "(III)I" } : Jvm.MethodName) ∈ TBg := tb_in 588 (by decide +kernel) (by decide +kernel)
theorem tw_589 : Jvm.Cond.code ({ cls := "Sharedair", name := "move", desc := "(III)I" } : Jvm.MethodName) prog_1_method_3_code (4 : Nat) (Option.some Jvm.ClassFile.FieldType.int) ∈ TBg := tb_in 589 (by decide +kernel) (by decide +kernel)
theorem tw_591 : Jvm.Cond.methodLink "Sharedair" (78 : Nat) ({ cls := "Sharedair", name := "checkSilent", desc := "(I)V" } : Jvm.MethodName) ∈ TBg := tb_in 591 (by decide +kernel) (by decide +kernel)
theorem tw_593 : Jvm.Cond.instanceMethod ({ cls := "Sharedair", name := "checkSilent", desc := "(I)V" } : Jvm.MethodName) ∈ TBg := tb_in 593 (by decide +kernel) (by decide +kernel)
theorem tw_594 : Jvm.Cond.code ({ cls := "Sharedair", name := "checkSilent", desc := "(I)V" } : Jvm.MethodName) prog_1_method_30_code (2 : Nat) (Option.none : Option Jvm.ClassFile.FieldType) ∈ TBg := tb_in 594 (by decide +kernel) (by decide +kernel)
theorem tw_595 : Jvm.Cond.methodLink "Sharedair" (395 : Nat) ({ cls := "Sharedair$Node", name := "isSending", desc := "()Z" } : Jvm.MethodName) ∈ TBg := tb_in 595 (by decide +kernel) (by decide +kernel)
theorem tw_597 : Jvm.Cond.methodLink "Sharedair" (81 : Nat) ({ cls := "Sharedair$Land", name := "put", desc := "(III)V" } : Jvm.MethodName) ∈ TBg := tb_in 597 (by decide +kernel) (by decide +kernel)
theorem tw_598 : Jvm.Cond.instanceMethod ({ cls := "Sharedair$Land", name := "put", desc := "(III)V" } : Jvm.MethodName) ∈ TBg := tb_in 598 (by decide +kernel) (by decide +kernel)
theorem tw_599 : Jvm.Cond.selects "Sharedair$Land" ({ cls := "Sharedair$Land", name := "put", desc := "(III)V" } : Jvm.MethodName) ({ cls := "Sharedair$Land", name := "put", desc := "(III)V" } : Jvm.MethodName) ∈ TBg := tb_in 599 (by decide +kernel) (by decide +kernel)
theorem tw_600 : Jvm.Cond.code ({ cls := "Sharedair$Land", name := "put", desc := "(III)V" } : Jvm.MethodName) prog_4_method_5_code (4 : Nat) (Option.none : Option Jvm.ClassFile.FieldType) ∈ TBg := tb_in 600 (by decide +kernel) (by decide +kernel)
theorem tw_601 : Jvm.Cond.methodLink "SharedairLaw" (53 : Nat) ({ cls := "Sharedair", name := "tune", desc := "(IIZ)I" } : Jvm.MethodName) ∈ TBg := tb_in 601 (by decide +kernel) (by decide +kernel)
theorem tw_602 : Jvm.Cond.instanceMethod ({ cls := "Sharedair", name := "tune", desc := "(IIZ)I" } : Jvm.MethodName) ∈ TBg := tb_in 602 (by decide +kernel) (by decide +kernel)
theorem tw_603 : Jvm.Cond.selects "Sharedair" ({ cls := "Sharedair", name := "tune", desc := "(IIZ)I" } : Jvm.MethodName) ({ cls := "Sharedair", name := "tune", desc := "(IIZ)I" } : Jvm.MethodName) ∈ TBg := tb_in 603 (by decide +kernel) (by decide +kernel)
theorem tw_604 : Jvm.Cond.code ({ cls := "Sharedair", name := "tune", desc := "(IIZ)I" } : Jvm.MethodName) prog_1_method_4_code (5 : Nat) (Option.some Jvm.ClassFile.FieldType.int) ∈ TBg := tb_in 604 (by decide +kernel) (by decide +kernel)
theorem tw_606 : Jvm.Cond.methodLink "Sharedair" (105 : Nat) ({ cls := "Sharedair$Land", name := "adjust", desc := "(IIZ)V" } : Jvm.MethodName) ∈ TBg := tb_in 606 (by decide +kernel) (by decide +kernel)
theorem tw_607 : Jvm.Cond.methodLink "SharedairLaw" (57 : Nat) ({ cls := "Sharedair", name := "bid", desc := "(III)I" } : Jvm.MethodName) ∈ TBg := tb_in 607 (by decide +kernel) (by decide +kernel)
theorem tw_608 : Jvm.Cond.instanceMethod ({ cls := "Sharedair", name := "bid", desc := "(III)I" } : Jvm.MethodName) ∈ TBg := tb_in 608 (by decide +kernel) (by decide +kernel)
theorem tw_609 : Jvm.Cond.selects "Sharedair" ({ cls := "Sharedair", name := "bid", desc := "(III)I" } : Jvm.MethodName) ({ cls := "Sharedair", name := "bid", desc := "(III)I" } : Jvm.MethodName) ∈ TBg := tb_in 609 (by decide +kernel) (by decide +kernel)
theorem tw_610 : Jvm.Cond.code ({ cls := "Sharedair", name := "bid", desc := "(III)I" } : Jvm.MethodName) prog_1_method_8_code (4 : Nat) (Option.some Jvm.ClassFile.FieldType.int) ∈ TBg := tb_in 610 (by decide +kernel) (by decide +kernel)
theorem tw_613 : Jvm.Cond.methodLink "Sharedair" (153 : Nat) ({ cls := "Sharedair$Market", name := "add", desc := "(III)I" } : Jvm.MethodName) ∈ TBg := tb_in 613 (by decide +kernel) (by decide +kernel)
theorem tw_614 : Jvm.Cond.instanceMethod ({ cls := "Sharedair$Market", name := "add", desc := "(III)I" } : Jvm.MethodName) ∈ TBg := tb_in 614 (by decide +kernel) (by decide +kernel)
theorem tw_615 : Jvm.Cond.selects "Sharedair$Market" ({ cls := "Sharedair$Market", name := "add", desc := "(III)I" } : Jvm.MethodName) ({ cls := "Sharedair$Market", name := "add", desc := "(III)I" } : Jvm.MethodName) ∈ TBg := tb_in 615 (by decide +kernel) (by decide +kernel)
theorem tw_616 : Jvm.Cond.code ({ cls := "Sharedair$Market", name := "add", desc := "(III)I" } : Jvm.MethodName) prog_5_method_2_code (9 : Nat) (Option.some Jvm.ClassFile.FieldType.int) ∈ TBg := tb_in 616 (by decide +kernel) (by decide +kernel)
theorem tw_617 : Jvm.Cond.methodLink "Sharedair$Market" (40 : Nat) ({ cls := "Sharedair$Market", name := "weigh", desc := "(I)V" } : Jvm.MethodName) ∈ TBg := tb_in 617 (by decide +kernel) (by decide +kernel)
theorem tw_619 : Jvm.Cond.instanceMethod ({ cls := "Sharedair$Market", name := "weigh", desc := "(I)V" } : Jvm.MethodName) ∈ TBg := tb_in 619 (by decide +kernel) (by decide +kernel)
theorem tw_620 : Jvm.Cond.code ({ cls := "Sharedair$Market", name := "weigh", desc := "(I)V" } : Jvm.MethodName) prog_5_method_3_code (3 : Nat) (Option.none : Option Jvm.ClassFile.FieldType) ∈ TBg := tb_in 620 (by decide +kernel) (by decide +kernel)
theorem tw_622 : Jvm.Cond.methodLink "SharedairLaw" (60 : Nat) ({ cls := "Sharedair", name := "sell", desc := "()I" } : Jvm.MethodName) ∈ TBg := tb_in 622 (by decide +kernel) (by decide +kernel)
theorem tw_623 : Jvm.Cond.instanceMethod ({ cls := "Sharedair", name := "sell", desc := "()I" } : Jvm.MethodName) ∈ TBg := tb_in 623 (by decide +kernel) (by decide +kernel)
theorem tw_624 : Jvm.Cond.selects "Sharedair" ({ cls := "Sharedair", name := "sell", desc := "()I" } : Jvm.MethodName) ({ cls := "Sharedair", name := "sell", desc := "()I" } : Jvm.MethodName) ∈ TBg := tb_in 624 (by decide +kernel) (by decide +kernel)
theorem tw_625 : Jvm.Cond.code ({ cls := "Sharedair", name := "sell", desc := "()I" } : Jvm.MethodName) prog_1_method_9_code (1 : Nat) (Option.some Jvm.ClassFile.FieldType.int) ∈ TBg := tb_in 625 (by decide +kernel) (by decide +kernel)
theorem tw_626 : Jvm.Cond.methodLink "Sharedair" (156 : Nat) ({ cls := "Sharedair$Market", name := "sellAll", desc := "()I" } : Jvm.MethodName) ∈ TBg := tb_in 626 (by decide +kernel) (by decide +kernel)
theorem tw_627 : Jvm.Cond.instanceMethod ({ cls := "Sharedair$Market", name := "sellAll", desc := "()I" } : Jvm.MethodName) ∈ TBg := tb_in 627 (by decide +kernel) (by decide +kernel)
theorem tw_628 : Jvm.Cond.selects "Sharedair$Market" ({ cls := "Sharedair$Market", name := "sellAll", desc := "()I" } : Jvm.MethodName) ({ cls := "Sharedair$Market", name := "sellAll", desc := "()I" } : Jvm.MethodName) ∈ TBg := tb_in 628 (by decide +kernel) (by decide +kernel)
theorem tw_629 : Jvm.Cond.code ({ cls := "Sharedair$Market", name := "sellAll", desc := "()I" } : Jvm.MethodName) prog_5_method_7_code (3 : Nat) (Option.some Jvm.ClassFile.FieldType.int) ∈ TBg := tb_in 629 (by decide +kernel) (by decide +kernel)
theorem tw_630 : Jvm.Cond.methodLink "Sharedair$Market" (52 : Nat) ({ cls := "Sharedair$Market", name := "paidBy", desc := "(I)I" } : Jvm.MethodName) ∈ TBg := tb_in 630 (by decide +kernel) (by decide +kernel)
theorem tw_631 : Jvm.Cond.instanceMethod ({ cls := "Sharedair$Market", name := "paidBy", desc := "(I)I" } : Jvm.MethodName) ∈ TBg := tb_in 631 (by decide +kernel) (by decide +kernel)
theorem tw_632 : Jvm.Cond.selects "Sharedair$Market" ({ cls := "Sharedair$Market", name := "paidBy", desc := "(I)I" } : Jvm.MethodName) ({ cls := "Sharedair$Market", name := "paidBy", desc := "(I)I" } : Jvm.MethodName) ∈ TBg := tb_in 632 (by decide +kernel) (by decide +kernel)
theorem tw_633 : Jvm.Cond.code ({ cls := "Sharedair$Market", name := "paidBy", desc := "(I)I" } : Jvm.MethodName) prog_5_method_5_code (3 : Nat) (Option.some Jvm.ClassFile.FieldType.int) ∈ TBg := tb_in 633 (by decide +kernel) (by decide +kernel)
theorem tw_634 : Jvm.Cond.methodLink "Sharedair$Market" (48 : Nat) ({ cls := "Sharedair$Market", name := "winningPrice", desc := "(I)I" } : Jvm.MethodName) ∈ TBg := tb_in 634 (by decide +kernel) (by decide +kernel)
theorem tw_636 : Jvm.Cond.instanceMethod ({ cls := "Sharedair$Market", name := "winningPrice", desc := "(I)I" } : Jvm.MethodName) ∈ TBg := tb_in 636 (by decide +kernel) (by decide +kernel)
theorem tw_637 : Jvm.Cond.code ({ cls := "Sharedair$Market", name := "winningPrice", desc := "(I)I" } : Jvm.MethodName) prog_5_method_4_code (3 : Nat) (Option.some Jvm.ClassFile.FieldType.int) ∈ TBg := tb_in 637 (by decide +kernel) (by decide +kernel)
theorem tw_638 : Jvm.Cond.methodLink "Sharedair$Market" (55 : Nat) ({ cls := "Sharedair$Market", name := "forgetBids", desc := "()V" } : Jvm.MethodName) ∈ TBg := tb_in 638 (by decide +kernel) (by decide +kernel)
theorem tw_640 : Jvm.Cond.instanceMethod ({ cls := "Sharedair$Market", name := "forgetBids", desc := "()V" } : Jvm.MethodName) ∈ TBg := tb_in 640 (by decide +kernel) (by decide +kernel)
theorem tw_641 : Jvm.Cond.code ({ cls := "Sharedair$Market", name := "forgetBids", desc := "()V" } : Jvm.MethodName) prog_5_method_8_code (2 : Nat) (Option.none : Option Jvm.ClassFile.FieldType) ∈ TBg := tb_in 641 (by decide +kernel) (by decide +kernel)
theorem tw_642 : Jvm.Cond.methodLink "SharedairLaw" (64 : Nat) ({ cls := "Sharedair", name := "pass", desc := "(I)I" } : Jvm.MethodName) ∈ TBg := tb_in 642 (by decide +kernel) (by decide +kernel)
theorem tw_643 : Jvm.Cond.instanceMethod ({ cls := "Sharedair", name := "pass", desc := "(I)I" } : Jvm.MethodName) ∈ TBg := tb_in 643 (by decide +kernel) (by decide +kernel)
theorem tw_644 : Jvm.Cond.selects "Sharedair" ({ cls := "Sharedair", name := "pass", desc := "(I)I" } : Jvm.MethodName) ({ cls := "Sharedair", name := "pass", desc := "(I)I" } : Jvm.MethodName) ∈ TBg := tb_in 644 (by decide +kernel) (by decide +kernel)
theorem tw_645 : Jvm.Cond.code ({ cls := "Sharedair", name := "pass", desc := "(I)I" } : Jvm.MethodName) prog_1_method_6_code (3 : Nat) (Option.some Jvm.ClassFile.FieldType.int) ∈ TBg := tb_in 645 (by decide +kernel) (by decide +kernel)
theorem tw_648 : Jvm.Cond.methodLink "Sharedair" (136 : Nat) ({ cls := "Sharedair$Traffic", name := "goBy", desc := "()V" } : Jvm.MethodName) ∈ TBg := tb_in 648 (by decide +kernel) (by decide +kernel)
theorem tw_649 : Jvm.Cond.instanceMethod ({ cls := "Sharedair$Traffic", name := "goBy", desc := "()V" } : Jvm.MethodName) ∈ TBg := tb_in 649 (by decide +kernel) (by decide +kernel)
theorem tw_650 : Jvm.Cond.selects "Sharedair$Traffic" ({ cls := "Sharedair$Traffic", name := "goBy", desc := "()V" } : Jvm.MethodName) ({ cls := "Sharedair$Traffic", name := "goBy", desc := "()V" } : Jvm.MethodName) ∈ TBg := tb_in 650 (by decide +kernel) (by decide +kernel)
theorem tw_651 : Jvm.Cond.code ({ cls := "Sharedair$Traffic", name := "goBy", desc := "()V" } : Jvm.MethodName) prog_9_method_3_code (4 : Nat) (Option.none : Option Jvm.ClassFile.FieldType) ∈ TBg := tb_in 651 (by decide +kernel) (by decide +kernel)
theorem tw_652 : Jvm.Cond.methodLink "Sharedair$Traffic" (50 : Nat) ({ cls := "Sharedair$Traffic", name := "senders", desc := "()I" } : Jvm.MethodName) ∈ TBg := tb_in 652 (by decide +kernel) (by decide +kernel)
theorem tw_654 : Jvm.Cond.methodLink "Sharedair$Traffic" (58 : Nat) ({ cls := "Sharedair$Land", name := "hearsOneOf", desc := "(II)Z" } : Jvm.MethodName) ∈ TBg := tb_in 654 (by decide +kernel) (by decide +kernel)
theorem tw_655 : Jvm.Cond.instanceMethod ({ cls := "Sharedair$Land", name := "hearsOneOf", desc := "(II)Z" } : Jvm.MethodName) ∈ TBg := tb_in 655 (by decide +kernel) (by decide +kernel)
theorem tw_656 : Jvm.Cond.selects "Sharedair$Land" ({ cls := "Sharedair$Land", name := "hearsOneOf", desc := "(II)Z" } : Jvm.MethodName) ({ cls := "Sharedair$Land", name := "hearsOneOf", desc := "(II)Z" } : Jvm.MethodName) ∈ TBg := tb_in 656 (by decide +kernel) (by decide +kernel)
theorem tw_657 : Jvm.Cond.code ({ cls := "Sharedair$Land", name := "hearsOneOf", desc := "(II)Z" } : Jvm.MethodName) prog_4_method_12_code (4 : Nat) (Option.some Jvm.ClassFile.FieldType.boolean) ∈ TBg := tb_in 657 (by decide +kernel) (by decide +kernel)
theorem tw_658 : Jvm.Cond.methodLink "Sharedair$Traffic" (61 : Nat) ({ cls := "Sharedair$Traffic", name := "takeTurn", desc := "(I)V" } : Jvm.MethodName) ∈ TBg := tb_in 658 (by decide +kernel) (by decide +kernel)
theorem tw_660 : Jvm.Cond.instanceMethod ({ cls := "Sharedair$Traffic", name := "takeTurn", desc := "(I)V" } : Jvm.MethodName) ∈ TBg := tb_in 660 (by decide +kernel) (by decide +kernel)
theorem tw_661 : Jvm.Cond.code ({ cls := "Sharedair$Traffic", name := "takeTurn", desc := "(I)V" } : Jvm.MethodName) prog_9_method_4_code (5 : Nat) (Option.none : Option Jvm.ClassFile.FieldType) ∈ TBg := tb_in 661 (by decide +kernel) (by decide +kernel)
theorem tw_662 : Jvm.Cond.methodLink "Sharedair$Traffic" (76 : Nat) ({ cls := "Sharedair$FrameQueue", name := "at", desc := "(I)LSharedair$Frame;" } : Jvm.MethodName) ∈ TBg := tb_in 662 (by decide +kernel) (by decide +kernel)
theorem tw_663 : Jvm.Cond.instanceMethod ({ cls := "Sharedair$FrameQueue", name := "at", desc := "(I)LSharedair$Frame;" } : Jvm.MethodName) ∈ TBg := tb_in 663 (by decide +kernel) (by decide +kernel)
theorem tw_664 : Jvm.Cond.selects "Sharedair$FrameQueue" ({ cls := "Sharedair$FrameQueue", name := "at", desc := "(I)LSharedair$Frame;" } : Jvm.MethodName) ({ cls := "Sharedair$FrameQueue", name := "at", desc := "(I)LSharedair$Frame;" } : Jvm.MethodName) ∈ TBg := tb_in 664 (by decide +kernel) (by decide +kernel)
theorem tw_665 : Jvm.Cond.code ({ cls := "Sharedair$FrameQueue", name := "at", desc := "(I)LSharedair$Frame;" } : Jvm.MethodName) prog_3_method_2_code (2 : Nat) (Option.some (Jvm.ClassFile.FieldType.object "Sharedair$Frame")) ∈ TBg := tb_in 665 (by decide +kernel) (by decide +kernel)
theorem tw_666 : Jvm.Cond.methodLink "Sharedair$Traffic" (90 : Nat) ({ cls := "Sharedair$Routes", name := "nextOf", desc := "(II)I" } : Jvm.MethodName) ∈ TBg := tb_in 666 (by decide +kernel) (by decide +kernel)
theorem tw_667 : Jvm.Cond.methodLink "Sharedair$Traffic" (96 : Nat) ({ cls := "Sharedair$Traffic", name := "dropFirst", desc := "(LSharedair$Node;)V" } : Jvm.MethodName) ∈ TBg := tb_in 667 (by decide +kernel) (by decide +kernel)
theorem tw_669 : Jvm.Cond.instanceMethod ({ cls := "Sharedair$Traffic", name := "dropFirst", desc := "(LSharedair$Node;)V" } : Jvm.MethodName) ∈ TBg := tb_in 669 (by decide +kernel) (by decide +kernel)
theorem tw_670 : Jvm.Cond.code ({ cls := "Sharedair$Traffic", name := "dropFirst", desc := "(LSharedair$Node;)V" } : Jvm.MethodName) prog_9_method_11_code (2 : Nat) (Option.none : Option Jvm.ClassFile.FieldType) ∈ TBg := tb_in 670 (by decide +kernel) (by decide +kernel)
theorem tw_671 : Jvm.Cond.methodLink "Sharedair$Traffic" (134 : Nat) ({ cls := "Sharedair$Node", name := "finishFirst", desc := "()V" } : Jvm.MethodName) ∈ TBg := tb_in 671 (by decide +kernel) (by decide +kernel)
theorem tw_672 : Jvm.Cond.instanceMethod ({ cls := "Sharedair$Node", name := "finishFirst", desc := "()V" } : Jvm.MethodName) ∈ TBg := tb_in 672 (by decide +kernel) (by decide +kernel)
theorem tw_673 : Jvm.Cond.selects "Sharedair$Node" ({ cls := "Sharedair$Node", name := "finishFirst", desc := "()V" } : Jvm.MethodName) ({ cls := "Sharedair$Node", name := "finishFirst", desc := "()V" } : Jvm.MethodName) ∈ TBg := tb_in 673 (by decide +kernel) (by decide +kernel)
theorem tw_674 : Jvm.Cond.code ({ cls := "Sharedair$Node", name := "finishFirst", desc := "()V" } : Jvm.MethodName) prog_6_method_4_code (1 : Nat) (Option.none : Option Jvm.ClassFile.FieldType) ∈ TBg := tb_in 674 (by decide +kernel) (by decide +kernel)
theorem tw_675 : Jvm.Cond.methodLink "Sharedair$Node" (69 : Nat) ({ cls := "Sharedair$FrameQueue", name := "removeFirst", desc := "()V" } : Jvm.MethodName) ∈ TBg := tb_in 675 (by decide +kernel) (by decide +kernel)
theorem tw_676 : Jvm.Cond.instanceMethod ({ cls := "Sharedair$FrameQueue", name := "removeFirst", desc := "()V" } : Jvm.MethodName) ∈ TBg := tb_in 676 (by decide +kernel) (by decide +kernel)
theorem tw_677 : Jvm.Cond.selects "Sharedair$FrameQueue" ({ cls := "Sharedair$FrameQueue", name := "removeFirst", desc := "()V" } : Jvm.MethodName) ({ cls := "Sharedair$FrameQueue", name := "removeFirst", desc := "()V" } : Jvm.MethodName) ∈ TBg := tb_in 677 (by decide +kernel) (by decide +kernel)
theorem tw_678 : Jvm.Cond.code ({ cls := "Sharedair$FrameQueue", name := "removeFirst", desc := "()V" } : Jvm.MethodName) prog_3_method_4_code (3 : Nat) (Option.none : Option Jvm.ClassFile.FieldType) ∈ TBg := tb_in 678 (by decide +kernel) (by decide +kernel)
theorem tw_679 : Jvm.Cond.methodLink "Sharedair$Traffic" (103 : Nat) ({ cls := "Sharedair$Node", name := "begin", desc := "(II)V" } : Jvm.MethodName) ∈ TBg := tb_in 679 (by decide +kernel) (by decide +kernel)
theorem tw_680 : Jvm.Cond.instanceMethod ({ cls := "Sharedair$Node", name := "begin", desc := "(II)V" } : Jvm.MethodName) ∈ TBg := tb_in 680 (by decide +kernel) (by decide +kernel)
theorem tw_681 : Jvm.Cond.selects "Sharedair$Node" ({ cls := "Sharedair$Node", name := "begin", desc := "(II)V" } : Jvm.MethodName) ({ cls := "Sharedair$Node", name := "begin", desc := "(II)V" } : Jvm.MethodName) ∈ TBg := tb_in 681 (by decide +kernel) (by decide +kernel)
theorem tw_682 : Jvm.Cond.code ({ cls := "Sharedair$Node", name := "begin", desc := "(II)V" } : Jvm.MethodName) prog_6_method_3_code (3 : Nat) (Option.none : Option Jvm.ClassFile.FieldType) ∈ TBg := tb_in 682 (by decide +kernel) (by decide +kernel)
theorem tw_683 : Jvm.Cond.methodLink "Sharedair$Traffic" (65 : Nat) ({ cls := "Sharedair$Traffic", name := "goOn", desc := "(II)V" } : Jvm.MethodName) ∈ TBg := tb_in 683 (by decide +kernel) (by decide +kernel)
theorem tw_685 : Jvm.Cond.instanceMethod ({ cls := "Sharedair$Traffic", name := "goOn", desc := "(II)V" } : Jvm.MethodName) ∈ TBg := tb_in 685 (by decide +kernel) (by decide +kernel)
theorem tw_686 : Jvm.Cond.code ({ cls := "Sharedair$Traffic", name := "goOn", desc := "(II)V" } : Jvm.MethodName) prog_9_method_5_code (4 : Nat) (Option.none : Option Jvm.ClassFile.FieldType) ∈ TBg := tb_in 686 (by decide +kernel) (by decide +kernel)
theorem tw_687 : Jvm.Cond.methodLink "Sharedair$Traffic" (115 : Nat) ({ cls := "Sharedair$Land", name := "isNode", desc := "(I)Z" } : Jvm.MethodName) ∈ TBg := tb_in 687 (by decide +kernel) (by decide +kernel)
theorem tw_688 : Jvm.Cond.methodLink "Sharedair$Traffic" (119 : Nat) ({ cls := "Sharedair$Land", name := "gets", desc := "(III)Z" } : Jvm.MethodName) ∈ TBg := tb_in 688 (by decide +kernel) (by decide +kernel)
theorem tw_689 : Jvm.Cond.instanceMethod ({ cls := "Sharedair$Land", name := "gets", desc := "(III)Z" } : Jvm.MethodName) ∈ TBg := tb_in 689 (by decide +kernel) (by decide +kernel)
theorem tw_690 : Jvm.Cond.selects "Sharedair$Land" ({ cls := "Sharedair$Land", name := "gets", desc := "(III)Z" } : Jvm.MethodName) ({ cls := "Sharedair$Land", name := "gets", desc := "(III)Z" } : Jvm.MethodName) ∈ TBg := tb_in 690 (by decide +kernel) (by decide +kernel)
theorem tw_691 : Jvm.Cond.code ({ cls := "Sharedair$Land", name := "gets", desc := "(III)Z" } : Jvm.MethodName) prog_4_method_13_code (7 : Nat) (Option.some Jvm.ClassFile.FieldType.boolean) ∈ TBg := tb_in 691 (by decide +kernel) (by decide +kernel)
theorem tw_692 : Jvm.Cond.methodLink "Sharedair$Traffic" (69 : Nat) ({ cls := "Sharedair$Traffic", name := "end", desc := "(I)V" } : Jvm.MethodName) ∈ TBg := tb_in 692 (by decide +kernel) (by decide +kernel)
theorem tw_694 : Jvm.Cond.instanceMethod ({ cls := "Sharedair$Traffic", name := "end", desc := "(I)V" } : Jvm.MethodName) ∈ TBg := tb_in 694 (by decide +kernel) (by decide +kernel)
theorem tw_695 : Jvm.Cond.code ({ cls := "Sharedair$Traffic", name := "end", desc := "(I)V" } : Jvm.MethodName) prog_9_method_6_code (5 : Nat) (Option.none : Option Jvm.ClassFile.FieldType) ∈ TBg := tb_in 695 (by decide +kernel) (by decide +kernel)
theorem tw_696 : Jvm.Cond.methodLink "Sharedair$Traffic" (127 : Nat) ({ cls := "Sharedair$Traffic", name := "receive", desc := "(ILSharedair$Frame;)V" } : Jvm.MethodName) ∈ TBg := tb_in 696 (by decide +kernel) (by decide +kernel)
theorem tw_698 : Jvm.Cond.instanceMethod ({ cls := "Sharedair$Traffic", name := "receive", desc := "(ILSharedair$Frame;)V" } : Jvm.MethodName) ∈ TBg := tb_in 698 (by decide +kernel) (by decide +kernel)
theorem tw_699 : Jvm.Cond.code ({ cls := "Sharedair$Traffic", name := "receive", desc := "(ILSharedair$Frame;)V" } : Jvm.MethodName) prog_9_method_8_code (3 : Nat) (Option.none : Option Jvm.ClassFile.FieldType) ∈ TBg := tb_in 699 (by decide +kernel) (by decide +kernel)
theorem tw_700 : Jvm.Cond.methodLink "Sharedair$Traffic" (153 : Nat) ({ cls := "Sharedair$Traffic", name := "arrive", desc := "(LSharedair$Frame;)V" } : Jvm.MethodName) ∈ TBg := tb_in 700 (by decide +kernel) (by decide +kernel)
theorem tw_702 : Jvm.Cond.instanceMethod ({ cls := "Sharedair$Traffic", name := "arrive", desc := "(LSharedair$Frame;)V" } : Jvm.MethodName) ∈ TBg := tb_in 702 (by decide +kernel) (by decide +kernel)
theorem tw_703 : Jvm.Cond.code ({ cls := "Sharedair$Traffic", name := "arrive", desc := "(LSharedair$Frame;)V" } : Jvm.MethodName) prog_9_method_10_code (3 : Nat) (Option.none : Option Jvm.ClassFile.FieldType) ∈ TBg := tb_in 703 (by decide +kernel) (by decide +kernel)
theorem tw_704 : Jvm.Cond.methodLink "Sharedair$Traffic" (178 : Nat) ({ cls := "Sharedair$NumberSet", name := "has", desc := "(I)Z" } : Jvm.MethodName) ∈ TBg := tb_in 704 (by decide +kernel) (by decide +kernel)
theorem tw_705 : Jvm.Cond.instanceMethod ({ cls := "Sharedair$NumberSet", name := "has", desc := "(I)Z" } : Jvm.MethodName) ∈ TBg := tb_in 705 (by decide +kernel) (by decide +kernel)
theorem tw_706 : Jvm.Cond.selects "Sharedair$NumberSet" ({ cls := "Sharedair$NumberSet", name := "has", desc := "(I)Z" } : Jvm.MethodName) ({ cls := "Sharedair$NumberSet", name := "has", desc := "(I)Z" } : Jvm.MethodName) ∈ TBg := tb_in 706 (by decide +kernel) (by decide +kernel)
theorem tw_707 : Jvm.Cond.code ({ cls := "Sharedair$NumberSet", name := "has", desc := "(I)Z" } : Jvm.MethodName) prog_7_method_2_code (2 : Nat) (Option.some Jvm.ClassFile.FieldType.boolean) ∈ TBg := tb_in 707 (by decide +kernel) (by decide +kernel)
theorem tw_708 : Jvm.Cond.methodLink "Sharedair$Traffic" (183 : Nat) ({ cls := "Sharedair$NumberSet", name := "put", desc := "(I)V" } : Jvm.MethodName) ∈ TBg := tb_in 708 (by decide +kernel) (by decide +kernel)
theorem tw_709 : Jvm.Cond.instanceMethod ({ cls := "Sharedair$NumberSet", name := "put", desc := "(I)V" } : Jvm.MethodName) ∈ TBg := tb_in 709 (by decide +kernel) (by decide +kernel)
theorem tw_710 : Jvm.Cond.selects "Sharedair$NumberSet" ({ cls := "Sharedair$NumberSet", name := "put", desc := "(I)V" } : Jvm.MethodName) ({ cls := "Sharedair$NumberSet", name := "put", desc := "(I)V" } : Jvm.MethodName) ∈ TBg := tb_in 710 (by decide +kernel) (by decide +kernel)
theorem tw_711 : Jvm.Cond.code ({ cls := "Sharedair$NumberSet", name := "put", desc := "(I)V" } : Jvm.MethodName) prog_7_method_3_code (2 : Nat) (Option.none : Option Jvm.ClassFile.FieldType) ∈ TBg := tb_in 711 (by decide +kernel) (by decide +kernel)
theorem tw_712 : Jvm.Cond.methodLink "Sharedair$Traffic" (160 : Nat) ({ cls := "Sharedair$Traffic", name := "pushCopy", desc := "(LSharedair$FrameQueue;LSharedair$Frame;)Z" } : Jvm.MethodName) ∈ TBg := tb_in 712 (by decide +kernel) (by decide +kernel)
theorem tw_713 : Jvm.Cond.static ({ cls := "Sharedair$Traffic", name := "pushCopy", desc := "(LSharedair$FrameQueue;LSharedair$Frame;)Z" } : Jvm.MethodName) ∈ TBg := tb_in 713 (by decide +kernel) (by decide +kernel)
theorem tw_714 : Jvm.Cond.code ({ cls := "Sharedair$Traffic", name := "pushCopy", desc := "(LSharedair$FrameQueue;LSharedair$Frame;)Z" } : Jvm.MethodName) prog_9_method_9_code (2 : Nat) (Option.some Jvm.ClassFile.FieldType.boolean) ∈ TBg := tb_in 714 (by decide +kernel) (by decide +kernel)
theorem tw_715 : Jvm.Cond.methodLink "Sharedair$Traffic" (170 : Nat) ({ cls := "Sharedair$FrameQueue", name := "add", desc := "(IIIII)Z" } : Jvm.MethodName) ∈ TBg := tb_in 715 (by decide +kernel) (by decide +kernel)
theorem tw_716 : Jvm.Cond.methodLink "Sharedair$Traffic" (131 : Nat) ({ cls := "Sharedair$Land", name := "canHear", desc := "(II)Z" } : Jvm.MethodName) ∈ TBg := tb_in 716 (by decide +kernel) (by decide +kernel)
theorem tw_717 : Jvm.Cond.methodLink "Sharedair$Traffic" (137 : Nat) ({ cls := "Sharedair$Traffic", name := "tryAgain", desc := "(LSharedair$Node;)V" } : Jvm.MethodName) ∈ TBg := tb_in 717 (by decide +kernel) (by decide +kernel)
theorem tw_719 : Jvm.Cond.instanceMethod ({ cls := "Sharedair$Traffic", name := "tryAgain", desc := "(LSharedair$Node;)V" } : Jvm.MethodName) ∈ TBg := tb_in 719 (by decide +kernel) (by decide +kernel)
theorem tw_720 : Jvm.Cond.code ({ cls := "Sharedair$Traffic", name := "tryAgain", desc := "(LSharedair$Node;)V" } : Jvm.MethodName) prog_9_method_7_code (2 : Nat) (Option.none : Option Jvm.ClassFile.FieldType) ∈ TBg := tb_in 720 (by decide +kernel) (by decide +kernel)
theorem tw_721 : Jvm.Cond.methodLink "Sharedair$Traffic" (146 : Nat) ({ cls := "Sharedair$Traffic", name := "draw", desc := "(I)I" } : Jvm.MethodName) ∈ TBg := tb_in 721 (by decide +kernel) (by decide +kernel)
theorem tw_723 : Jvm.Cond.instanceMethod ({ cls := "Sharedair$Traffic", name := "draw", desc := "(I)I" } : Jvm.MethodName) ∈ TBg := tb_in 723 (by decide +kernel) (by decide +kernel)
theorem tw_724 : Jvm.Cond.code ({ cls := "Sharedair$Traffic", name := "draw", desc := "(I)I" } : Jvm.MethodName) prog_9_method_12_code (2 : Nat) (Option.some Jvm.ClassFile.FieldType.int) ∈ TBg := tb_in 724 (by decide +kernel) (by decide +kernel)
theorem tw_725 : Jvm.Cond.methodLink "Sharedair$Traffic" (150 : Nat) ({ cls := "Sharedair$Node", name := "waitAgain", desc := "(I)V" } : Jvm.MethodName) ∈ TBg := tb_in 725 (by decide +kernel) (by decide +kernel)
theorem tw_726 : Jvm.Cond.instanceMethod ({ cls := "Sharedair$Node", name := "waitAgain", desc := "(I)V" } : Jvm.MethodName) ∈ TBg := tb_in 726 (by decide +kernel) (by decide +kernel)
theorem tw_727 : Jvm.Cond.selects "Sharedair$Node" ({ cls := "Sharedair$Node", name := "waitAgain", desc := "(I)V" } : Jvm.MethodName) ({ cls := "Sharedair$Node", name := "waitAgain", desc := "(I)V" } : Jvm.MethodName) ∈ TBg := tb_in 727 (by decide +kernel) (by decide +kernel)
theorem tw_728 : Jvm.Cond.code ({ cls := "Sharedair$Node", name := "waitAgain", desc := "(I)V" } : Jvm.MethodName) prog_6_method_5_code (2 : Nat) (Option.none : Option Jvm.ClassFile.FieldType) ∈ TBg := tb_in 728 (by decide +kernel) (by decide +kernel)
theorem tw_729 : Jvm.Cond.methodLink "SharedairLaw" (42 : Nat) ({ cls := "SharedairLaw", name := "isAsked", desc := "(LSharedair;III)Z" } : Jvm.MethodName) ∈ TBg := tb_in 729 (by decide +kernel) (by decide +kernel)
theorem tw_730 : Jvm.Cond.static ({ cls := "SharedairLaw", name := "isAsked", desc := "(LSharedair;III)Z" } : Jvm.MethodName) ∈ TBg := tb_in 730 (by decide +kernel) (by decide +kernel)
theorem tw_731 : Jvm.Cond.code ({ cls := "SharedairLaw", name := "isAsked", desc := "(LSharedair;III)Z" } : Jvm.MethodName) method_6_code (11 : Nat) (Option.some Jvm.ClassFile.FieldType.boolean) ∈ TBg := tb_in 731 (by decide +kernel) (by decide +kernel)
theorem tw_732 : Jvm.Cond.methodLink "SharedairLaw" (73 : Nat) ({ cls := "Sharedair", name := "digest", desc := "()J" } : Jvm.MethodName) ∈ TBg := tb_in 732 (by decide +kernel) (by decide +kernel)
theorem tw_733 : Jvm.Cond.instanceMethod ({ cls := "Sharedair", name := "digest", desc := "()J" } : Jvm.MethodName) ∈ TBg := tb_in 733 (by decide +kernel) (by decide +kernel)
theorem tw_734 : Jvm.Cond.selects "Sharedair" ({ cls := "Sharedair", name := "digest", desc := "()J" } : Jvm.MethodName) ({ cls := "Sharedair", name := "digest", desc := "()J" } : Jvm.MethodName) ∈ TBg := tb_in 734 (by decide +kernel) (by decide +kernel)
theorem tw_735 : Jvm.Cond.code ({ cls := "Sharedair", name := "digest", desc := "()J" } : Jvm.MethodName) prog_1_method_25_code (4 : Nat) (Option.some Jvm.ClassFile.FieldType.long) ∈ TBg := tb_in 735 (by decide +kernel) (by decide +kernel)
theorem tw_736 : Jvm.Cond.constantLong "Sharedair" (353 : Nat) (7603 : Int64) ∈ TBg := tb_in 736 (by decide +kernel) (by decide +kernel)
theorem tw_737 : Jvm.Cond.methodLink "Sharedair" (355 : Nat) ({ cls := "Sharedair", name := "air", desc := "(I)I" } : Jvm.MethodName) ∈ TBg := tb_in 737 (by decide +kernel) (by decide +kernel)
theorem tw_738 : Jvm.Cond.methodLink "Sharedair" (358 : Nat) ({ cls := "Sharedair", name := "mix", desc := "(JJ)J" } : Jvm.MethodName) ∈ TBg := tb_in 738 (by decide +kernel) (by decide +kernel)
theorem tw_739 : Jvm.Cond.static ({ cls := "Sharedair", name := "mix", desc := "(JJ)J" } : Jvm.MethodName) ∈ TBg := tb_in 739 (by decide +kernel) (by decide +kernel)
theorem tw_740 : Jvm.Cond.code ({ cls := "Sharedair", name := "mix", desc := "(JJ)J" } : Jvm.MethodName) prog_1_method_27_code (4 : Nat) (Option.some Jvm.ClassFile.FieldType.long) ∈ TBg := tb_in 740 (by decide +kernel) (by decide +kernel)
theorem tw_741 : Jvm.Cond.constantLong "Sharedair" (386 : Nat) (31 : Int64) ∈ TBg := tb_in 741 (by decide +kernel) (by decide +kernel)
theorem tw_742 : Jvm.Cond.methodLink "Sharedair" (362 : Nat) ({ cls := "Sharedair", name := "mixNode", desc := "(JI)J" } : Jvm.MethodName) ∈ TBg := tb_in 742 (by decide +kernel) (by decide +kernel)
theorem tw_744 : Jvm.Cond.instanceMethod ({ cls := "Sharedair", name := "mixNode", desc := "(JI)J" } : Jvm.MethodName) ∈ TBg := tb_in 744 (by decide +kernel) (by decide +kernel)
theorem tw_745 : Jvm.Cond.code ({ cls := "Sharedair", name := "mixNode", desc := "(JI)J" } : Jvm.MethodName) prog_1_method_26_code (8 : Nat) (Option.some Jvm.ClassFile.FieldType.long) ∈ TBg := tb_in 745 (by decide +kernel) (by decide +kernel)
theorem tw_746 : Jvm.Cond.methodLink "Sharedair" (377 : Nat) ({ cls := "Sharedair", name := "ofNode", desc := "(II)I" } : Jvm.MethodName) ∈ TBg := tb_in 746 (by decide +kernel) (by decide +kernel)
theorem tw_747 : Jvm.Cond.methodLink "Sharedair" (380 : Nat) ({ cls := "Sharedair", name := "inQueue", desc := "(III)I" } : Jvm.MethodName) ∈ TBg := tb_in 747 (by decide +kernel) (by decide +kernel)
theorem tw_748 : Jvm.Cond.instanceMethod ({ cls := "Sharedair", name := "inQueue", desc := "(III)I" } : Jvm.MethodName) ∈ TBg := tb_in 748 (by decide +kernel) (by decide +kernel)
theorem tw_749 : Jvm.Cond.selects "Sharedair" ({ cls := "Sharedair", name := "inQueue", desc := "(III)I" } : Jvm.MethodName) ({ cls := "Sharedair", name := "inQueue", desc := "(III)I" } : Jvm.MethodName) ∈ TBg := tb_in 749 (by decide +kernel) (by decide +kernel)
theorem tw_750 : Jvm.Cond.code ({ cls := "Sharedair", name := "inQueue", desc := "(III)I" } : Jvm.MethodName) prog_1_method_13_code (5 : Nat) (Option.some Jvm.ClassFile.FieldType.int) ∈ TBg := tb_in 750 (by decide +kernel) (by decide +kernel)
theorem tw_752 : Jvm.Cond.methodLink "Sharedair" (210 : Nat) ({ cls := "Sharedair$FrameQueue", name := "at", desc := "(I)LSharedair$Frame;" } : Jvm.MethodName) ∈ TBg := tb_in 752 (by decide +kernel) (by decide +kernel)
theorem tw_753 : Jvm.Cond.methodLink "Sharedair" (383 : Nat) ({ cls := "Sharedair", name := "route", desc := "(III)I" } : Jvm.MethodName) ∈ TBg := tb_in 753 (by decide +kernel) (by decide +kernel)
theorem tw_754 : Jvm.Cond.instanceMethod ({ cls := "Sharedair", name := "route", desc := "(III)I" } : Jvm.MethodName) ∈ TBg := tb_in 754 (by decide +kernel) (by decide +kernel)
theorem tw_755 : Jvm.Cond.selects "Sharedair" ({ cls := "Sharedair", name := "route", desc := "(III)I" } : Jvm.MethodName) ({ cls := "Sharedair", name := "route", desc := "(III)I" } : Jvm.MethodName) ∈ TBg := tb_in 755 (by decide +kernel) (by decide +kernel)
theorem tw_756 : Jvm.Cond.code ({ cls := "Sharedair", name := "route", desc := "(III)I" } : Jvm.MethodName) prog_1_method_14_code (4 : Nat) (Option.some Jvm.ClassFile.FieldType.int) ∈ TBg := tb_in 756 (by decide +kernel) (by decide +kernel)
theorem tw_757 : Jvm.Cond.methodLink "Sharedair" (159 : Nat) ({ cls := "Sharedair", name := "checkPair", desc := "(II)V" } : Jvm.MethodName) ∈ TBg := tb_in 757 (by decide +kernel) (by decide +kernel)
theorem tw_759 : Jvm.Cond.instanceMethod ({ cls := "Sharedair", name := "checkPair", desc := "(II)V" } : Jvm.MethodName) ∈ TBg := tb_in 759 (by decide +kernel) (by decide +kernel)
theorem tw_760 : Jvm.Cond.code ({ cls := "Sharedair", name := "checkPair", desc := "(II)V" } : Jvm.MethodName) prog_1_method_29_code (3 : Nat) (Option.none : Option Jvm.ClassFile.FieldType) ∈ TBg := tb_in 760 (by decide +kernel) (by decide +kernel)
theorem tw_762 : Jvm.Cond.methodLink "Sharedair" (231 : Nat) ({ cls := "Sharedair$Routes", name := "costOf", desc := "(II)I" } : Jvm.MethodName) ∈ TBg := tb_in 762 (by decide +kernel) (by decide +kernel)
theorem tw_763 : Jvm.Cond.instanceMethod ({ cls := "Sharedair$Routes", name := "costOf", desc := "(II)I" } : Jvm.MethodName) ∈ TBg := tb_in 763 (by decide +kernel) (by decide +kernel)
theorem tw_764 : Jvm.Cond.selects "Sharedair$Routes" ({ cls := "Sharedair$Routes", name := "costOf", desc := "(II)I" } : Jvm.MethodName) ({ cls := "Sharedair$Routes", name := "costOf", desc := "(II)I" } : Jvm.MethodName) ∈ TBg := tb_in 764 (by decide +kernel) (by decide +kernel)
theorem tw_765 : Jvm.Cond.code ({ cls := "Sharedair$Routes", name := "costOf", desc := "(II)I" } : Jvm.MethodName) prog_8_method_2_code (3 : Nat) (Option.some Jvm.ClassFile.FieldType.int) ∈ TBg := tb_in 765 (by decide +kernel) (by decide +kernel)
theorem tw_766 : Jvm.Cond.methodLink "Sharedair" (235 : Nat) ({ cls := "Sharedair$Routes", name := "nextOf", desc := "(II)I" } : Jvm.MethodName) ∈ TBg := tb_in 766 (by decide +kernel) (by decide +kernel)
theorem tw_767 : Jvm.Cond.methodLink "Sharedair" (238 : Nat) ({ cls := "Sharedair$Routes", name := "wayLength", desc := "(II)I" } : Jvm.MethodName) ∈ TBg := tb_in 767 (by decide +kernel) (by decide +kernel)
theorem tw_768 : Jvm.Cond.instanceMethod ({ cls := "Sharedair$Routes", name := "wayLength", desc := "(II)I" } : Jvm.MethodName) ∈ TBg := tb_in 768 (by decide +kernel) (by decide +kernel)
theorem tw_769 : Jvm.Cond.selects "Sharedair$Routes" ({ cls := "Sharedair$Routes", name := "wayLength", desc := "(II)I" } : Jvm.MethodName) ({ cls := "Sharedair$Routes", name := "wayLength", desc := "(II)I" } : Jvm.MethodName) ∈ TBg := tb_in 769 (by decide +kernel) (by decide +kernel)
theorem tw_770 : Jvm.Cond.code ({ cls := "Sharedair$Routes", name := "wayLength", desc := "(II)I" } : Jvm.MethodName) prog_8_method_7_code (4 : Nat) (Option.some Jvm.ClassFile.FieldType.int) ∈ TBg := tb_in 770 (by decide +kernel) (by decide +kernel)
theorem tw_771 : Jvm.Cond.methodLink "Sharedair" (241 : Nat) ({ cls := "Sharedair$Routes", name := "hasCircle", desc := "(II)Z" } : Jvm.MethodName) ∈ TBg := tb_in 771 (by decide +kernel) (by decide +kernel)
theorem tw_773 : Jvm.Cond.constantDouble "Sharedair" (366 : Nat) (4661225614328463360 : UInt64) ∈ TBg := tb_in 773 (by decide +kernel) (by decide +kernel)
theorem tw_774 : Jvm.Cond.methodLink "Sharedair" (346 : Nat) ({ cls := "Sharedair", name := "fairness", desc := "()D" } : Jvm.MethodName) ∈ TBg := tb_in 774 (by decide +kernel) (by decide +kernel)
theorem tw_775 : Jvm.Cond.instanceMethod ({ cls := "Sharedair", name := "fairness", desc := "()D" } : Jvm.MethodName) ∈ TBg := tb_in 775 (by decide +kernel) (by decide +kernel)
theorem tw_776 : Jvm.Cond.selects "Sharedair" ({ cls := "Sharedair", name := "fairness", desc := "()D" } : Jvm.MethodName) ({ cls := "Sharedair", name := "fairness", desc := "()D" } : Jvm.MethodName) ∈ TBg := tb_in 776 (by decide +kernel) (by decide +kernel)
theorem tw_777 : Jvm.Cond.code ({ cls := "Sharedair", name := "fairness", desc := "()D" } : Jvm.MethodName) prog_1_method_17_code (8 : Nat) (Option.some Jvm.ClassFile.FieldType.double) ∈ TBg := tb_in 777 (by decide +kernel) (by decide +kernel)
theorem tw_778 : Jvm.Cond.methodLink "Sharedair" (368 : Nat) ({ cls := "Sharedair", name := "auction", desc := "(I)I" } : Jvm.MethodName) ∈ TBg := tb_in 778 (by decide +kernel) (by decide +kernel)
theorem tw_779 : Jvm.Cond.instanceMethod ({ cls := "Sharedair", name := "auction", desc := "(I)I" } : Jvm.MethodName) ∈ TBg := tb_in 779 (by decide +kernel) (by decide +kernel)
theorem tw_780 : Jvm.Cond.selects "Sharedair" ({ cls := "Sharedair", name := "auction", desc := "(I)I" } : Jvm.MethodName) ({ cls := "Sharedair", name := "auction", desc := "(I)I" } : Jvm.MethodName) ∈ TBg := tb_in 780 (by decide +kernel) (by decide +kernel)
theorem tw_781 : Jvm.Cond.code ({ cls := "Sharedair", name := "auction", desc := "(I)I" } : Jvm.MethodName) prog_1_method_22_code (2 : Nat) (Option.some Jvm.ClassFile.FieldType.int) ∈ TBg := tb_in 781 (by decide +kernel) (by decide +kernel)
theorem tw_783 : Jvm.Cond.methodLink "Sharedair" (331 : Nat) ({ cls := "Sharedair$Market", name := "paidBy", desc := "(I)I" } : Jvm.MethodName) ∈ TBg := tb_in 783 (by decide +kernel) (by decide +kernel)
theorem tw_784 : Jvm.Cond.methodLink "Sharedair" (371 : Nat) ({ cls := "Sharedair", name := "cover", desc := "()I" } : Jvm.MethodName) ∈ TBg := tb_in 784 (by decide +kernel) (by decide +kernel)
theorem tw_785 : Jvm.Cond.instanceMethod ({ cls := "Sharedair", name := "cover", desc := "()I" } : Jvm.MethodName) ∈ TBg := tb_in 785 (by decide +kernel) (by decide +kernel)
theorem tw_786 : Jvm.Cond.selects "Sharedair" ({ cls := "Sharedair", name := "cover", desc := "()I" } : Jvm.MethodName) ({ cls := "Sharedair", name := "cover", desc := "()I" } : Jvm.MethodName) ∈ TBg := tb_in 786 (by decide +kernel) (by decide +kernel)
theorem tw_787 : Jvm.Cond.code ({ cls := "Sharedair", name := "cover", desc := "()I" } : Jvm.MethodName) prog_1_method_23_code (1 : Nat) (Option.some Jvm.ClassFile.FieldType.int) ∈ TBg := tb_in 787 (by decide +kernel) (by decide +kernel)
theorem tw_788 : Jvm.Cond.methodLink "Sharedair" (334 : Nat) ({ cls := "Sharedair$Land", name := "fewestCovering", desc := "()I" } : Jvm.MethodName) ∈ TBg := tb_in 788 (by decide +kernel) (by decide +kernel)
theorem tw_789 : Jvm.Cond.instanceMethod ({ cls := "Sharedair$Land", name := "fewestCovering", desc := "()I" } : Jvm.MethodName) ∈ TBg := tb_in 789 (by decide +kernel) (by decide +kernel)
theorem tw_790 : Jvm.Cond.selects "Sharedair$Land" ({ cls := "Sharedair$Land", name := "fewestCovering", desc := "()I" } : Jvm.MethodName) ({ cls := "Sharedair$Land", name := "fewestCovering", desc := "()I" } : Jvm.MethodName) ∈ TBg := tb_in 790 (by decide +kernel) (by decide +kernel)
theorem tw_791 : Jvm.Cond.code ({ cls := "Sharedair$Land", name := "fewestCovering", desc := "()I" } : Jvm.MethodName) prog_4_method_16_code (3 : Nat) (Option.some Jvm.ClassFile.FieldType.int) ∈ TBg := tb_in 791 (by decide +kernel) (by decide +kernel)
theorem tw_792 : Jvm.Cond.methodLink "Sharedair$Land" (83 : Nat) ({ cls := "Sharedair$Land", name := "everyone", desc := "()I" } : Jvm.MethodName) ∈ TBg := tb_in 792 (by decide +kernel) (by decide +kernel)
theorem tw_793 : Jvm.Cond.instanceMethod ({ cls := "Sharedair$Land", name := "everyone", desc := "()I" } : Jvm.MethodName) ∈ TBg := tb_in 793 (by decide +kernel) (by decide +kernel)
theorem tw_794 : Jvm.Cond.selects "Sharedair$Land" ({ cls := "Sharedair$Land", name := "everyone", desc := "()I" } : Jvm.MethodName) ({ cls := "Sharedair$Land", name := "everyone", desc := "()I" } : Jvm.MethodName) ∈ TBg := tb_in 794 (by decide +kernel) (by decide +kernel)
theorem tw_795 : Jvm.Cond.code ({ cls := "Sharedair$Land", name := "everyone", desc := "()I" } : Jvm.MethodName) prog_4_method_3_code (1 : Nat) (Option.some Jvm.ClassFile.FieldType.int) ∈ TBg := tb_in 795 (by decide +kernel) (by decide +kernel)
theorem tw_796 : Jvm.Cond.methodLink "Sharedair$Land" (87 : Nat) ({ cls := "java/lang/Integer", name := "bitCount", desc := "(I)I" } : Jvm.MethodName) ∈ TBg := tb_in 796 (by decide +kernel) (by decide +kernel)
theorem tw_797 : Jvm.Cond.methodLink "Sharedair$Land" (93 : Nat) ({ cls := "Sharedair$Land", name := "isCovering", desc := "(I)Z" } : Jvm.MethodName) ∈ TBg := tb_in 797 (by decide +kernel) (by decide +kernel)
theorem tw_799 : Jvm.Cond.instanceMethod ({ cls := "Sharedair$Land", name := "isCovering", desc := "(I)Z" } : Jvm.MethodName) ∈ TBg := tb_in 799 (by decide +kernel) (by decide +kernel)
theorem tw_800 : Jvm.Cond.code ({ cls := "Sharedair$Land", name := "isCovering", desc := "(I)Z" } : Jvm.MethodName) prog_4_method_17_code (4 : Nat) (Option.some Jvm.ClassFile.FieldType.boolean) ∈ TBg := tb_in 800 (by decide +kernel) (by decide +kernel)
theorem tw_801 : Jvm.Cond.methodLink "Sharedair" (374 : Nat) ({ cls := "Sharedair", name := "isSound", desc := "()Z" } : Jvm.MethodName) ∈ TBg := tb_in 801 (by decide +kernel) (by decide +kernel)
theorem tw_802 : Jvm.Cond.instanceMethod ({ cls := "Sharedair", name := "isSound", desc := "()Z" } : Jvm.MethodName) ∈ TBg := tb_in 802 (by decide +kernel) (by decide +kernel)
theorem tw_803 : Jvm.Cond.selects "Sharedair" ({ cls := "Sharedair", name := "isSound", desc := "()Z" } : Jvm.MethodName) ({ cls := "Sharedair", name := "isSound", desc := "()Z" } : Jvm.MethodName) ∈ TBg := tb_in 803 (by decide +kernel) (by decide +kernel)
theorem tw_804 : Jvm.Cond.code ({ cls := "Sharedair", name := "isSound", desc := "()Z" } : Jvm.MethodName) prog_1_method_24_code (3 : Nat) (Option.some Jvm.ClassFile.FieldType.boolean) ∈ TBg := tb_in 804 (by decide +kernel) (by decide +kernel)
theorem tw_805 : Jvm.Cond.methodLink "Sharedair" (337 : Nat) ({ cls := "Sharedair$Node", name := "isInOrder", desc := "()Z" } : Jvm.MethodName) ∈ TBg := tb_in 805 (by decide +kernel) (by decide +kernel)
theorem tw_806 : Jvm.Cond.instanceMethod ({ cls := "Sharedair$Node", name := "isInOrder", desc := "()Z" } : Jvm.MethodName) ∈ TBg := tb_in 806 (by decide +kernel) (by decide +kernel)
theorem tw_807 : Jvm.Cond.selects "Sharedair$Node" ({ cls := "Sharedair$Node", name := "isInOrder", desc := "()Z" } : Jvm.MethodName) ({ cls := "Sharedair$Node", name := "isInOrder", desc := "()Z" } : Jvm.MethodName) ∈ TBg := tb_in 807 (by decide +kernel) (by decide +kernel)
theorem tw_808 : Jvm.Cond.code ({ cls := "Sharedair$Node", name := "isInOrder", desc := "()Z" } : Jvm.MethodName) prog_6_method_7_code (2 : Nat) (Option.some Jvm.ClassFile.FieldType.boolean) ∈ TBg := tb_in 808 (by decide +kernel) (by decide +kernel)
theorem tw_810 : Jvm.Cond.methodLink "Sharedair" (341 : Nat) ({ cls := "Sharedair$Routes", name := "areInOrder", desc := "(I)Z" } : Jvm.MethodName) ∈ TBg := tb_in 810 (by decide +kernel) (by decide +kernel)
theorem tw_811 : Jvm.Cond.instanceMethod ({ cls := "Sharedair$Routes", name := "areInOrder", desc := "(I)Z" } : Jvm.MethodName) ∈ TBg := tb_in 811 (by decide +kernel) (by decide +kernel)
theorem tw_812 : Jvm.Cond.selects "Sharedair$Routes" ({ cls := "Sharedair$Routes", name := "areInOrder", desc := "(I)Z" } : Jvm.MethodName) ({ cls := "Sharedair$Routes", name := "areInOrder", desc := "(I)Z" } : Jvm.MethodName) ∈ TBg := tb_in 812 (by decide +kernel) (by decide +kernel)
theorem tw_813 : Jvm.Cond.code ({ cls := "Sharedair$Routes", name := "areInOrder", desc := "(I)Z" } : Jvm.MethodName) prog_8_method_12_code (4 : Nat) (Option.some Jvm.ClassFile.FieldType.boolean) ∈ TBg := tb_in 813 (by decide +kernel) (by decide +kernel)
theorem tw_815 : Jvm.Cond.methodLink "Sharedair" (344 : Nat) ({ cls := "Sharedair$NumberSet", name := "size", desc := "()I" } : Jvm.MethodName) ∈ TBg := tb_in 815 (by decide +kernel) (by decide +kernel)
theorem tw_816 : Jvm.Cond.instanceMethod ({ cls := "Sharedair$NumberSet", name := "size", desc := "()I" } : Jvm.MethodName) ∈ TBg := tb_in 816 (by decide +kernel) (by decide +kernel)
theorem tw_817 : Jvm.Cond.selects "Sharedair$NumberSet" ({ cls := "Sharedair$NumberSet", name := "size", desc := "()I" } : Jvm.MethodName) ({ cls := "Sharedair$NumberSet", name := "size", desc := "()I" } : Jvm.MethodName) ∈ TBg := tb_in 817 (by decide +kernel) (by decide +kernel)
theorem tw_818 : Jvm.Cond.code ({ cls := "Sharedair$NumberSet", name := "size", desc := "()I" } : Jvm.MethodName) prog_7_method_4_code (3 : Nat) (Option.some Jvm.ClassFile.FieldType.int) ∈ TBg := tb_in 818 (by decide +kernel) (by decide +kernel)
theorem tw_819 : Jvm.Cond.methodLink "Sharedair$NumberSet" (13 : Nat) ({ cls := "java/lang/Long", name := "bitCount", desc := "(J)I" } : Jvm.MethodName) ∈ TBg := tb_in 819 (by decide +kernel) (by decide +kernel)
theorem tw_820 : Jvm.Cond.static ({ cls := "java/lang/Long", name := "bitCount", desc := "(J)I" } : Jvm.MethodName) ∈ TBg := tb_in 820 (by decide +kernel) (by decide +kernel)
theorem tw_821 : Jvm.Cond.code ({ cls := "java/lang/Long", name := "bitCount", desc := "(J)I" } : Jvm.MethodName) prog_18_method_50_code (2 : Nat) (Option.some Jvm.ClassFile.FieldType.int) ∈ TBg := tb_in 821 (by decide +kernel) (by decide +kernel)
theorem tw_822 : Jvm.Cond.constantLong "java/lang/Long" (314 : Nat) (6148914691236517205 : Int64) ∈ TBg := tb_in 822 (by decide +kernel) (by decide +kernel)
theorem tw_823 : Jvm.Cond.constantLong "java/lang/Long" (316 : Nat) (3689348814741910323 : Int64) ∈ TBg := tb_in 823 (by decide +kernel) (by decide +kernel)
theorem tw_824 : Jvm.Cond.constantLong "java/lang/Long" (318 : Nat) (1085102592571150095 : Int64) ∈ TBg := tb_in 824 (by decide +kernel) (by decide +kernel)
theorem tw_825 : Jvm.Cond.methodLink "Sharedair" (350 : Nat) ({ cls := "Sharedair$Market", name := "nobodyOverpays", desc := "()Z" } : Jvm.MethodName) ∈ TBg := tb_in 825 (by decide +kernel) (by decide +kernel)
theorem tw_826 : Jvm.Cond.instanceMethod ({ cls := "Sharedair$Market", name := "nobodyOverpays", desc := "()Z" } : Jvm.MethodName) ∈ TBg := tb_in 826 (by decide +kernel) (by decide +kernel)
theorem tw_827 : Jvm.Cond.selects "Sharedair$Market" ({ cls := "Sharedair$Market", name := "nobodyOverpays", desc := "()Z" } : Jvm.MethodName) ({ cls := "Sharedair$Market", name := "nobodyOverpays", desc := "()Z" } : Jvm.MethodName) ∈ TBg := tb_in 827 (by decide +kernel) (by decide +kernel)
theorem tw_828 : Jvm.Cond.code ({ cls := "Sharedair$Market", name := "nobodyOverpays", desc := "()Z" } : Jvm.MethodName) prog_5_method_6_code (2 : Nat) (Option.some Jvm.ClassFile.FieldType.boolean) ∈ TBg := tb_in 828 (by decide +kernel) (by decide +kernel)
theorem tw_829 : Jvm.Cond.methodLink "SharedairLaw" (77 : Nat) ({ cls := "Sharedair", name := "isSound", desc := "()Z" } : Jvm.MethodName) ∈ TBg := tb_in 829 (by decide +kernel) (by decide +kernel)
theorem tw_830 : Jvm.Cond.methodLink "SharedairLaw" (81 : Nat) ({ cls := "Sharedair", name := "fairness", desc := "()D" } : Jvm.MethodName) ∈ TBg := tb_in 830 (by decide +kernel) (by decide +kernel)
theorem tw_831 : Jvm.Cond.methodLink "SharedairLaw" (85 : Nat) ({ cls := "Sharedair", name := "delivered", desc := "(II)Z" } : Jvm.MethodName) ∈ TBg := tb_in 831 (by decide +kernel) (by decide +kernel)
theorem tw_832 : Jvm.Cond.instanceMethod ({ cls := "Sharedair", name := "delivered", desc := "(II)Z" } : Jvm.MethodName) ∈ TBg := tb_in 832 (by decide +kernel) (by decide +kernel)
theorem tw_833 : Jvm.Cond.selects "Sharedair" ({ cls := "Sharedair", name := "delivered", desc := "(II)Z" } : Jvm.MethodName) ({ cls := "Sharedair", name := "delivered", desc := "(II)Z" } : Jvm.MethodName) ∈ TBg := tb_in 833 (by decide +kernel) (by decide +kernel)
theorem tw_834 : Jvm.Cond.code ({ cls := "Sharedair", name := "delivered", desc := "(II)Z" } : Jvm.MethodName) prog_1_method_16_code (4 : Nat) (Option.some Jvm.ClassFile.FieldType.boolean) ∈ TBg := tb_in 834 (by decide +kernel) (by decide +kernel)
theorem tw_836 : Jvm.Cond.methodLink "Sharedair" (284 : Nat) ({ cls := "Sharedair$NumberSet", name := "has", desc := "(I)Z" } : Jvm.MethodName) ∈ TBg := tb_in 836 (by decide +kernel) (by decide +kernel)
theorem tw_837 : Jvm.Cond.methodLink "SharedairLaw" (89 : Nat) ({ cls := "Sharedair", name := "hears", desc := "(II)Z" } : Jvm.MethodName) ∈ TBg := tb_in 837 (by decide +kernel) (by decide +kernel)
theorem tw_838 : Jvm.Cond.instanceMethod ({ cls := "Sharedair", name := "hears", desc := "(II)Z" } : Jvm.MethodName) ∈ TBg := tb_in 838 (by decide +kernel) (by decide +kernel)
theorem tw_839 : Jvm.Cond.selects "Sharedair" ({ cls := "Sharedair", name := "hears", desc := "(II)Z" } : Jvm.MethodName) ({ cls := "Sharedair", name := "hears", desc := "(II)Z" } : Jvm.MethodName) ∈ TBg := tb_in 839 (by decide +kernel) (by decide +kernel)
theorem tw_840 : Jvm.Cond.code ({ cls := "Sharedair", name := "hears", desc := "(II)Z" } : Jvm.MethodName) prog_1_method_11_code (3 : Nat) (Option.some Jvm.ClassFile.FieldType.boolean) ∈ TBg := tb_in 840 (by decide +kernel) (by decide +kernel)
theorem tw_841 : Jvm.Cond.methodLink "Sharedair" (163 : Nat) ({ cls := "Sharedair$Land", name := "canHear", desc := "(II)Z" } : Jvm.MethodName) ∈ TBg := tb_in 841 (by decide +kernel) (by decide +kernel)
theorem tw_842 : Jvm.Cond.methodLink "SharedairLaw" (92 : Nat) ({ cls := "Sharedair", name := "route", desc := "(III)I" } : Jvm.MethodName) ∈ TBg := tb_in 842 (by decide +kernel) (by decide +kernel)
theorem tw_843 : Jvm.Cond.methodLink "SharedairLaw" (95 : Nat) ({ cls := "Sharedair", name := "would", desc := "(II)I" } : Jvm.MethodName) ∈ TBg := tb_in 843 (by decide +kernel) (by decide +kernel)
theorem tw_844 : Jvm.Cond.instanceMethod ({ cls := "Sharedair", name := "would", desc := "(II)I" } : Jvm.MethodName) ∈ TBg := tb_in 844 (by decide +kernel) (by decide +kernel)
theorem tw_845 : Jvm.Cond.selects "Sharedair" ({ cls := "Sharedair", name := "would", desc := "(II)I" } : Jvm.MethodName) ({ cls := "Sharedair", name := "would", desc := "(II)I" } : Jvm.MethodName) ∈ TBg := tb_in 845 (by decide +kernel) (by decide +kernel)
theorem tw_846 : Jvm.Cond.code ({ cls := "Sharedair", name := "would", desc := "(II)I" } : Jvm.MethodName) prog_1_method_19_code (4 : Nat) (Option.some Jvm.ClassFile.FieldType.int) ∈ TBg := tb_in 846 (by decide +kernel) (by decide +kernel)
theorem tw_847 : Jvm.Cond.methodLink "Sharedair" (304 : Nat) ({ cls := "Sharedair$Land", name := "everyone", desc := "()I" } : Jvm.MethodName) ∈ TBg := tb_in 847 (by decide +kernel) (by decide +kernel)
theorem tw_848 : Jvm.Cond.methodLink "Sharedair" (307 : Nat) ({ cls := "Sharedair", name := "isIn", desc := "(II)Z" } : Jvm.MethodName) ∈ TBg := tb_in 848 (by decide +kernel) (by decide +kernel)
theorem tw_850 : Jvm.Cond.methodLink "Sharedair" (312 : Nat) ({ cls := "Sharedair$Land", name := "gets", desc := "(III)Z" } : Jvm.MethodName) ∈ TBg := tb_in 850 (by decide +kernel) (by decide +kernel)
theorem tw_851 : Jvm.Cond.methodLink "SharedairLaw" (98 : Nat) ({ cls := "Sharedair", name := "auction", desc := "(I)I" } : Jvm.MethodName) ∈ TBg := tb_in 851 (by decide +kernel) (by decide +kernel)
theorem tw_852 : Jvm.Cond.methodLink "SharedairLaw" (101 : Nat) ({ cls := "Sharedair", name := "cover", desc := "()I" } : Jvm.MethodName) ∈ TBg := tb_in 852 (by decide +kernel) (by decide +kernel)
theorem tw_853 : Jvm.Cond.classLink "SharedairLaw" (30 : Nat) "[[I" ∈ TBg := tb_in 853 (by decide +kernel) (by decide +kernel)
theorem kin_0 : ∀ w ∈ u_ws RX0 TX0 5, w ∈ TBg := tb_sub _ [93, 95, 97, 99, 101] (by decide +kernel) (by decide +kernel)
theorem kdf_0 : ∀ k, k < 5 → (kF 0 k = 0 ∧ defaultValue (tyX0 k) = .int 0) ∨ (kF 0 k = 1 ∧ defaultValue (tyX0 k) = .null) ∨ (kF 0 k = 2 ∧ defaultValue (tyX0 k) = .long 0) ∨ (kF 0 k = 3 ∧ defaultValue (tyX0 k) = .double 0) := by decide +kernel
theorem kin_1 : ∀ w ∈ u_ws RX1 TX1 2, w ∈ TBg := tb_sub _ [110, 112] (by decide +kernel) (by decide +kernel)
theorem kdf_1 : ∀ k, k < 2 → (kF 1 k = 0 ∧ defaultValue (tyX1 k) = .int 0) ∨ (kF 1 k = 1 ∧ defaultValue (tyX1 k) = .null) ∨ (kF 1 k = 2 ∧ defaultValue (tyX1 k) = .long 0) ∨ (kF 1 k = 3 ∧ defaultValue (tyX1 k) = .double 0) := by decide +kernel
theorem kin_2 : ∀ w ∈ u_ws RX2 TX2 3, w ∈ TBg := tb_sub _ [214, 216, 218] (by decide +kernel) (by decide +kernel)
theorem kdf_2 : ∀ k, k < 3 → (kF 2 k = 0 ∧ defaultValue (tyX2 k) = .int 0) ∨ (kF 2 k = 1 ∧ defaultValue (tyX2 k) = .null) ∨ (kF 2 k = 2 ∧ defaultValue (tyX2 k) = .long 0) ∨ (kF 2 k = 3 ∧ defaultValue (tyX2 k) = .double 0) := by decide +kernel
theorem kin_3 : ∀ w ∈ u_ws RX3 TX3 9, w ∈ TBg := tb_sub _ [301, 303, 305, 307, 309, 311, 313, 315, 317] (by decide +kernel) (by decide +kernel)
theorem kdf_3 : ∀ k, k < 9 → (kF 3 k = 0 ∧ defaultValue (tyX3 k) = .int 0) ∨ (kF 3 k = 1 ∧ defaultValue (tyX3 k) = .null) ∨ (kF 3 k = 2 ∧ defaultValue (tyX3 k) = .long 0) ∨ (kF 3 k = 3 ∧ defaultValue (tyX3 k) = .double 0) := by decide +kernel
theorem kin_4 : ∀ w ∈ u_ws RX4 TX4 16, w ∈ TBg := tb_sub _ [173, 175, 177, 179, 181, 183, 185, 187, 189, 191, 193, 195, 197, 199, 201, 203] (by decide +kernel) (by decide +kernel)
theorem kdf_4 : ∀ k, k < 16 → (kF 4 k = 0 ∧ defaultValue (tyX4 k) = .int 0) ∨ (kF 4 k = 1 ∧ defaultValue (tyX4 k) = .null) ∨ (kF 4 k = 2 ∧ defaultValue (tyX4 k) = .long 0) ∨ (kF 4 k = 3 ∧ defaultValue (tyX4 k) = .double 0) := by decide +kernel
theorem kin_5 : ∀ w ∈ u_ws RX5 TX5 1, w ∈ TBg := tb_sub _ [122] (by decide +kernel) (by decide +kernel)
theorem kdf_5 : ∀ k, k < 1 → (kF 5 k = 0 ∧ defaultValue (tyX5 k) = .int 0) ∨ (kF 5 k = 1 ∧ defaultValue (tyX5 k) = .null) ∨ (kF 5 k = 2 ∧ defaultValue (tyX5 k) = .long 0) ∨ (kF 5 k = 3 ∧ defaultValue (tyX5 k) = .double 0) := by decide +kernel
theorem kin_6 : ∀ w ∈ u_ws RX6 TX6 6, w ∈ TBg := tb_sub _ [236, 238, 240, 242, 244, 246] (by decide +kernel) (by decide +kernel)
theorem kdf_6 : ∀ k, k < 6 → (kF 6 k = 0 ∧ defaultValue (tyX6 k) = .int 0) ∨ (kF 6 k = 1 ∧ defaultValue (tyX6 k) = .null) ∨ (kF 6 k = 2 ∧ defaultValue (tyX6 k) = .long 0) ∨ (kF 6 k = 3 ∧ defaultValue (tyX6 k) = .double 0) := by decide +kernel
theorem kin_7 : ∀ w ∈ u_ws RX7 TX7 7, w ∈ TBg := tb_sub _ [267, 269, 271, 273, 275, 277, 279] (by decide +kernel) (by decide +kernel)
theorem kdf_7 : ∀ k, k < 7 → (kF 7 k = 0 ∧ defaultValue (tyX7 k) = .int 0) ∨ (kF 7 k = 1 ∧ defaultValue (tyX7 k) = .null) ∨ (kF 7 k = 2 ∧ defaultValue (tyX7 k) = .long 0) ∨ (kF 7 k = 3 ∧ defaultValue (tyX7 k) = .double 0) := by decide +kernel
theorem kin_8 : ∀ w ∈ u_ws RX8 TX8 5, w ∈ TBg := tb_sub _ [325, 327, 329, 331, 333] (by decide +kernel) (by decide +kernel)
theorem kdf_8 : ∀ k, k < 5 → (kF 8 k = 0 ∧ defaultValue (tyX8 k) = .int 0) ∨ (kF 8 k = 1 ∧ defaultValue (tyX8 k) = .null) ∨ (kF 8 k = 2 ∧ defaultValue (tyX8 k) = .long 0) ∨ (kF 8 k = 3 ∧ defaultValue (tyX8 k) = .double 0) := by decide +kernel
def kNms : List String := ["java/lang/RuntimeException", "java/lang/Exception"]
theorem kfit_n : ∀ n ∈ kNms, Bundle.fit n = true := by decide +kernel
theorem kfit_0 : Bundle.fit "java/lang/IllegalArgumentException" = true := by decide +kernel
theorem kfit_1 : Bundle.fit "java/lang/IllegalStateException" = true := by decide +kernel
theorem kfit_2 : Bundle.fit "java/lang/IndexOutOfBoundsException" = true := by decide +kernel
theorem khg_0_57 : ∀ w ∈ (vx_atS RX8 57 "java/lang/IllegalArgumentException" kNms).filter goodWord, w ∈ TBg := by decide +kernel
theorem khn_0_57 : ∀ w ∈ (vx_atS RX8 57 "java/lang/IllegalArgumentException" kNms).filter (fun w => !goodWord w), w = .castable "java/lang/IllegalArgumentException" "java/lang/IllegalArgumentException" ∨ w ∈ kDecl.map Cond.declares := by decide +kernel
theorem kho_0_57 : ∀ w ∈ vx_atS RX8 57 "java/lang/IllegalArgumentException" kNms, vx_ot w = true := by decide +kernel
theorem khg_1_67 : ∀ w ∈ (vx_atS RX8 67 "java/lang/IllegalStateException" kNms).filter goodWord, w ∈ TBg := by decide +kernel
theorem khn_1_67 : ∀ w ∈ (vx_atS RX8 67 "java/lang/IllegalStateException" kNms).filter (fun w => !goodWord w), w = .castable "java/lang/IllegalStateException" "java/lang/IllegalStateException" ∨ w ∈ kDecl.map Cond.declares := by decide +kernel
theorem kho_1_67 : ∀ w ∈ vx_atS RX8 67 "java/lang/IllegalStateException" kNms, vx_ot w = true := by decide +kernel
theorem khg_2_279 : ∀ w ∈ (vx_atS RX8 279 "java/lang/IndexOutOfBoundsException" kNms).filter goodWord, w ∈ TBg := by decide +kernel
theorem khn_2_279 : ∀ w ∈ (vx_atS RX8 279 "java/lang/IndexOutOfBoundsException" kNms).filter (fun w => !goodWord w), w = .castable "java/lang/IndexOutOfBoundsException" "java/lang/IndexOutOfBoundsException" ∨ w ∈ kDecl.map Cond.declares := by decide +kernel
theorem kho_2_279 : ∀ w ∈ vx_atS RX8 279 "java/lang/IndexOutOfBoundsException" kNms, vx_ot w = true := by decide +kernel
theorem mok_Frame_init : MOK j_Frame_init := ⟨by decide +kernel, rfl, tw_71⟩
theorem cal_FrameQueue_init_Frame_init : CalOK j_FrameQueue_init j_Frame_init 0 := ⟨mok_Frame_init, by decide, by decide, tw_26, ⟨by decide, by decide⟩, by decide +kernel⟩
theorem mok_Land_adjust : MOK j_Land_adjust := ⟨by decide +kernel, rfl, tw_440⟩
theorem cal_Land_add_Land_adjust : CalOK j_Land_add j_Land_adjust 3 := ⟨mok_Land_adjust, by decide, by decide, tw_23, ⟨by decide, by decide⟩, by decide +kernel⟩
theorem mok_Land_findHearers : MOK j_Land_findHearers := ⟨by decide +kernel, rfl, tw_444⟩
theorem cal_Land_adjust_Land_findHearers : CalOK j_Land_adjust j_Land_findHearers 0 := ⟨mok_Land_findHearers, by decide, by decide, tw_23, ⟨by decide, by decide⟩, by decide +kernel⟩
theorem mok_Land_canHear : MOK j_Land_canHear := ⟨by decide +kernel, rfl, tw_469⟩
theorem cal_Land_areLinked_Land_canHear : CalOK j_Land_areLinked j_Land_canHear 2 := ⟨mok_Land_canHear, by decide, by decide, tw_23, ⟨by decide, by decide⟩, by decide +kernel⟩
theorem mok_Land_isNode : MOK j_Land_isNode := ⟨by decide +kernel, rfl, tw_473⟩
theorem cal_Land_canHear_Land_isNode : CalOK j_Land_canHear j_Land_isNode 1 := ⟨mok_Land_isNode, by decide, by decide, tw_23, ⟨by decide, by decide⟩, by decide +kernel⟩
theorem mok_S_isIn : MOK j_S_isIn := ⟨by decide +kernel, rfl, tw_476⟩
theorem cal_Land_canHear_S_isIn : CalOK j_Land_canHear j_S_isIn 2 := ⟨mok_S_isIn, by decide, by decide, tw_22, ⟨by decide, by decide⟩, by decide +kernel⟩
theorem mok_Integer_bitCount : MOK j_Integer_bitCount := ⟨by decide +kernel, rfl, tw_536⟩
theorem cal_Land_fewestCovering_Integer_bitCount : CalOK j_Land_fewestCovering j_Integer_bitCount 1 := ⟨mok_Integer_bitCount, by decide, by decide, tw_37, ⟨by decide, by decide⟩, by decide +kernel⟩
theorem mok_Land_everyone : MOK j_Land_everyone := ⟨by decide +kernel, rfl, tw_795⟩
theorem cal_Land_fewestCovering_Land_everyone : CalOK j_Land_fewestCovering j_Land_everyone 0 := ⟨mok_Land_everyone, by decide, by decide, tw_23, ⟨by decide, by decide⟩, by decide +kernel⟩
theorem mok_Land_isCovering : MOK j_Land_isCovering := ⟨by decide +kernel, rfl, tw_800⟩
theorem cal_Land_fewestCovering_Land_isCovering : CalOK j_Land_fewestCovering j_Land_isCovering 1 := ⟨mok_Land_isCovering, by decide, by decide, tw_23, ⟨by decide, by decide⟩, by decide +kernel⟩
theorem mok_Land_far : MOK j_Land_far := ⟨by decide +kernel, rfl, tw_448⟩
theorem cal_Land_findHearers_Land_far : CalOK j_Land_findHearers j_Land_far 2 := ⟨mok_Land_far, by decide, by decide, tw_23, ⟨by decide, by decide⟩, by decide +kernel⟩
theorem cal_Land_gets_Land_canHear : CalOK j_Land_gets j_Land_canHear 2 := ⟨mok_Land_canHear, by decide, by decide, tw_23, ⟨by decide, by decide⟩, by decide +kernel⟩
theorem cal_Land_gets_Land_far : CalOK j_Land_gets j_Land_far 2 := ⟨mok_Land_far, by decide, by decide, tw_23, ⟨by decide, by decide⟩, by decide +kernel⟩
theorem cal_Land_gets_S_isIn : CalOK j_Land_gets j_S_isIn 2 := ⟨mok_S_isIn, by decide, by decide, tw_22, ⟨by decide, by decide⟩, by decide +kernel⟩
theorem cal_Land_hearsOneOf_Land_canHear : CalOK j_Land_hearsOneOf j_Land_canHear 2 := ⟨mok_Land_canHear, by decide, by decide, tw_23, ⟨by decide, by decide⟩, by decide +kernel⟩
theorem cal_Land_hearsOneOf_S_isIn : CalOK j_Land_hearsOneOf j_S_isIn 2 := ⟨mok_S_isIn, by decide, by decide, tw_22, ⟨by decide, by decide⟩, by decide +kernel⟩
theorem mok_Node_init : MOK j_Node_init := ⟨by decide +kernel, rfl, tw_58⟩
theorem cal_Land_init_Node_init : CalOK j_Land_init j_Node_init 0 := ⟨mok_Node_init, by decide, by decide, tw_24, ⟨by decide, by decide⟩, by decide +kernel⟩
theorem cal_Land_isCovering_Land_everyone : CalOK j_Land_isCovering j_Land_everyone 0 := ⟨mok_Land_everyone, by decide, by decide, tw_23, ⟨by decide, by decide⟩, by decide +kernel⟩
theorem cal_Land_isCovering_S_isIn : CalOK j_Land_isCovering j_S_isIn 2 := ⟨mok_S_isIn, by decide, by decide, tw_22, ⟨by decide, by decide⟩, by decide +kernel⟩
theorem mok_Land_areLinked : MOK j_Land_areLinked := ⟨by decide +kernel, rfl, tw_465⟩
theorem cal_Land_linkedWith_Land_areLinked : CalOK j_Land_linkedWith j_Land_areLinked 2 := ⟨mok_Land_areLinked, by decide, by decide, tw_23, ⟨by decide, by decide⟩, by decide +kernel⟩
theorem cal_Land_put_Land_findHearers : CalOK j_Land_put j_Land_findHearers 0 := ⟨mok_Land_findHearers, by decide, by decide, tw_23, ⟨by decide, by decide⟩, by decide +kernel⟩
theorem mok_Law_below : MOK j_Law_below := ⟨by decide +kernel, rfl, tw_564⟩
theorem cal_Law_act_Law_below : CalOK j_Law_act j_Law_below 2 := ⟨mok_Law_below, by decide, by decide, tw_21, ⟨by decide, by decide⟩, by decide +kernel⟩
theorem mok_S_bid : MOK j_S_bid := ⟨by decide +kernel, rfl, tw_610⟩
theorem cal_Law_act_S_bid : CalOK j_Law_act j_S_bid 3 := ⟨mok_S_bid, by decide, by decide, tw_22, ⟨by decide, by decide⟩, by decide +kernel⟩
theorem mok_S_exchange : MOK j_S_exchange := ⟨by decide +kernel, rfl, tw_452⟩
theorem cal_Law_act_S_exchange : CalOK j_Law_act j_S_exchange 1 := ⟨mok_S_exchange, by decide, by decide, tw_22, ⟨by decide, by decide⟩, by decide +kernel⟩
theorem mok_S_move : MOK j_S_move := ⟨by decide +kernel, rfl, tw_589⟩
theorem cal_Law_act_S_move : CalOK j_Law_act j_S_move 3 := ⟨mok_S_move, by decide, by decide, tw_22, ⟨by decide, by decide⟩, by decide +kernel⟩
theorem mok_S_pass : MOK j_S_pass := ⟨by decide +kernel, rfl, tw_645⟩
theorem cal_Law_act_S_pass : CalOK j_Law_act j_S_pass 1 := ⟨mok_S_pass, by decide, by decide, tw_22, ⟨by decide, by decide⟩, by decide +kernel⟩
theorem mok_S_sell : MOK j_S_sell := ⟨by decide +kernel, rfl, tw_625⟩
theorem cal_Law_act_S_sell : CalOK j_Law_act j_S_sell 0 := ⟨mok_S_sell, by decide, by decide, tw_22, ⟨by decide, by decide⟩, by decide +kernel⟩
theorem mok_S_send : MOK j_S_send := ⟨by decide +kernel, rfl, tw_579⟩
theorem cal_Law_act_S_send : CalOK j_Law_act j_S_send 3 := ⟨mok_S_send, by decide, by decide, tw_22, ⟨by decide, by decide⟩, by decide +kernel⟩
theorem mok_S_tune : MOK j_S_tune := ⟨by decide +kernel, rfl, tw_604⟩
theorem cal_Law_act_S_tune : CalOK j_Law_act j_S_tune 3 := ⟨mok_S_tune, by decide, by decide, tw_22, ⟨by decide, by decide⟩, by decide +kernel⟩
theorem cal_Law_isAsked_Law_below : CalOK j_Law_isAsked j_Law_below 2 := ⟨mok_Law_below, by decide, by decide, tw_21, ⟨by decide, by decide⟩, by decide +kernel⟩
theorem mok_S_air : MOK j_S_air := ⟨by decide +kernel, rfl, tw_525⟩
theorem cal_Law_isAsked_S_air : CalOK j_Law_isAsked j_S_air 1 := ⟨mok_S_air, by decide, by decide, tw_22, ⟨by decide, by decide⟩, by decide +kernel⟩
theorem mok_S_auction : MOK j_S_auction := ⟨by decide +kernel, rfl, tw_781⟩
theorem cal_Law_isAsked_S_auction : CalOK j_Law_isAsked j_S_auction 1 := ⟨mok_S_auction, by decide, by decide, tw_22, ⟨by decide, by decide⟩, by decide +kernel⟩
theorem mok_S_cover : MOK j_S_cover := ⟨by decide +kernel, rfl, tw_787⟩
theorem cal_Law_isAsked_S_cover : CalOK j_Law_isAsked j_S_cover 0 := ⟨mok_S_cover, by decide, by decide, tw_22, ⟨by decide, by decide⟩, by decide +kernel⟩
theorem mok_S_delivered : MOK j_S_delivered := ⟨by decide +kernel, rfl, tw_834⟩
theorem cal_Law_isAsked_S_delivered : CalOK j_Law_isAsked j_S_delivered 2 := ⟨mok_S_delivered, by decide, by decide, tw_22, ⟨by decide, by decide⟩, by decide +kernel⟩
theorem mok_S_digest : MOK j_S_digest := ⟨by decide +kernel, rfl, tw_735⟩
theorem cal_Law_isAsked_S_digest : CalOK j_Law_isAsked j_S_digest 0 := ⟨mok_S_digest, by decide, by decide, tw_22, ⟨by decide, by decide⟩, by decide +kernel⟩
theorem mok_S_fairness : MOK j_S_fairness := ⟨by decide +kernel, rfl, tw_777⟩
theorem cal_Law_isAsked_S_fairness : CalOK j_Law_isAsked j_S_fairness 0 := ⟨mok_S_fairness, by decide, by decide, tw_22, ⟨by decide, by decide⟩, by decide +kernel⟩
theorem mok_S_hears : MOK j_S_hears := ⟨by decide +kernel, rfl, tw_840⟩
theorem cal_Law_isAsked_S_hears : CalOK j_Law_isAsked j_S_hears 2 := ⟨mok_S_hears, by decide, by decide, tw_22, ⟨by decide, by decide⟩, by decide +kernel⟩
theorem mok_S_isSound : MOK j_S_isSound := ⟨by decide +kernel, rfl, tw_804⟩
theorem cal_Law_isAsked_S_isSound : CalOK j_Law_isAsked j_S_isSound 0 := ⟨mok_S_isSound, by decide, by decide, tw_22, ⟨by decide, by decide⟩, by decide +kernel⟩
theorem mok_S_ofNode : MOK j_S_ofNode := ⟨by decide +kernel, rfl, tw_488⟩
theorem cal_Law_isAsked_S_ofNode : CalOK j_Law_isAsked j_S_ofNode 2 := ⟨mok_S_ofNode, by decide, by decide, tw_22, ⟨by decide, by decide⟩, by decide +kernel⟩
theorem mok_S_route : MOK j_S_route := ⟨by decide +kernel, rfl, tw_756⟩
theorem cal_Law_isAsked_S_route : CalOK j_Law_isAsked j_S_route 3 := ⟨mok_S_route, by decide, by decide, tw_22, ⟨by decide, by decide⟩, by decide +kernel⟩
theorem mok_S_would : MOK j_S_would := ⟨by decide +kernel, rfl, tw_846⟩
theorem cal_Law_isAsked_S_would : CalOK j_Law_isAsked j_S_would 2 := ⟨mok_S_would, by decide, by decide, tw_22, ⟨by decide, by decide⟩, by decide +kernel⟩
theorem mok_Law_act : MOK j_Law_act := ⟨by decide +kernel, rfl, tw_572⟩
theorem cal_Law_law_Law_act : CalOK j_Law_law j_Law_act 4 := ⟨mok_Law_act, by decide, by decide, tw_21, ⟨by decide, by decide⟩, by decide +kernel⟩
theorem cal_Law_law_Law_below : CalOK j_Law_law j_Law_below 2 := ⟨mok_Law_below, by decide, by decide, tw_21, ⟨by decide, by decide⟩, by decide +kernel⟩
theorem mok_Law_cell : MOK j_Law_cell := ⟨by decide +kernel, rfl, tw_568⟩
theorem cal_Law_law_Law_cell : CalOK j_Law_law j_Law_cell 2 := ⟨mok_Law_cell, by decide, by decide, tw_21, ⟨by decide, by decide⟩, by decide +kernel⟩
theorem mok_Law_isAsked : MOK j_Law_isAsked := ⟨by decide +kernel, rfl, tw_731⟩
theorem cal_Law_law_Law_isAsked : CalOK j_Law_law j_Law_isAsked 4 := ⟨mok_Law_isAsked, by decide, by decide, tw_21, ⟨by decide, by decide⟩, by decide +kernel⟩
theorem cal_Law_law_S_air : CalOK j_Law_law j_S_air 1 := ⟨mok_S_air, by decide, by decide, tw_22, ⟨by decide, by decide⟩, by decide +kernel⟩
theorem cal_Law_law_S_exchange : CalOK j_Law_law j_S_exchange 1 := ⟨mok_S_exchange, by decide, by decide, tw_22, ⟨by decide, by decide⟩, by decide +kernel⟩
theorem mok_S_init : MOK j_S_init := ⟨by decide +kernel, rfl, tw_43⟩
theorem cal_Law_law_S_init : CalOK j_Law_law j_S_init 0 := ⟨mok_S_init, by decide, by decide, tw_22, ⟨by decide, by decide⟩, by decide +kernel⟩
theorem mok_S_node : MOK j_S_node := ⟨by decide +kernel, rfl, tw_339⟩
theorem cal_Law_law_S_node : CalOK j_Law_law j_S_node 4 := ⟨mok_S_node, by decide, by decide, tw_22, ⟨by decide, by decide⟩, by decide +kernel⟩
theorem cal_Law_law_S_ofNode : CalOK j_Law_law j_S_ofNode 2 := ⟨mok_S_ofNode, by decide, by decide, tw_22, ⟨by decide, by decide⟩, by decide +kernel⟩
theorem mok_Market_weigh : MOK j_Market_weigh := ⟨by decide +kernel, rfl, tw_620⟩
theorem cal_Market_add_Market_weigh : CalOK j_Market_add j_Market_weigh 1 := ⟨mok_Market_weigh, by decide, by decide, tw_30, ⟨by decide, by decide⟩, by decide +kernel⟩
theorem mok_Market_paidBy : MOK j_Market_paidBy := ⟨by decide +kernel, rfl, tw_633⟩
theorem cal_Market_nobodyOverpays_Market_paidBy : CalOK j_Market_nobodyOverpays j_Market_paidBy 1 := ⟨mok_Market_paidBy, by decide, by decide, tw_30, ⟨by decide, by decide⟩, by decide +kernel⟩
theorem mok_Market_winningPrice : MOK j_Market_winningPrice := ⟨by decide +kernel, rfl, tw_637⟩
theorem cal_Market_nobodyOverpays_Market_winningPrice : CalOK j_Market_nobodyOverpays j_Market_winningPrice 1 := ⟨mok_Market_winningPrice, by decide, by decide, tw_30, ⟨by decide, by decide⟩, by decide +kernel⟩
theorem cal_Market_paidBy_Market_winningPrice : CalOK j_Market_paidBy j_Market_winningPrice 1 := ⟨mok_Market_winningPrice, by decide, by decide, tw_30, ⟨by decide, by decide⟩, by decide +kernel⟩
theorem mok_Market_forgetBids : MOK j_Market_forgetBids := ⟨by decide +kernel, rfl, tw_641⟩
theorem cal_Market_sellAll_Market_forgetBids : CalOK j_Market_sellAll j_Market_forgetBids 0 := ⟨mok_Market_forgetBids, by decide, by decide, tw_30, ⟨by decide, by decide⟩, by decide +kernel⟩
theorem cal_Market_sellAll_Market_paidBy : CalOK j_Market_sellAll j_Market_paidBy 1 := ⟨mok_Market_paidBy, by decide, by decide, tw_30, ⟨by decide, by decide⟩, by decide +kernel⟩
theorem cal_Market_weigh_S_isIn : CalOK j_Market_weigh j_S_isIn 2 := ⟨mok_S_isIn, by decide, by decide, tw_22, ⟨by decide, by decide⟩, by decide +kernel⟩
theorem cal_Market_winningPrice_S_isIn : CalOK j_Market_winningPrice j_S_isIn 2 := ⟨mok_S_isIn, by decide, by decide, tw_22, ⟨by decide, by decide⟩, by decide +kernel⟩
theorem mok_FrameQueue_removeFirst : MOK j_FrameQueue_removeFirst := ⟨by decide +kernel, rfl, tw_678⟩
theorem cal_Node_finishFirst_FrameQueue_removeFirst : CalOK j_Node_finishFirst j_FrameQueue_removeFirst 0 := ⟨mok_FrameQueue_removeFirst, by decide, by decide, tw_25, ⟨by decide, by decide⟩, by decide +kernel⟩
theorem mok_FrameQueue_init : MOK j_FrameQueue_init := ⟨by decide +kernel, rfl, tw_64⟩
theorem cal_Node_init_FrameQueue_init : CalOK j_Node_init j_FrameQueue_init 0 := ⟨mok_FrameQueue_init, by decide, by decide, tw_25, ⟨by decide, by decide⟩, by decide +kernel⟩
theorem mok_NumberSet_init : MOK j_NumberSet_init := ⟨by decide +kernel, rfl, tw_119⟩
theorem cal_Node_init_NumberSet_init : CalOK j_Node_init j_NumberSet_init 0 := ⟨mok_NumberSet_init, by decide, by decide, tw_27, ⟨by decide, by decide⟩, by decide +kernel⟩
theorem mok_S_isWithin : MOK j_S_isWithin := ⟨by decide +kernel, rfl, tw_345⟩
theorem cal_Node_isInOrder_S_isWithin : CalOK j_Node_isInOrder j_S_isWithin 3 := ⟨mok_S_isWithin, by decide, by decide, tw_22, ⟨by decide, by decide⟩, by decide +kernel⟩
theorem mok_Long_bitCount : MOK j_Long_bitCount := ⟨by decide +kernel, rfl, tw_821⟩
theorem cal_NumberSet_size_Long_bitCount : CalOK j_NumberSet_size j_Long_bitCount 1 := ⟨mok_Long_bitCount, by decide, by decide, tw_38, ⟨by decide, by decide⟩, by decide +kernel⟩
theorem cal_Routes_areInOrder_Land_isNode : CalOK j_Routes_areInOrder j_Land_isNode 1 := ⟨mok_Land_isNode, by decide, by decide, tw_23, ⟨by decide, by decide⟩, by decide +kernel⟩
theorem cal_Routes_areInOrder_S_isWithin : CalOK j_Routes_areInOrder j_S_isWithin 3 := ⟨mok_S_isWithin, by decide, by decide, tw_22, ⟨by decide, by decide⟩, by decide +kernel⟩
theorem cal_Routes_cheapestNeighbour_Land_areLinked : CalOK j_Routes_cheapestNeighbour j_Land_areLinked 2 := ⟨mok_Land_areLinked, by decide, by decide, tw_23, ⟨by decide, by decide⟩, by decide +kernel⟩
theorem cal_Routes_costOf_Land_isNode : CalOK j_Routes_costOf j_Land_isNode 1 := ⟨mok_Land_isNode, by decide, by decide, tw_23, ⟨by decide, by decide⟩, by decide +kernel⟩
theorem cal_Routes_follow_Land_isNode : CalOK j_Routes_follow j_Land_isNode 1 := ⟨mok_Land_isNode, by decide, by decide, tw_23, ⟨by decide, by decide⟩, by decide +kernel⟩
theorem mok_Routes_nextOf : MOK j_Routes_nextOf := ⟨by decide +kernel, rfl, tw_559⟩
theorem cal_Routes_follow_Routes_nextOf : CalOK j_Routes_follow j_Routes_nextOf 2 := ⟨mok_Routes_nextOf, by decide, by decide, tw_28, ⟨by decide, by decide⟩, by decide +kernel⟩
theorem mok_Routes_follow : MOK j_Routes_follow := ⟨by decide +kernel, rfl, tw_555⟩
theorem cal_Routes_hasCircle_Routes_follow : CalOK j_Routes_hasCircle j_Routes_follow 2 := ⟨mok_Routes_follow, by decide, by decide, tw_28, ⟨by decide, by decide⟩, by decide +kernel⟩
theorem cal_Routes_nextOf_Land_isNode : CalOK j_Routes_nextOf j_Land_isNode 1 := ⟨mok_Land_isNode, by decide, by decide, tw_23, ⟨by decide, by decide⟩, by decide +kernel⟩
theorem mok_Routes_hasCircle : MOK j_Routes_hasCircle := ⟨by decide +kernel, rfl, tw_551⟩
theorem cal_Routes_pairsWithCircle_Routes_hasCircle : CalOK j_Routes_pairsWithCircle j_Routes_hasCircle 2 := ⟨mok_Routes_hasCircle, by decide, by decide, tw_28, ⟨by decide, by decide⟩, by decide +kernel⟩
theorem mok_Routes_renewPair : MOK j_Routes_renewPair := ⟨by decide +kernel, rfl, tw_461⟩
theorem cal_Routes_renew_Routes_renewPair : CalOK j_Routes_renew j_Routes_renewPair 2 := ⟨mok_Routes_renewPair, by decide, by decide, tw_28, ⟨by decide, by decide⟩, by decide +kernel⟩
theorem cal_Routes_renewPair_Land_areLinked : CalOK j_Routes_renewPair j_Land_areLinked 2 := ⟨mok_Land_areLinked, by decide, by decide, tw_23, ⟨by decide, by decide⟩, by decide +kernel⟩
theorem mok_Routes_cheapestNeighbour : MOK j_Routes_cheapestNeighbour := ⟨by decide +kernel, rfl, tw_480⟩
theorem cal_Routes_renewPair_Routes_cheapestNeighbour : CalOK j_Routes_renewPair j_Routes_cheapestNeighbour 2 := ⟨mok_Routes_cheapestNeighbour, by decide, by decide, tw_28, ⟨by decide, by decide⟩, by decide +kernel⟩
theorem cal_Routes_wayLength_Routes_follow : CalOK j_Routes_wayLength j_Routes_follow 2 := ⟨mok_Routes_follow, by decide, by decide, tw_28, ⟨by decide, by decide⟩, by decide +kernel⟩
theorem cal_S_air_Integer_bitCount : CalOK j_S_air j_Integer_bitCount 1 := ⟨mok_Integer_bitCount, by decide, by decide, tw_37, ⟨by decide, by decide⟩, by decide +kernel⟩
theorem mok_Land_framesInQueues : MOK j_Land_framesInQueues := ⟨by decide +kernel, rfl, tw_543⟩
theorem cal_S_air_Land_framesInQueues : CalOK j_S_air j_Land_framesInQueues 0 := ⟨mok_Land_framesInQueues, by decide, by decide, tw_23, ⟨by decide, by decide⟩, by decide +kernel⟩
theorem mok_Routes_pairsWithCircle : MOK j_Routes_pairsWithCircle := ⟨by decide +kernel, rfl, tw_547⟩
theorem cal_S_air_Routes_pairsWithCircle : CalOK j_S_air j_Routes_pairsWithCircle 0 := ⟨mok_Routes_pairsWithCircle, by decide, by decide, tw_28, ⟨by decide, by decide⟩, by decide +kernel⟩
theorem mok_Traffic_senders : MOK j_Traffic_senders := ⟨by decide +kernel, rfl, tw_529⟩
theorem cal_S_air_Traffic_senders : CalOK j_S_air j_Traffic_senders 0 := ⟨mok_Traffic_senders, by decide, by decide, tw_29, ⟨by decide, by decide⟩, by decide +kernel⟩
theorem cal_S_auction_Market_paidBy : CalOK j_S_auction j_Market_paidBy 1 := ⟨mok_Market_paidBy, by decide, by decide, tw_30, ⟨by decide, by decide⟩, by decide +kernel⟩
theorem cal_S_auction_S_isWithin : CalOK j_S_auction j_S_isWithin 3 := ⟨mok_S_isWithin, by decide, by decide, tw_22, ⟨by decide, by decide⟩, by decide +kernel⟩
theorem mok_Market_add : MOK j_Market_add := ⟨by decide +kernel, rfl, tw_616⟩
theorem cal_S_bid_Market_add : CalOK j_S_bid j_Market_add 3 := ⟨mok_Market_add, by decide, by decide, tw_30, ⟨by decide, by decide⟩, by decide +kernel⟩
theorem cal_S_bid_S_isWithin : CalOK j_S_bid j_S_isWithin 3 := ⟨mok_S_isWithin, by decide, by decide, tw_22, ⟨by decide, by decide⟩, by decide +kernel⟩
theorem cal_S_checkNode_Land_isNode : CalOK j_S_checkNode j_Land_isNode 1 := ⟨mok_Land_isNode, by decide, by decide, tw_23, ⟨by decide, by decide⟩, by decide +kernel⟩
theorem mok_S_checkNode : MOK j_S_checkNode := ⟨by decide +kernel, rfl, tw_492⟩
theorem cal_S_checkPair_S_checkNode : CalOK j_S_checkPair j_S_checkNode 1 := ⟨mok_S_checkNode, by decide, by decide, tw_22, ⟨by decide, by decide⟩, by decide +kernel⟩
theorem mok_Node_isSending : MOK j_Node_isSending := ⟨by decide +kernel, rfl, tw_533⟩
theorem cal_S_checkSilent_Node_isSending : CalOK j_S_checkSilent j_Node_isSending 0 := ⟨mok_Node_isSending, by decide, by decide, tw_24, ⟨by decide, by decide⟩, by decide +kernel⟩
theorem mok_Land_fewestCovering : MOK j_Land_fewestCovering := ⟨by decide +kernel, rfl, tw_791⟩
theorem cal_S_cover_Land_fewestCovering : CalOK j_S_cover j_Land_fewestCovering 0 := ⟨mok_Land_fewestCovering, by decide, by decide, tw_23, ⟨by decide, by decide⟩, by decide +kernel⟩
theorem mok_NumberSet_has : MOK j_NumberSet_has := ⟨by decide +kernel, rfl, tw_707⟩
theorem cal_S_delivered_NumberSet_has : CalOK j_S_delivered j_NumberSet_has 1 := ⟨mok_NumberSet_has, by decide, by decide, tw_27, ⟨by decide, by decide⟩, by decide +kernel⟩
theorem cal_S_delivered_S_checkNode : CalOK j_S_delivered j_S_checkNode 1 := ⟨mok_S_checkNode, by decide, by decide, tw_22, ⟨by decide, by decide⟩, by decide +kernel⟩
theorem cal_S_digest_S_air : CalOK j_S_digest j_S_air 1 := ⟨mok_S_air, by decide, by decide, tw_22, ⟨by decide, by decide⟩, by decide +kernel⟩
theorem cal_S_digest_S_auction : CalOK j_S_digest j_S_auction 1 := ⟨mok_S_auction, by decide, by decide, tw_22, ⟨by decide, by decide⟩, by decide +kernel⟩
theorem cal_S_digest_S_cover : CalOK j_S_digest j_S_cover 0 := ⟨mok_S_cover, by decide, by decide, tw_22, ⟨by decide, by decide⟩, by decide +kernel⟩
theorem cal_S_digest_S_fairness : CalOK j_S_digest j_S_fairness 0 := ⟨mok_S_fairness, by decide, by decide, tw_22, ⟨by decide, by decide⟩, by decide +kernel⟩
theorem cal_S_digest_S_isSound : CalOK j_S_digest j_S_isSound 0 := ⟨mok_S_isSound, by decide, by decide, tw_22, ⟨by decide, by decide⟩, by decide +kernel⟩
theorem mok_S_mix : MOK j_S_mix := ⟨by decide +kernel, rfl, tw_740⟩
theorem cal_S_digest_S_mix : CalOK j_S_digest j_S_mix 2 := ⟨mok_S_mix, by decide, by decide, tw_22, ⟨by decide, by decide⟩, by decide +kernel⟩
theorem mok_S_mixNode : MOK j_S_mixNode := ⟨by decide +kernel, rfl, tw_745⟩
theorem cal_S_digest_S_mixNode : CalOK j_S_digest j_S_mixNode 2 := ⟨mok_S_mixNode, by decide, by decide, tw_22, ⟨by decide, by decide⟩, by decide +kernel⟩
theorem mok_Routes_pairsWithRoute : MOK j_Routes_pairsWithRoute := ⟨by decide +kernel, rfl, tw_484⟩
theorem cal_S_exchange_Routes_pairsWithRoute : CalOK j_S_exchange j_Routes_pairsWithRoute 0 := ⟨mok_Routes_pairsWithRoute, by decide, by decide, tw_28, ⟨by decide, by decide⟩, by decide +kernel⟩
theorem mok_Routes_renew : MOK j_Routes_renew := ⟨by decide +kernel, rfl, tw_457⟩
theorem cal_S_exchange_Routes_renew : CalOK j_S_exchange j_Routes_renew 0 := ⟨mok_Routes_renew, by decide, by decide, tw_28, ⟨by decide, by decide⟩, by decide +kernel⟩
theorem cal_S_exchange_S_isWithin : CalOK j_S_exchange j_S_isWithin 3 := ⟨mok_S_isWithin, by decide, by decide, tw_22, ⟨by decide, by decide⟩, by decide +kernel⟩
theorem cal_S_hears_Land_canHear : CalOK j_S_hears j_Land_canHear 2 := ⟨mok_Land_canHear, by decide, by decide, tw_23, ⟨by decide, by decide⟩, by decide +kernel⟩
theorem mok_S_checkPair : MOK j_S_checkPair := ⟨by decide +kernel, rfl, tw_760⟩
theorem cal_S_hears_S_checkPair : CalOK j_S_hears j_S_checkPair 2 := ⟨mok_S_checkPair, by decide, by decide, tw_22, ⟨by decide, by decide⟩, by decide +kernel⟩
theorem mok_FrameQueue_at : MOK j_FrameQueue_at := ⟨by decide +kernel, rfl, tw_665⟩
theorem cal_S_inQueue_FrameQueue_at : CalOK j_S_inQueue j_FrameQueue_at 1 := ⟨mok_FrameQueue_at, by decide, by decide, tw_25, ⟨by decide, by decide⟩, by decide +kernel⟩
theorem cal_S_inQueue_S_checkNode : CalOK j_S_inQueue j_S_checkNode 1 := ⟨mok_S_checkNode, by decide, by decide, tw_22, ⟨by decide, by decide⟩, by decide +kernel⟩
theorem cal_S_inQueue_S_isWithin : CalOK j_S_inQueue j_S_isWithin 3 := ⟨mok_S_isWithin, by decide, by decide, tw_22, ⟨by decide, by decide⟩, by decide +kernel⟩
theorem mok_Land_init : MOK j_Land_init := ⟨by decide +kernel, rfl, tw_51⟩
theorem cal_S_init_Land_init : CalOK j_S_init j_Land_init 0 := ⟨mok_Land_init, by decide, by decide, tw_23, ⟨by decide, by decide⟩, by decide +kernel⟩
theorem mok_Market_init : MOK j_Market_init := ⟨by decide +kernel, rfl, tw_286⟩
theorem cal_S_init_Market_init : CalOK j_S_init j_Market_init 0 := ⟨mok_Market_init, by decide, by decide, tw_30, ⟨by decide, by decide⟩, by decide +kernel⟩
theorem mok_Routes_init : MOK j_Routes_init := ⟨by decide +kernel, rfl, tw_225⟩
theorem cal_S_init_Routes_init : CalOK j_S_init j_Routes_init 1 := ⟨mok_Routes_init, by decide, by decide, tw_28, ⟨by decide, by decide⟩, by decide +kernel⟩
theorem mok_Traffic_init : MOK j_Traffic_init := ⟨by decide +kernel, rfl, tw_253⟩
theorem cal_S_init_Traffic_init : CalOK j_S_init j_Traffic_init 2 := ⟨mok_Traffic_init, by decide, by decide, tw_29, ⟨by decide, by decide⟩, by decide +kernel⟩
theorem cal_S_isPlace_S_isWithin : CalOK j_S_isPlace j_S_isWithin 3 := ⟨mok_S_isWithin, by decide, by decide, tw_22, ⟨by decide, by decide⟩, by decide +kernel⟩
theorem cal_S_isReach_S_isWithin : CalOK j_S_isReach j_S_isWithin 3 := ⟨mok_S_isWithin, by decide, by decide, tw_22, ⟨by decide, by decide⟩, by decide +kernel⟩
theorem mok_Market_nobodyOverpays : MOK j_Market_nobodyOverpays := ⟨by decide +kernel, rfl, tw_828⟩
theorem cal_S_isSound_Market_nobodyOverpays : CalOK j_S_isSound j_Market_nobodyOverpays 0 := ⟨mok_Market_nobodyOverpays, by decide, by decide, tw_30, ⟨by decide, by decide⟩, by decide +kernel⟩
theorem mok_Node_isInOrder : MOK j_Node_isInOrder := ⟨by decide +kernel, rfl, tw_808⟩
theorem cal_S_isSound_Node_isInOrder : CalOK j_S_isSound j_Node_isInOrder 0 := ⟨mok_Node_isInOrder, by decide, by decide, tw_24, ⟨by decide, by decide⟩, by decide +kernel⟩
theorem mok_NumberSet_size : MOK j_NumberSet_size := ⟨by decide +kernel, rfl, tw_818⟩
theorem cal_S_isSound_NumberSet_size : CalOK j_S_isSound j_NumberSet_size 0 := ⟨mok_NumberSet_size, by decide, by decide, tw_27, ⟨by decide, by decide⟩, by decide +kernel⟩
theorem mok_Routes_areInOrder : MOK j_Routes_areInOrder := ⟨by decide +kernel, rfl, tw_813⟩
theorem cal_S_isSound_Routes_areInOrder : CalOK j_S_isSound j_Routes_areInOrder 1 := ⟨mok_Routes_areInOrder, by decide, by decide, tw_28, ⟨by decide, by decide⟩, by decide +kernel⟩
theorem cal_S_isSound_S_fairness : CalOK j_S_isSound j_S_fairness 0 := ⟨mok_S_fairness, by decide, by decide, tw_22, ⟨by decide, by decide⟩, by decide +kernel⟩
theorem mok_S_inQueue : MOK j_S_inQueue := ⟨by decide +kernel, rfl, tw_750⟩
theorem cal_S_mixNode_S_inQueue : CalOK j_S_mixNode j_S_inQueue 3 := ⟨mok_S_inQueue, by decide, by decide, tw_22, ⟨by decide, by decide⟩, by decide +kernel⟩
theorem cal_S_mixNode_S_mix : CalOK j_S_mixNode j_S_mix 2 := ⟨mok_S_mix, by decide, by decide, tw_22, ⟨by decide, by decide⟩, by decide +kernel⟩
theorem cal_S_mixNode_S_ofNode : CalOK j_S_mixNode j_S_ofNode 2 := ⟨mok_S_ofNode, by decide, by decide, tw_22, ⟨by decide, by decide⟩, by decide +kernel⟩
theorem cal_S_mixNode_S_route : CalOK j_S_mixNode j_S_route 3 := ⟨mok_S_route, by decide, by decide, tw_22, ⟨by decide, by decide⟩, by decide +kernel⟩
theorem cal_S_move_Integer_bitCount : CalOK j_S_move j_Integer_bitCount 1 := ⟨mok_Integer_bitCount, by decide, by decide, tw_37, ⟨by decide, by decide⟩, by decide +kernel⟩
theorem mok_Land_linkedWith : MOK j_Land_linkedWith := ⟨by decide +kernel, rfl, tw_519⟩
theorem cal_S_move_Land_linkedWith : CalOK j_S_move j_Land_linkedWith 1 := ⟨mok_Land_linkedWith, by decide, by decide, tw_23, ⟨by decide, by decide⟩, by decide +kernel⟩
theorem mok_Land_put : MOK j_Land_put := ⟨by decide +kernel, rfl, tw_600⟩
theorem cal_S_move_Land_put : CalOK j_S_move j_Land_put 3 := ⟨mok_Land_put, by decide, by decide, tw_23, ⟨by decide, by decide⟩, by decide +kernel⟩
theorem cal_S_move_S_checkNode : CalOK j_S_move j_S_checkNode 1 := ⟨mok_S_checkNode, by decide, by decide, tw_22, ⟨by decide, by decide⟩, by decide +kernel⟩
theorem mok_S_checkSilent : MOK j_S_checkSilent := ⟨by decide +kernel, rfl, tw_594⟩
theorem cal_S_move_S_checkSilent : CalOK j_S_move j_S_checkSilent 1 := ⟨mok_S_checkSilent, by decide, by decide, tw_22, ⟨by decide, by decide⟩, by decide +kernel⟩
theorem mok_S_isPlace : MOK j_S_isPlace := ⟨by decide +kernel, rfl, tw_342⟩
theorem cal_S_move_S_isPlace : CalOK j_S_move j_S_isPlace 2 := ⟨mok_S_isPlace, by decide, by decide, tw_22, ⟨by decide, by decide⟩, by decide +kernel⟩
theorem mok_Land_add : MOK j_Land_add := ⟨by decide +kernel, rfl, tw_436⟩
theorem cal_S_node_Land_add : CalOK j_S_node j_Land_add 4 := ⟨mok_Land_add, by decide, by decide, tw_23, ⟨by decide, by decide⟩, by decide +kernel⟩
theorem cal_S_node_S_isPlace : CalOK j_S_node j_S_isPlace 2 := ⟨mok_S_isPlace, by decide, by decide, tw_22, ⟨by decide, by decide⟩, by decide +kernel⟩
theorem mok_S_isReach : MOK j_S_isReach := ⟨by decide +kernel, rfl, tw_348⟩
theorem cal_S_node_S_isReach : CalOK j_S_node j_S_isReach 1 := ⟨mok_S_isReach, by decide, by decide, tw_22, ⟨by decide, by decide⟩, by decide +kernel⟩
theorem mok_Land_isSuspect : MOK j_Land_isSuspect := ⟨by decide +kernel, rfl, tw_513⟩
theorem cal_S_ofNode_Land_isSuspect : CalOK j_S_ofNode j_Land_isSuspect 1 := ⟨mok_Land_isSuspect, by decide, by decide, tw_23, ⟨by decide, by decide⟩, by decide +kernel⟩
theorem cal_S_ofNode_Land_linkedWith : CalOK j_S_ofNode j_Land_linkedWith 1 := ⟨mok_Land_linkedWith, by decide, by decide, tw_23, ⟨by decide, by decide⟩, by decide +kernel⟩
theorem cal_S_ofNode_S_checkNode : CalOK j_S_ofNode j_S_checkNode 1 := ⟨mok_S_checkNode, by decide, by decide, tw_22, ⟨by decide, by decide⟩, by decide +kernel⟩
theorem cal_S_pass_S_isWithin : CalOK j_S_pass j_S_isWithin 3 := ⟨mok_S_isWithin, by decide, by decide, tw_22, ⟨by decide, by decide⟩, by decide +kernel⟩
theorem mok_Traffic_goBy : MOK j_Traffic_goBy := ⟨by decide +kernel, rfl, tw_651⟩
theorem cal_S_pass_Traffic_goBy : CalOK j_S_pass j_Traffic_goBy 0 := ⟨mok_Traffic_goBy, by decide, by decide, tw_29, ⟨by decide, by decide⟩, by decide +kernel⟩
theorem mok_Routes_costOf : MOK j_Routes_costOf := ⟨by decide +kernel, rfl, tw_765⟩
theorem cal_S_route_Routes_costOf : CalOK j_S_route j_Routes_costOf 2 := ⟨mok_Routes_costOf, by decide, by decide, tw_28, ⟨by decide, by decide⟩, by decide +kernel⟩
theorem cal_S_route_Routes_hasCircle : CalOK j_S_route j_Routes_hasCircle 2 := ⟨mok_Routes_hasCircle, by decide, by decide, tw_28, ⟨by decide, by decide⟩, by decide +kernel⟩
theorem cal_S_route_Routes_nextOf : CalOK j_S_route j_Routes_nextOf 2 := ⟨mok_Routes_nextOf, by decide, by decide, tw_28, ⟨by decide, by decide⟩, by decide +kernel⟩
theorem mok_Routes_wayLength : MOK j_Routes_wayLength := ⟨by decide +kernel, rfl, tw_770⟩
theorem cal_S_route_Routes_wayLength : CalOK j_S_route j_Routes_wayLength 2 := ⟨mok_Routes_wayLength, by decide, by decide, tw_28, ⟨by decide, by decide⟩, by decide +kernel⟩
theorem cal_S_route_S_checkPair : CalOK j_S_route j_S_checkPair 2 := ⟨mok_S_checkPair, by decide, by decide, tw_22, ⟨by decide, by decide⟩, by decide +kernel⟩
theorem mok_Market_sellAll : MOK j_Market_sellAll := ⟨by decide +kernel, rfl, tw_629⟩
theorem cal_S_sell_Market_sellAll : CalOK j_S_sell j_Market_sellAll 0 := ⟨mok_Market_sellAll, by decide, by decide, tw_30, ⟨by decide, by decide⟩, by decide +kernel⟩
theorem mok_FrameQueue_add : MOK j_FrameQueue_add := ⟨by decide +kernel, rfl, tw_584⟩
theorem cal_S_send_FrameQueue_add : CalOK j_S_send j_FrameQueue_add 5 := ⟨mok_FrameQueue_add, by decide, by decide, tw_25, ⟨by decide, by decide⟩, by decide +kernel⟩
theorem cal_S_send_S_checkNode : CalOK j_S_send j_S_checkNode 1 := ⟨mok_S_checkNode, by decide, by decide, tw_22, ⟨by decide, by decide⟩, by decide +kernel⟩
theorem cal_S_send_S_isWithin : CalOK j_S_send j_S_isWithin 3 := ⟨mok_S_isWithin, by decide, by decide, tw_22, ⟨by decide, by decide⟩, by decide +kernel⟩
theorem cal_S_tune_Land_adjust : CalOK j_S_tune j_Land_adjust 3 := ⟨mok_Land_adjust, by decide, by decide, tw_23, ⟨by decide, by decide⟩, by decide +kernel⟩
theorem cal_S_tune_S_checkNode : CalOK j_S_tune j_S_checkNode 1 := ⟨mok_S_checkNode, by decide, by decide, tw_22, ⟨by decide, by decide⟩, by decide +kernel⟩
theorem cal_S_tune_S_checkSilent : CalOK j_S_tune j_S_checkSilent 1 := ⟨mok_S_checkSilent, by decide, by decide, tw_22, ⟨by decide, by decide⟩, by decide +kernel⟩
theorem cal_S_tune_S_isReach : CalOK j_S_tune j_S_isReach 1 := ⟨mok_S_isReach, by decide, by decide, tw_22, ⟨by decide, by decide⟩, by decide +kernel⟩
theorem cal_S_would_Land_everyone : CalOK j_S_would j_Land_everyone 0 := ⟨mok_Land_everyone, by decide, by decide, tw_23, ⟨by decide, by decide⟩, by decide +kernel⟩
theorem mok_Land_gets : MOK j_Land_gets := ⟨by decide +kernel, rfl, tw_691⟩
theorem cal_S_would_Land_gets : CalOK j_S_would j_Land_gets 3 := ⟨mok_Land_gets, by decide, by decide, tw_23, ⟨by decide, by decide⟩, by decide +kernel⟩
theorem cal_S_would_S_checkNode : CalOK j_S_would j_S_checkNode 1 := ⟨mok_S_checkNode, by decide, by decide, tw_22, ⟨by decide, by decide⟩, by decide +kernel⟩
theorem cal_S_would_S_isIn : CalOK j_S_would j_S_isIn 2 := ⟨mok_S_isIn, by decide, by decide, tw_22, ⟨by decide, by decide⟩, by decide +kernel⟩
theorem cal_S_would_S_isWithin : CalOK j_S_would j_S_isWithin 3 := ⟨mok_S_isWithin, by decide, by decide, tw_22, ⟨by decide, by decide⟩, by decide +kernel⟩
theorem cal_Traffic_arrive_Land_isNode : CalOK j_Traffic_arrive j_Land_isNode 1 := ⟨mok_Land_isNode, by decide, by decide, tw_23, ⟨by decide, by decide⟩, by decide +kernel⟩
theorem cal_Traffic_arrive_NumberSet_has : CalOK j_Traffic_arrive j_NumberSet_has 1 := ⟨mok_NumberSet_has, by decide, by decide, tw_27, ⟨by decide, by decide⟩, by decide +kernel⟩
theorem mok_NumberSet_put : MOK j_NumberSet_put := ⟨by decide +kernel, rfl, tw_711⟩
theorem cal_Traffic_arrive_NumberSet_put : CalOK j_Traffic_arrive j_NumberSet_put 1 := ⟨mok_NumberSet_put, by decide, by decide, tw_27, ⟨by decide, by decide⟩, by decide +kernel⟩
theorem mok_Node_finishFirst : MOK j_Node_finishFirst := ⟨by decide +kernel, rfl, tw_674⟩
theorem cal_Traffic_dropFirst_Node_finishFirst : CalOK j_Traffic_dropFirst j_Node_finishFirst 0 := ⟨mok_Node_finishFirst, by decide, by decide, tw_24, ⟨by decide, by decide⟩, by decide +kernel⟩
theorem cal_Traffic_end_FrameQueue_at : CalOK j_Traffic_end j_FrameQueue_at 1 := ⟨mok_FrameQueue_at, by decide, by decide, tw_25, ⟨by decide, by decide⟩, by decide +kernel⟩
theorem cal_Traffic_end_Land_canHear : CalOK j_Traffic_end j_Land_canHear 2 := ⟨mok_Land_canHear, by decide, by decide, tw_23, ⟨by decide, by decide⟩, by decide +kernel⟩
theorem cal_Traffic_end_Land_isNode : CalOK j_Traffic_end j_Land_isNode 1 := ⟨mok_Land_isNode, by decide, by decide, tw_23, ⟨by decide, by decide⟩, by decide +kernel⟩
theorem cal_Traffic_end_Node_finishFirst : CalOK j_Traffic_end j_Node_finishFirst 0 := ⟨mok_Node_finishFirst, by decide, by decide, tw_24, ⟨by decide, by decide⟩, by decide +kernel⟩
theorem mok_Traffic_receive : MOK j_Traffic_receive := ⟨by decide +kernel, rfl, tw_699⟩
theorem cal_Traffic_end_Traffic_receive : CalOK j_Traffic_end j_Traffic_receive 2 := ⟨mok_Traffic_receive, by decide, by decide, tw_29, ⟨by decide, by decide⟩, by decide +kernel⟩
theorem mok_Traffic_tryAgain : MOK j_Traffic_tryAgain := ⟨by decide +kernel, rfl, tw_720⟩
theorem cal_Traffic_end_Traffic_tryAgain : CalOK j_Traffic_end j_Traffic_tryAgain 1 := ⟨mok_Traffic_tryAgain, by decide, by decide, tw_29, ⟨by decide, by decide⟩, by decide +kernel⟩
theorem mok_Land_hearsOneOf : MOK j_Land_hearsOneOf := ⟨by decide +kernel, rfl, tw_657⟩
theorem cal_Traffic_goBy_Land_hearsOneOf : CalOK j_Traffic_goBy j_Land_hearsOneOf 2 := ⟨mok_Land_hearsOneOf, by decide, by decide, tw_23, ⟨by decide, by decide⟩, by decide +kernel⟩
theorem cal_Traffic_goBy_Node_isSending : CalOK j_Traffic_goBy j_Node_isSending 0 := ⟨mok_Node_isSending, by decide, by decide, tw_24, ⟨by decide, by decide⟩, by decide +kernel⟩
theorem cal_Traffic_goBy_S_isIn : CalOK j_Traffic_goBy j_S_isIn 2 := ⟨mok_S_isIn, by decide, by decide, tw_22, ⟨by decide, by decide⟩, by decide +kernel⟩
theorem mok_Traffic_end : MOK j_Traffic_end := ⟨by decide +kernel, rfl, tw_695⟩
theorem cal_Traffic_goBy_Traffic_end : CalOK j_Traffic_goBy j_Traffic_end 1 := ⟨mok_Traffic_end, by decide, by decide, tw_29, ⟨by decide, by decide⟩, by decide +kernel⟩
theorem mok_Traffic_goOn : MOK j_Traffic_goOn := ⟨by decide +kernel, rfl, tw_686⟩
theorem cal_Traffic_goBy_Traffic_goOn : CalOK j_Traffic_goBy j_Traffic_goOn 2 := ⟨mok_Traffic_goOn, by decide, by decide, tw_29, ⟨by decide, by decide⟩, by decide +kernel⟩
theorem cal_Traffic_goBy_Traffic_senders : CalOK j_Traffic_goBy j_Traffic_senders 0 := ⟨mok_Traffic_senders, by decide, by decide, tw_29, ⟨by decide, by decide⟩, by decide +kernel⟩
theorem mok_Traffic_takeTurn : MOK j_Traffic_takeTurn := ⟨by decide +kernel, rfl, tw_661⟩
theorem cal_Traffic_goBy_Traffic_takeTurn : CalOK j_Traffic_goBy j_Traffic_takeTurn 1 := ⟨mok_Traffic_takeTurn, by decide, by decide, tw_29, ⟨by decide, by decide⟩, by decide +kernel⟩
theorem cal_Traffic_goOn_Land_gets : CalOK j_Traffic_goOn j_Land_gets 3 := ⟨mok_Land_gets, by decide, by decide, tw_23, ⟨by decide, by decide⟩, by decide +kernel⟩
theorem cal_Traffic_goOn_Land_isNode : CalOK j_Traffic_goOn j_Land_isNode 1 := ⟨mok_Land_isNode, by decide, by decide, tw_23, ⟨by decide, by decide⟩, by decide +kernel⟩
theorem cal_Traffic_pushCopy_FrameQueue_add : CalOK j_Traffic_pushCopy j_FrameQueue_add 5 := ⟨mok_FrameQueue_add, by decide, by decide, tw_25, ⟨by decide, by decide⟩, by decide +kernel⟩
theorem mok_Traffic_arrive : MOK j_Traffic_arrive := ⟨by decide +kernel, rfl, tw_703⟩
theorem cal_Traffic_receive_Traffic_arrive : CalOK j_Traffic_receive j_Traffic_arrive 1 := ⟨mok_Traffic_arrive, by decide, by decide, tw_29, ⟨by decide, by decide⟩, by decide +kernel⟩
theorem mok_Traffic_pushCopy : MOK j_Traffic_pushCopy := ⟨by decide +kernel, rfl, tw_714⟩
theorem cal_Traffic_receive_Traffic_pushCopy : CalOK j_Traffic_receive j_Traffic_pushCopy 2 := ⟨mok_Traffic_pushCopy, by decide, by decide, tw_29, ⟨by decide, by decide⟩, by decide +kernel⟩
theorem cal_Traffic_senders_Node_isSending : CalOK j_Traffic_senders j_Node_isSending 0 := ⟨mok_Node_isSending, by decide, by decide, tw_24, ⟨by decide, by decide⟩, by decide +kernel⟩
theorem cal_Traffic_takeTurn_FrameQueue_at : CalOK j_Traffic_takeTurn j_FrameQueue_at 1 := ⟨mok_FrameQueue_at, by decide, by decide, tw_25, ⟨by decide, by decide⟩, by decide +kernel⟩
theorem mok_Node_begin : MOK j_Node_begin := ⟨by decide +kernel, rfl, tw_682⟩
theorem cal_Traffic_takeTurn_Node_begin : CalOK j_Traffic_takeTurn j_Node_begin 2 := ⟨mok_Node_begin, by decide, by decide, tw_24, ⟨by decide, by decide⟩, by decide +kernel⟩
theorem cal_Traffic_takeTurn_Routes_nextOf : CalOK j_Traffic_takeTurn j_Routes_nextOf 2 := ⟨mok_Routes_nextOf, by decide, by decide, tw_28, ⟨by decide, by decide⟩, by decide +kernel⟩
theorem mok_Traffic_dropFirst : MOK j_Traffic_dropFirst := ⟨by decide +kernel, rfl, tw_670⟩
theorem cal_Traffic_takeTurn_Traffic_dropFirst : CalOK j_Traffic_takeTurn j_Traffic_dropFirst 1 := ⟨mok_Traffic_dropFirst, by decide, by decide, tw_29, ⟨by decide, by decide⟩, by decide +kernel⟩
theorem mok_Node_waitAgain : MOK j_Node_waitAgain := ⟨by decide +kernel, rfl, tw_728⟩
theorem cal_Traffic_tryAgain_Node_waitAgain : CalOK j_Traffic_tryAgain j_Node_waitAgain 1 := ⟨mok_Node_waitAgain, by decide, by decide, tw_24, ⟨by decide, by decide⟩, by decide +kernel⟩
theorem mok_Traffic_draw : MOK j_Traffic_draw := ⟨by decide +kernel, rfl, tw_724⟩
theorem cal_Traffic_tryAgain_Traffic_draw : CalOK j_Traffic_tryAgain j_Traffic_draw 1 := ⟨mok_Traffic_draw, by decide, by decide, tw_29, ⟨by decide, by decide⟩, by decide +kernel⟩
theorem cal_Traffic_tryAgain_Traffic_dropFirst : CalOK j_Traffic_tryAgain j_Traffic_dropFirst 1 := ⟨mok_Traffic_dropFirst, by decide, by decide, tw_29, ⟨by decide, by decide⟩, by decide +kernel⟩
theorem hs0 {j pc : Nat} (h1 : ∀ E, mHT j pc E = none) (h2 : mH j = []) : HS Gm (j := j) (pc := pc) := by
  intro E nm hE
  have e1 : Gm.2.2 j pc E = none := h1 E
  rw [e1, h2]
  intro x hx
  cases hx
theorem hs0_Law_act {pc : Nat} (h1 : ¬ (7 ≤ pc ∧ pc < 222)) : HS Gm (j := j_Law_act) (pc := pc) := by
  intro E nm hE
  have e1 : Gm.2.2 j_Law_act pc E = none := if_neg h1
  rw [e1]
  intro x hx
  have h3 : x.startPc = 7 ∧ x.endPc = 222 := by
    revert x
    decide
  unfold covers
  rw [h3.1, h3.2]
  simp only [Bool.and_eq_false_iff, decide_eq_false_iff_not]
  omega
theorem hs_Law_act {pc : Nat} (h1 : 7 ≤ pc) (h2 : pc < 222) : HS Gm (j := j_Law_act) (pc := pc) := by
  intro E nm hE
  have e1 : Gm.2.2 j_Law_act pc E = mHx_Law_act E := if_pos ⟨h1, h2⟩
  rw [e1]
  have hcov : ∀ x ∈ tableOf (mH j_Law_act), covers x pc = true := by
    intro x hx
    have h3 : x.startPc = 7 ∧ x.endPc = 222 := by
      revert x
      decide
    unfold covers
    rw [h3.1, h3.2]
    simp only [Bool.and_eq_true, decide_eq_true_eq]
    omega
  match E, hE with
  | 0, hE =>
    cases Option.some.inj hE
    refine ⟨[⟨7, 222, 225, 67⟩], ⟨7, 222, 228, 69⟩, [⟨7, 222, 231, 71⟩], "java/lang/IllegalArgumentException", rfl, fun y hy => ?_, hcov _ (List.mem_of_getElem? (i := 1) rfl), by decide, tw_574, List.mem_of_getElem? (i := 0) rfl, by decide, Or.inr ⟨dL_act_228, rfl⟩⟩
    right
    rcases List.mem_cons.mp hy with rfl | hy
    · exact ⟨by decide, "java/lang/IndexOutOfBoundsException", tw_573, List.mem_of_getElem? (i := 1) rfl⟩
    · cases hy
  | 1, hE =>
    cases Option.some.inj hE
    refine ⟨[⟨7, 222, 225, 67⟩, ⟨7, 222, 228, 69⟩], ⟨7, 222, 231, 71⟩, [], "java/lang/IllegalStateException", rfl, fun y hy => ?_, hcov _ (List.mem_of_getElem? (i := 2) rfl), by decide, tw_575, List.mem_of_getElem? (i := 1) rfl, by decide, Or.inr ⟨dL_act_231, rfl⟩⟩
    right
    rcases List.mem_cons.mp hy with rfl | hy
    · exact ⟨by decide, "java/lang/IndexOutOfBoundsException", tw_573, List.mem_of_getElem? (i := 3) rfl⟩
    · skip
      rcases List.mem_cons.mp hy with rfl | hy
      · exact ⟨by decide, "java/lang/IllegalArgumentException", tw_574, List.mem_of_getElem? (i := 2) rfl⟩
      · cases hy
  | 2, hE =>
    cases Option.some.inj hE
    refine ⟨[], ⟨7, 222, 225, 67⟩, [⟨7, 222, 228, 69⟩, ⟨7, 222, 231, 71⟩], "java/lang/IndexOutOfBoundsException", rfl, fun y hy => ?_, hcov _ (List.mem_of_getElem? (i := 0) rfl), by decide, tw_573, List.mem_of_getElem? (i := 2) rfl, by decide, Or.inr ⟨dL_act_225, rfl⟩⟩
    cases hy
  | n + 3, hE => simp [kEx] at hE
