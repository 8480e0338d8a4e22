/-! words of the tables that are used, by their places (printed by wip/genp.py) -/
theorem tw_0 : Cond.selects "Sharedair$Market" ⟨"Sharedair$Market", "winningPrice", "(I)I"⟩ ⟨"Sharedair$Market", "winningPrice", "(I)I"⟩ ∈ TBg := tb_in 0 (by decide +kernel) (by decide +kernel)
theorem tw_1 : Cond.selects "Sharedair$Market" ⟨"Sharedair$Market", "forgetBids", "()V"⟩ ⟨"Sharedair$Market", "forgetBids", "()V"⟩ ∈ TBg := tb_in 1 (by decide +kernel) (by decide +kernel)
theorem tw_3 : Cond.selects "Sharedair$Land" ⟨"Sharedair$Land", "isCovering", "(I)Z"⟩ ⟨"Sharedair$Land", "isCovering", "(I)Z"⟩ ∈ TBg := tb_in 3 (by decide +kernel) (by decide +kernel)
theorem tw_4 : Cond.selects "Sharedair$Routes" ⟨"Sharedair$Routes", "follow", "(II)I"⟩ ⟨"Sharedair$Routes", "follow", "(II)I"⟩ ∈ TBg := tb_in 4 (by decide +kernel) (by decide +kernel)
theorem tw_5 : Cond.selects "Sharedair" ⟨"Sharedair", "mixNode", "(JI)J"⟩ ⟨"Sharedair", "mixNode", "(JI)J"⟩ ∈ TBg := tb_in 5 (by decide +kernel) (by decide +kernel)
theorem tw_6 : Cond.selects "Sharedair" ⟨"Sharedair", "checkNode", "(I)V"⟩ ⟨"Sharedair", "checkNode", "(I)V"⟩ ∈ TBg := tb_in 6 (by decide +kernel) (by decide +kernel)
theorem tw_7 : Cond.selects "Sharedair" ⟨"Sharedair", "checkPair", "(II)V"⟩ ⟨"Sharedair", "checkPair", "(II)V"⟩ ∈ TBg := tb_in 7 (by decide +kernel) (by decide +kernel)
theorem tw_8 : Cond.selects "Sharedair$Land" ⟨"Sharedair$Land", "findHearers", "()V"⟩ ⟨"Sharedair$Land", "findHearers", "()V"⟩ ∈ TBg := tb_in 8 (by decide +kernel) (by decide +kernel)
theorem tw_9 : Cond.selects "Sharedair" ⟨"Sharedair", "checkSilent", "(I)V"⟩ ⟨"Sharedair", "checkSilent", "(I)V"⟩ ∈ TBg := tb_in 9 (by decide +kernel) (by decide +kernel)
theorem tw_10 : Cond.selects "Sharedair$Traffic" ⟨"Sharedair$Traffic", "takeTurn", "(I)V"⟩ ⟨"Sharedair$Traffic", "takeTurn", "(I)V"⟩ ∈ TBg := tb_in 10 (by decide +kernel) (by decide +kernel)
theorem tw_11 : Cond.selects "Sharedair$Traffic" ⟨"Sharedair$Traffic", "dropFirst", "(LSharedair$Node;)V"⟩ ⟨"Sharedair$Traffic", "dropFirst", "(LSharedair$Node;)V"⟩ ∈ TBg := tb_in 11 (by decide +kernel) (by decide +kernel)
theorem tw_12 : Cond.selects "Sharedair$Traffic" ⟨"Sharedair$Traffic", "goOn", "(II)V"⟩ ⟨"Sharedair$Traffic", "goOn", "(II)V"⟩ ∈ TBg := tb_in 12 (by decide +kernel) (by decide +kernel)
theorem tw_13 : Cond.selects "Sharedair$Traffic" ⟨"Sharedair$Traffic", "end", "(I)V"⟩ ⟨"Sharedair$Traffic", "end", "(I)V"⟩ ∈ TBg := tb_in 13 (by decide +kernel) (by decide +kernel)
theorem tw_14 : Cond.selects "Sharedair$Traffic" ⟨"Sharedair$Traffic", "receive", "(ILSharedair$Frame;)V"⟩ ⟨"Sharedair$Traffic", "receive", "(ILSharedair$Frame;)V"⟩ ∈ TBg := tb_in 14 (by decide +kernel) (by decide +kernel)
theorem tw_15 : Cond.selects "Sharedair$Traffic" ⟨"Sharedair$Traffic", "arrive", "(LSharedair$Frame;)V"⟩ ⟨"Sharedair$Traffic", "arrive", "(LSharedair$Frame;)V"⟩ ∈ TBg := tb_in 15 (by decide +kernel) (by decide +kernel)
theorem tw_16 : Cond.selects "Sharedair$Traffic" ⟨"Sharedair$Traffic", "tryAgain", "(LSharedair$Node;)V"⟩ ⟨"Sharedair$Traffic", "tryAgain", "(LSharedair$Node;)V"⟩ ∈ TBg := tb_in 16 (by decide +kernel) (by decide +kernel)
theorem tw_17 : Cond.selects "Sharedair$Traffic" ⟨"Sharedair$Traffic", "draw", "(I)I"⟩ ⟨"Sharedair$Traffic", "draw", "(I)I"⟩ ∈ TBg := tb_in 17 (by decide +kernel) (by decide +kernel)
theorem tw_18 : Cond.selects "Sharedair$Routes" ⟨"Sharedair$Routes", "renewPair", "(II)V"⟩ ⟨"Sharedair$Routes", "renewPair", "(II)V"⟩ ∈ TBg := tb_in 18 (by decide +kernel) (by decide +kernel)
theorem tw_19 : Cond.selects "Sharedair$Routes" ⟨"Sharedair$Routes", "cheapestNeighbour", "(II)I"⟩ ⟨"Sharedair$Routes", "cheapestNeighbour", "(II)I"⟩ ∈ TBg := tb_in 19 (by decide +kernel) (by decide +kernel)
theorem tw_20 : Cond.selects "Sharedair$Market" ⟨"Sharedair$Market", "weigh", "(I)V"⟩ ⟨"Sharedair$Market", "weigh", "(I)V"⟩ ∈ TBg := tb_in 20 (by decide +kernel) (by decide +kernel)
theorem tw_21 : Cond.selects "SharedairModel" ⟨"SharedairModel", "start", "(ZI)Z"⟩ ⟨"SharedairModel", "start", "(ZI)Z"⟩ ∈ TBg := tb_in 21 (by decide +kernel) (by decide +kernel)
theorem tw_22 : Cond.selects "SharedairModel" ⟨"SharedairModel", "refuse", "(ZI)Z"⟩ ⟨"SharedairModel", "refuse", "(ZI)Z"⟩ ∈ TBg := tb_in 22 (by decide +kernel) (by decide +kernel)
theorem tw_23 : Cond.selects "java/util/ArrayList" ⟨"java/util/ArrayList", "add", "(Ljava/lang/Object;[Ljava/lang/Object;I)V"⟩ ⟨"java/util/ArrayList", "add", "(Ljava/lang/Object;[Ljava/lang/Object;I)V"⟩ ∈ TBg := tb_in 23 (by decide +kernel) (by decide +kernel)
theorem tw_24 : Cond.selects "java/util/ArrayList" ⟨"java/util/ArrayList", "grow", "()[Ljava/lang/Object;"⟩ ⟨"java/util/ArrayList", "grow", "()[Ljava/lang/Object;"⟩ ∈ TBg := tb_in 24 (by decide +kernel) (by decide +kernel)
theorem tw_25 : Cond.selects "java/util/ArrayList" ⟨"java/util/ArrayList", "grow", "(I)[Ljava/lang/Object;"⟩ ⟨"java/util/ArrayList", "grow", "(I)[Ljava/lang/Object;"⟩ ∈ TBg := tb_in 25 (by decide +kernel) (by decide +kernel)
theorem tw_26 : Cond.selects "SharedairModel" ⟨"SharedairModel", "isNobody", "(I)Z"⟩ ⟨"SharedairModel", "isNobody", "(I)Z"⟩ ∈ TBg := tb_in 26 (by decide +kernel) (by decide +kernel)
theorem tw_27 : Cond.selects "SharedairModel" ⟨"SharedairModel", "links", "(I)I"⟩ ⟨"SharedairModel", "links", "(I)I"⟩ ∈ TBg := tb_in 27 (by decide +kernel) (by decide +kernel)
theorem tw_28 : Cond.selects "SharedairModel" ⟨"SharedairModel", "areLinked", "(II)Z"⟩ ⟨"SharedairModel", "areLinked", "(II)Z"⟩ ∈ TBg := tb_in 28 (by decide +kernel) (by decide +kernel)
theorem tw_29 : Cond.selects "SharedairModel" ⟨"SharedairModel", "hearsIt", "(II)Z"⟩ ⟨"SharedairModel", "hearsIt", "(II)Z"⟩ ∈ TBg := tb_in 29 (by decide +kernel) (by decide +kernel)
theorem tw_30 : Cond.selects "SharedairModel" ⟨"SharedairModel", "far", "(II)I"⟩ ⟨"SharedairModel", "far", "(II)I"⟩ ∈ TBg := tb_in 30 (by decide +kernel) (by decide +kernel)
theorem tw_31 : Cond.selects "SharedairModel" ⟨"SharedairModel", "nextSlot", "()V"⟩ ⟨"SharedairModel", "nextSlot", "()V"⟩ ∈ TBg := tb_in 31 (by decide +kernel) (by decide +kernel)
theorem tw_32 : Cond.selects "SharedairModel" ⟨"SharedairModel", "isBusyFor", "(I)Z"⟩ ⟨"SharedairModel", "isBusyFor", "(I)Z"⟩ ∈ TBg := tb_in 32 (by decide +kernel) (by decide +kernel)
theorem tw_33 : Cond.selects "SharedairModel" ⟨"SharedairModel", "begin", "(LSharedairModel$Node;)V"⟩ ⟨"SharedairModel", "begin", "(LSharedairModel$Node;)V"⟩ ∈ TBg := tb_in 33 (by decide +kernel) (by decide +kernel)
theorem tw_34 : Cond.selects "SharedairModel" ⟨"SharedairModel", "drop", "(LSharedairModel$Node;)V"⟩ ⟨"SharedairModel", "drop", "(LSharedairModel$Node;)V"⟩ ∈ TBg := tb_in 34 (by decide +kernel) (by decide +kernel)
theorem tw_35 : Cond.selects "java/util/ArrayList" ⟨"java/util/ArrayList", "fastRemove", "([Ljava/lang/Object;I)V"⟩ ⟨"java/util/ArrayList", "fastRemove", "([Ljava/lang/Object;I)V"⟩ ∈ TBg := tb_in 35 (by decide +kernel) (by decide +kernel)
theorem tw_36 : Cond.selects "SharedairModel" ⟨"SharedairModel", "senders", "()I"⟩ ⟨"SharedairModel", "senders", "()I"⟩ ∈ TBg := tb_in 36 (by decide +kernel) (by decide +kernel)
theorem tw_37 : Cond.selects "SharedairModel" ⟨"SharedairModel", "gets", "(III)Z"⟩ ⟨"SharedairModel", "gets", "(III)Z"⟩ ∈ TBg := tb_in 37 (by decide +kernel) (by decide +kernel)
theorem tw_38 : Cond.selects "SharedairModel" ⟨"SharedairModel", "end", "(I)V"⟩ ⟨"SharedairModel", "end", "(I)V"⟩ ∈ TBg := tb_in 38 (by decide +kernel) (by decide +kernel)
theorem tw_39 : Cond.selects "SharedairModel" ⟨"SharedairModel", "receive", "(I[I)V"⟩ ⟨"SharedairModel", "receive", "(I[I)V"⟩ ∈ TBg := tb_in 39 (by decide +kernel) (by decide +kernel)
theorem tw_40 : Cond.selects "SharedairModel" ⟨"SharedairModel", "hasArrived", "(II)Z"⟩ ⟨"SharedairModel", "hasArrived", "(II)Z"⟩ ∈ TBg := tb_in 40 (by decide +kernel) (by decide +kernel)
theorem tw_41 : Cond.selects "SharedairModel" ⟨"SharedairModel", "draw", "(I)I"⟩ ⟨"SharedairModel", "draw", "(I)I"⟩ ∈ TBg := tb_in 41 (by decide +kernel) (by decide +kernel)
theorem tw_42 : Cond.selects "SharedairModel" ⟨"SharedairModel", "exchangeOnce", "()V"⟩ ⟨"SharedairModel", "exchangeOnce", "()V"⟩ ∈ TBg := tb_in 42 (by decide +kernel) (by decide +kernel)
theorem tw_43 : Cond.selects "SharedairModel" ⟨"SharedairModel", "routed", "()I"⟩ ⟨"SharedairModel", "routed", "()I"⟩ ∈ TBg := tb_in 43 (by decide +kernel) (by decide +kernel)
theorem tw_44 : Cond.selects "SharedairModel" ⟨"SharedairModel", "auctionNow", "()[I"⟩ ⟨"SharedairModel", "auctionNow", "()[I"⟩ ∈ TBg := tb_in 44 (by decide +kernel) (by decide +kernel)
theorem tw_45 : Cond.selects "SharedairModel" ⟨"SharedairModel", "winners", "(I)I"⟩ ⟨"SharedairModel", "winners", "(I)I"⟩ ∈ TBg := tb_in 45 (by decide +kernel) (by decide +kernel)
theorem tw_46 : Cond.selects "SharedairModel" ⟨"SharedairModel", "canWin", "(II)Z"⟩ ⟨"SharedairModel", "canWin", "(II)Z"⟩ ∈ TBg := tb_in 46 (by decide +kernel) (by decide +kernel)
theorem tw_47 : Cond.selects "SharedairModel" ⟨"SharedairModel", "priceOf", "(II)I"⟩ ⟨"SharedairModel", "priceOf", "(II)I"⟩ ∈ TBg := tb_in 47 (by decide +kernel) (by decide +kernel)
theorem tw_48 : Cond.selects "SharedairModel" ⟨"SharedairModel", "pays", "(II)I"⟩ ⟨"SharedairModel", "pays", "(II)I"⟩ ∈ TBg := tb_in 48 (by decide +kernel) (by decide +kernel)
theorem tw_49 : Cond.selects "SharedairModel" ⟨"SharedairModel", "nodeTold", "(II)I"⟩ ⟨"SharedairModel", "nodeTold", "(II)I"⟩ ∈ TBg := tb_in 49 (by decide +kernel) (by decide +kernel)
theorem tw_50 : Cond.selects "SharedairModel" ⟨"SharedairModel", "isSuspect", "(I)Z"⟩ ⟨"SharedairModel", "isSuspect", "(I)Z"⟩ ∈ TBg := tb_in 50 (by decide +kernel) (by decide +kernel)
theorem tw_51 : Cond.selects "SharedairModel" ⟨"SharedairModel", "queued", "(III)I"⟩ ⟨"SharedairModel", "queued", "(III)I"⟩ ∈ TBg := tb_in 51 (by decide +kernel) (by decide +kernel)
theorem tw_52 : Cond.selects "SharedairModel" ⟨"SharedairModel", "routeTold", "(III)I"⟩ ⟨"SharedairModel", "routeTold", "(III)I"⟩ ∈ TBg := tb_in 52 (by decide +kernel) (by decide +kernel)
theorem tw_53 : Cond.selects "SharedairModel" ⟨"SharedairModel", "way", "(II)I"⟩ ⟨"SharedairModel", "way", "(II)I"⟩ ∈ TBg := tb_in 53 (by decide +kernel) (by decide +kernel)
theorem tw_54 : Cond.selects "SharedairModel" ⟨"SharedairModel", "airTold", "(I)I"⟩ ⟨"SharedairModel", "airTold", "(I)I"⟩ ∈ TBg := tb_in 54 (by decide +kernel) (by decide +kernel)
theorem tw_55 : Cond.selects "SharedairModel" ⟨"SharedairModel", "circles", "()I"⟩ ⟨"SharedairModel", "circles", "()I"⟩ ∈ TBg := tb_in 55 (by decide +kernel) (by decide +kernel)
theorem tw_56 : Cond.selects "SharedairModel" ⟨"SharedairModel", "fairnessNow", "()D"⟩ ⟨"SharedairModel", "fairnessNow", "()D"⟩ ∈ TBg := tb_in 56 (by decide +kernel) (by decide +kernel)
theorem tw_57 : Cond.selects "SharedairModel" ⟨"SharedairModel", "coverNow", "()I"⟩ ⟨"SharedairModel", "coverNow", "()I"⟩ ∈ TBg := tb_in 57 (by decide +kernel) (by decide +kernel)
theorem tw_58 : Cond.selects "SharedairModel" ⟨"SharedairModel", "isCover", "(I)Z"⟩ ⟨"SharedairModel", "isCover", "(I)Z"⟩ ∈ TBg := tb_in 58 (by decide +kernel) (by decide +kernel)
theorem tw_59 : Cond.selects "SharedairModel" ⟨"SharedairModel", "isWhole", "()Z"⟩ ⟨"SharedairModel", "isWhole", "()Z"⟩ ∈ TBg := tb_in 59 (by decide +kernel) (by decide +kernel)
theorem tw_60 : Jvm.Cond.initialized "SharedairLaw" ∈ TBg := tb_in 60 (by decide +kernel) (by decide +kernel)
theorem tw_61 : Jvm.Cond.initialized "Sharedair" ∈ TBg := tb_in 61 (by decide +kernel) (by decide +kernel)
theorem tw_62 : Jvm.Cond.initialized "Sharedair$Land" ∈ TBg := tb_in 62 (by decide +kernel) (by decide +kernel)
theorem tw_63 : Jvm.Cond.initialized "Sharedair$Node" ∈ TBg := tb_in 63 (by decide +kernel) (by decide +kernel)
theorem tw_64 : Jvm.Cond.initialized "Sharedair$FrameQueue" ∈ TBg := tb_in 64 (by decide +kernel) (by decide +kernel)
theorem tw_65 : Jvm.Cond.initialized "Sharedair$Frame" ∈ TBg := tb_in 65 (by decide +kernel) (by decide +kernel)
theorem tw_66 : Jvm.Cond.initialized "Sharedair$NumberSet" ∈ TBg := tb_in 66 (by decide +kernel) (by decide +kernel)
theorem tw_67 : Jvm.Cond.initialized "Sharedair$Routes" ∈ TBg := tb_in 67 (by decide +kernel) (by decide +kernel)
theorem tw_68 : Jvm.Cond.initialized "Sharedair$Traffic" ∈ TBg := tb_in 68 (by decide +kernel) (by decide +kernel)
theorem tw_69 : Jvm.Cond.initialized "Sharedair$Market" ∈ TBg := tb_in 69 (by decide +kernel) (by decide +kernel)
theorem tw_70 : Jvm.Cond.initialized "SharedairModel" ∈ TBg := tb_in 70 (by decide +kernel) (by decide +kernel)
theorem tw_71 : Jvm.Cond.initialized "java/util/AbstractCollection" ∈ TBg := tb_in 71 (by decide +kernel) (by decide +kernel)
theorem tw_72 : Jvm.Cond.initialized "java/util/AbstractList" ∈ TBg := tb_in 72 (by decide +kernel) (by decide +kernel)
theorem tw_73 : Jvm.Cond.initialized "java/util/ArrayList" ∈ TBg := tb_in 73 (by decide +kernel) (by decide +kernel)
theorem tw_74 : Jvm.Cond.initialized "SharedairLaw$Out" ∈ TBg := tb_in 74 (by decide +kernel) (by decide +kernel)
theorem tw_78 : Jvm.Cond.initialized "java/lang/IllegalArgumentException" ∈ TBg := tb_in 78 (by decide +kernel) (by decide +kernel)
theorem tw_79 : Jvm.Cond.initialized "java/lang/IllegalStateException" ∈ TBg := tb_in 79 (by decide +kernel) (by decide +kernel)
theorem tw_80 : Jvm.Cond.initialized "SharedairModel$Node" ∈ TBg := tb_in 80 (by decide +kernel) (by decide +kernel)
theorem tw_81 : Jvm.Cond.initialized "jdk/internal/util/ArraysSupport" ∈ TBg := tb_in 81 (by decide +kernel) (by decide +kernel)
theorem tw_82 : Jvm.Cond.initialized "java/lang/Math" ∈ TBg := tb_in 82 (by decide +kernel) (by decide +kernel)
theorem tw_83 : Jvm.Cond.initialized "java/util/Arrays" ∈ TBg := tb_in 83 (by decide +kernel) (by decide +kernel)
theorem tw_84 : Jvm.Cond.initialized "java/lang/System" ∈ TBg := tb_in 84 (by decide +kernel) (by decide +kernel)
theorem tw_85 : Jvm.Cond.initialized "java/lang/IndexOutOfBoundsException" ∈ TBg := tb_in 85 (by decide +kernel) (by decide +kernel)
theorem tw_87 : Jvm.Cond.initialized "java/lang/Integer" ∈ TBg := tb_in 87 (by decide +kernel) (by decide +kernel)
theorem tw_88 : Jvm.Cond.initialized "java/util/Objects" ∈ TBg := tb_in 88 (by decide +kernel) (by decide +kernel)
theorem tw_89 : Jvm.Cond.initialized "jdk/internal/util/Preconditions" ∈ TBg := tb_in 89 (by decide +kernel) (by decide +kernel)
theorem tw_90 : Jvm.Cond.initialized "java/util/ArrayList$Itr" ∈ TBg := tb_in 90 (by decide +kernel) (by decide +kernel)
theorem tw_91 : Jvm.Cond.initialized "java/lang/AbstractStringBuilder" ∈ TBg := tb_in 91 (by decide +kernel) (by decide +kernel)
theorem tw_92 : Jvm.Cond.initialized "java/lang/StringBuilder" ∈ TBg := tb_in 92 (by decide +kernel) (by decide +kernel)
theorem tw_93 : Jvm.Cond.initialized "java/lang/String" ∈ TBg := tb_in 93 (by decide +kernel) (by decide +kernel)
theorem tw_95 : Jvm.Cond.initialized "java/lang/StringLatin1" ∈ TBg := tb_in 95 (by decide +kernel) (by decide +kernel)
theorem tw_96 : Jvm.Cond.initialized "java/lang/Long" ∈ TBg := tb_in 96 (by decide +kernel) (by decide +kernel)
theorem tw_97 : Jvm.Cond.classLink "SharedairLaw" (8 : Nat) "Sharedair" ∈ TBg := tb_in 97 (by decide +kernel) (by decide +kernel)
theorem tw_98 : Jvm.Cond.instantiable "Sharedair" (5 : Nat) ∈ TBg := tb_in 98 (by decide +kernel) (by decide +kernel)
theorem tw_99 : Jvm.Cond.methodLink "SharedairLaw" (83 : Nat) ({ cls := "Sharedair", name := "<init>", desc := "()V" } : Jvm.MethodName) ∈ TBg := tb_in 99 (by decide +kernel) (by decide +kernel)
theorem tw_100 : Jvm.Cond.instanceMethod ({ cls := "Sharedair", name := "<init>", desc := "()V" } : Jvm.MethodName) ∈ TBg := tb_in 100 (by decide +kernel) (by decide +kernel)
theorem tw_101 : Jvm.Cond.code ({ cls := "Sharedair", name := "<init>", desc := "()V" } : Jvm.MethodName) prog_1_method_1_code (1 : Nat) (Option.none : Option Jvm.ClassFile.FieldType) ∈ TBg := tb_in 101 (by decide +kernel) (by decide +kernel)
theorem tw_102 : Jvm.Cond.methodLink "Sharedair" (1 : Nat) ({ cls := "java/lang/Object", name := "<init>", desc := "()V" } : Jvm.MethodName) ∈ TBg := tb_in 102 (by decide +kernel) (by decide +kernel)
theorem tw_103 : Jvm.Cond.instanceMethod ({ cls := "java/lang/Object", name := "<init>", desc := "()V" } : Jvm.MethodName) ∈ TBg := tb_in 103 (by decide +kernel) (by decide +kernel)
theorem tw_104 : Jvm.Cond.code ({ cls := "java/lang/Object", name := "<init>", desc := "()V" } : Jvm.MethodName) object_method_1_code (1 : Nat) (Option.none : Option Jvm.ClassFile.FieldType) ∈ TBg := tb_in 104 (by decide +kernel) (by decide +kernel)
theorem tw_105 : Jvm.Cond.classLink "Sharedair" (7 : Nat) "Sharedair$Land" ∈ TBg := tb_in 105 (by decide +kernel) (by decide +kernel)
theorem tw_106 : Jvm.Cond.instantiable "Sharedair$Land" (3 : Nat) ∈ TBg := tb_in 106 (by decide +kernel) (by decide +kernel)
theorem tw_107 : Jvm.Cond.methodLink "Sharedair" (9 : Nat) ({ cls := "Sharedair$Land", name := "<init>", desc := "()V" } : Jvm.MethodName) ∈ TBg := tb_in 107 (by decide +kernel) (by decide +kernel)
theorem tw_108 : Jvm.Cond.instanceMethod ({ cls := "Sharedair$Land", name := "<init>", desc := "()V" } : Jvm.MethodName) ∈ TBg := tb_in 108 (by decide +kernel) (by decide +kernel)
theorem tw_109 : Jvm.Cond.code ({ cls := "Sharedair$Land", name := "<init>", desc := "()V" } : Jvm.MethodName) prog_4_method_1_code (2 : Nat) (Option.none : Option Jvm.ClassFile.FieldType) ∈ TBg := tb_in 109 (by decide +kernel) (by decide +kernel)
theorem tw_110 : Jvm.Cond.methodLink "Sharedair$Land" (3 : Nat) ({ cls := "java/lang/Object", name := "<init>", desc := "()V" } : Jvm.MethodName) ∈ TBg := tb_in 110 (by decide +kernel) (by decide +kernel)
theorem tw_111 : Jvm.Cond.classLink "Sharedair$Land" (9 : Nat) "Sharedair$Node" ∈ TBg := tb_in 111 (by decide +kernel) (by decide +kernel)
theorem tw_113 : Jvm.Cond.instantiable "Sharedair$Node" (16 : Nat) ∈ TBg := tb_in 113 (by decide +kernel) (by decide +kernel)
theorem tw_115 : Jvm.Cond.instanceMethod ({ cls := "Sharedair$Node", name := "<init>", desc := "()V" } : Jvm.MethodName) ∈ TBg := tb_in 115 (by decide +kernel) (by decide +kernel)
theorem tw_116 : Jvm.Cond.code ({ cls := "Sharedair$Node", name := "<init>", desc := "()V" } : Jvm.MethodName) prog_6_method_1_code (1 : Nat) (Option.none : Option Jvm.ClassFile.FieldType) ∈ TBg := tb_in 116 (by decide +kernel) (by decide +kernel)
theorem tw_117 : Jvm.Cond.methodLink "Sharedair$Node" (3 : Nat) ({ cls := "java/lang/Object", name := "<init>", desc := "()V" } : Jvm.MethodName) ∈ TBg := tb_in 117 (by decide +kernel) (by decide +kernel)
theorem tw_118 : Jvm.Cond.classLink "Sharedair$Node" (25 : Nat) "Sharedair$FrameQueue" ∈ TBg := tb_in 118 (by decide +kernel) (by decide +kernel)
theorem tw_119 : Jvm.Cond.instantiable "Sharedair$FrameQueue" (2 : Nat) ∈ TBg := tb_in 119 (by decide +kernel) (by decide +kernel)
theorem tw_120 : Jvm.Cond.methodLink "Sharedair$Node" (27 : Nat) ({ cls := "Sharedair$FrameQueue", name := "<init>", desc := "()V" } : Jvm.MethodName) ∈ TBg := tb_in 120 (by decide +kernel) (by decide +kernel)
theorem tw_121 : Jvm.Cond.instanceMethod ({ cls := "Sharedair$FrameQueue", name := "<init>", desc := "()V" } : Jvm.MethodName) ∈ TBg := tb_in 121 (by decide +kernel) (by decide +kernel)
theorem tw_122 : Jvm.Cond.code ({ cls := "Sharedair$FrameQueue", name := "<init>", desc := "()V" } : Jvm.MethodName) prog_3_method_1_code (2 : Nat) (Option.none : Option Jvm.ClassFile.FieldType) ∈ TBg := tb_in 122 (by decide +kernel) (by decide +kernel)
theorem tw_123 : Jvm.Cond.methodLink "Sharedair$FrameQueue" (3 : Nat) ({ cls := "java/lang/Object", name := "<init>", desc := "()V" } : Jvm.MethodName) ∈ TBg := tb_in 123 (by decide +kernel) (by decide +kernel)
theorem tw_124 : Jvm.Cond.classLink "Sharedair$FrameQueue" (9 : Nat) "Sharedair$Frame" ∈ TBg := tb_in 124 (by decide +kernel) (by decide +kernel)
theorem tw_126 : Jvm.Cond.instantiable "Sharedair$Frame" (5 : Nat) ∈ TBg := tb_in 126 (by decide +kernel) (by decide +kernel)
theorem tw_128 : Jvm.Cond.instanceMethod ({ cls := "Sharedair$Frame", name := "<init>", desc := "()V" } : Jvm.MethodName) ∈ TBg := tb_in 128 (by decide +kernel) (by decide +kernel)
theorem tw_129 : Jvm.Cond.code ({ cls := "Sharedair$Frame", name := "<init>", desc := "()V" } : Jvm.MethodName) prog_2_method_1_code (1 : Nat) (Option.none : Option Jvm.ClassFile.FieldType) ∈ TBg := tb_in 129 (by decide +kernel) (by decide +kernel)
theorem tw_130 : Jvm.Cond.methodLink "Sharedair$Frame" (1 : Nat) ({ cls := "java/lang/Object", name := "<init>", desc := "()V" } : Jvm.MethodName) ∈ TBg := tb_in 130 (by decide +kernel) (by decide +kernel)
theorem tw_131 : Jvm.Cond.fieldLink "Sharedair$Frame" (7 : Nat) "Sharedair$Frame" "from" "I" ∈ TBg := tb_in 131 (by decide +kernel) (by decide +kernel)
theorem tw_132 : Jvm.Cond.fieldLink "Sharedair$FrameQueue" (22 : Nat) "Sharedair$Frame" "from" "I" ∈ TBg := tb_in 132 (by decide +kernel) (by decide +kernel)
theorem tw_133 : Jvm.Cond.fieldLink "Sharedair$Traffic" (164 : Nat) "Sharedair$Frame" "from" "I" ∈ TBg := tb_in 133 (by decide +kernel) (by decide +kernel)
theorem tw_134 : Jvm.Cond.fieldLink "Sharedair" (214 : Nat) "Sharedair$Frame" "from" "I" ∈ TBg := tb_in 134 (by decide +kernel) (by decide +kernel)
theorem tw_135 : Jvm.Cond.fieldLink "Sharedair$Frame" (13 : Nat) "Sharedair$Frame" "to" "I" ∈ TBg := tb_in 135 (by decide +kernel) (by decide +kernel)
theorem tw_136 : Jvm.Cond.fieldLink "Sharedair$FrameQueue" (25 : Nat) "Sharedair$Frame" "to" "I" ∈ TBg := tb_in 136 (by decide +kernel) (by decide +kernel)
theorem tw_137 : Jvm.Cond.fieldLink "Sharedair$Traffic" (85 : Nat) "Sharedair$Frame" "to" "I" ∈ TBg := tb_in 137 (by decide +kernel) (by decide +kernel)
theorem tw_138 : Jvm.Cond.fieldLink "Sharedair" (219 : Nat) "Sharedair$Frame" "to" "I" ∈ TBg := tb_in 138 (by decide +kernel) (by decide +kernel)
theorem tw_139 : Jvm.Cond.fieldLink "Sharedair$Frame" (16 : Nat) "Sharedair$Frame" "length" "I" ∈ TBg := tb_in 139 (by decide +kernel) (by decide +kernel)
theorem tw_140 : Jvm.Cond.fieldLink "Sharedair$FrameQueue" (28 : Nat) "Sharedair$Frame" "length" "I" ∈ TBg := tb_in 140 (by decide +kernel) (by decide +kernel)
theorem tw_141 : Jvm.Cond.fieldLink "Sharedair$Traffic" (100 : Nat) "Sharedair$Frame" "length" "I" ∈ TBg := tb_in 141 (by decide +kernel) (by decide +kernel)
theorem tw_142 : Jvm.Cond.fieldLink "Sharedair" (222 : Nat) "Sharedair$Frame" "length" "I" ∈ TBg := tb_in 142 (by decide +kernel) (by decide +kernel)
theorem tw_143 : Jvm.Cond.fieldLink "Sharedair$Frame" (19 : Nat) "Sharedair$Frame" "number" "I" ∈ TBg := tb_in 143 (by decide +kernel) (by decide +kernel)
theorem tw_144 : Jvm.Cond.fieldLink "Sharedair$FrameQueue" (31 : Nat) "Sharedair$Frame" "number" "I" ∈ TBg := tb_in 144 (by decide +kernel) (by decide +kernel)
theorem tw_145 : Jvm.Cond.fieldLink "Sharedair$Traffic" (167 : Nat) "Sharedair$Frame" "number" "I" ∈ TBg := tb_in 145 (by decide +kernel) (by decide +kernel)
theorem tw_146 : Jvm.Cond.fieldLink "Sharedair" (225 : Nat) "Sharedair$Frame" "number" "I" ∈ TBg := tb_in 146 (by decide +kernel) (by decide +kernel)
theorem tw_147 : Jvm.Cond.fieldLink "Sharedair$Frame" (22 : Nat) "Sharedair$Frame" "hops" "I" ∈ TBg := tb_in 147 (by decide +kernel) (by decide +kernel)
theorem tw_148 : Jvm.Cond.fieldLink "Sharedair$FrameQueue" (34 : Nat) "Sharedair$Frame" "hops" "I" ∈ TBg := tb_in 148 (by decide +kernel) (by decide +kernel)
theorem tw_149 : Jvm.Cond.fieldLink "Sharedair$Traffic" (157 : Nat) "Sharedair$Frame" "hops" "I" ∈ TBg := tb_in 149 (by decide +kernel) (by decide +kernel)
theorem tw_150 : Jvm.Cond.fieldLink "Sharedair" (228 : Nat) "Sharedair$Frame" "hops" "I" ∈ TBg := tb_in 150 (by decide +kernel) (by decide +kernel)
theorem tw_162 : Jvm.Cond.arrayClass Jvm.ClassFile.FieldType.int ∈ TBg := tb_in 162 (by decide +kernel) (by decide +kernel)
theorem tw_163 : Jvm.Cond.fieldLink "Sharedair$FrameQueue" (11 : Nat) "Sharedair$FrameQueue" "frames" "[LSharedair$Frame;" ∈ TBg := tb_in 163 (by decide +kernel) (by decide +kernel)
theorem tw_164 : Jvm.Cond.fieldLink "Sharedair$FrameQueue" (17 : Nat) "Sharedair$FrameQueue" "size" "I" ∈ TBg := tb_in 164 (by decide +kernel) (by decide +kernel)
theorem tw_165 : Jvm.Cond.fieldLink "Sharedair$Node" (76 : Nat) "Sharedair$FrameQueue" "size" "I" ∈ TBg := tb_in 165 (by decide +kernel) (by decide +kernel)
theorem tw_166 : Jvm.Cond.fieldLink "Sharedair" (176 : Nat) "Sharedair$FrameQueue" "size" "I" ∈ TBg := tb_in 166 (by decide +kernel) (by decide +kernel)
theorem tw_167 : Jvm.Cond.fieldLink "Sharedair$Land" (68 : Nat) "Sharedair$FrameQueue" "size" "I" ∈ TBg := tb_in 167 (by decide +kernel) (by decide +kernel)
theorem tw_173 : Jvm.Cond.classLink "Sharedair$Node" (62 : Nat) "Sharedair$NumberSet" ∈ TBg := tb_in 173 (by decide +kernel) (by decide +kernel)
theorem tw_174 : Jvm.Cond.instantiable "Sharedair$NumberSet" (1 : Nat) ∈ TBg := tb_in 174 (by decide +kernel) (by decide +kernel)
theorem tw_176 : Jvm.Cond.instanceMethod ({ cls := "Sharedair$NumberSet", name := "<init>", desc := "()V" } : Jvm.MethodName) ∈ TBg := tb_in 176 (by decide +kernel) (by decide +kernel)
theorem tw_177 : Jvm.Cond.code ({ cls := "Sharedair$NumberSet", name := "<init>", desc := "()V" } : Jvm.MethodName) prog_7_method_1_code (1 : Nat) (Option.none : Option Jvm.ClassFile.FieldType) ∈ TBg := tb_in 177 (by decide +kernel) (by decide +kernel)
theorem tw_178 : Jvm.Cond.methodLink "Sharedair$NumberSet" (1 : Nat) ({ cls := "java/lang/Object", name := "<init>", desc := "()V" } : Jvm.MethodName) ∈ TBg := tb_in 178 (by decide +kernel) (by decide +kernel)
theorem tw_179 : Jvm.Cond.fieldLink "Sharedair$NumberSet" (9 : Nat) "Sharedair$NumberSet" "bits" "[J" ∈ TBg := tb_in 179 (by decide +kernel) (by decide +kernel)
theorem tw_183 : Jvm.Cond.arrayClass Jvm.ClassFile.FieldType.long ∈ TBg := tb_in 183 (by decide +kernel) (by decide +kernel)
theorem tw_184 : Jvm.Cond.fieldLink "Sharedair$Node" (9 : Nat) "Sharedair$Node" "x" "I" ∈ TBg := tb_in 184 (by decide +kernel) (by decide +kernel)
theorem tw_185 : Jvm.Cond.fieldLink "Sharedair$Land" (26 : Nat) "Sharedair$Node" "x" "I" ∈ TBg := tb_in 185 (by decide +kernel) (by decide +kernel)
theorem tw_186 : Jvm.Cond.fieldLink "Sharedair" (166 : Nat) "Sharedair$Node" "x" "I" ∈ TBg := tb_in 186 (by decide +kernel) (by decide +kernel)
theorem tw_187 : Jvm.Cond.fieldLink "Sharedair$Node" (15 : Nat) "Sharedair$Node" "y" "I" ∈ TBg := tb_in 187 (by decide +kernel) (by decide +kernel)
theorem tw_188 : Jvm.Cond.fieldLink "Sharedair$Land" (29 : Nat) "Sharedair$Node" "y" "I" ∈ TBg := tb_in 188 (by decide +kernel) (by decide +kernel)
theorem tw_189 : Jvm.Cond.fieldLink "Sharedair" (169 : Nat) "Sharedair$Node" "y" "I" ∈ TBg := tb_in 189 (by decide +kernel) (by decide +kernel)
theorem tw_190 : Jvm.Cond.fieldLink "Sharedair$Node" (18 : Nat) "Sharedair$Node" "reach" "I" ∈ TBg := tb_in 190 (by decide +kernel) (by decide +kernel)
theorem tw_191 : Jvm.Cond.fieldLink "Sharedair" (100 : Nat) "Sharedair$Node" "reach" "I" ∈ TBg := tb_in 191 (by decide +kernel) (by decide +kernel)
theorem tw_192 : Jvm.Cond.fieldLink "Sharedair$Land" (39 : Nat) "Sharedair$Node" "reach" "I" ∈ TBg := tb_in 192 (by decide +kernel) (by decide +kernel)
theorem tw_193 : Jvm.Cond.fieldLink "Sharedair$Node" (21 : Nat) "Sharedair$Node" "isCheat" "Z" ∈ TBg := tb_in 193 (by decide +kernel) (by decide +kernel)
theorem tw_194 : Jvm.Cond.fieldLink "Sharedair$Land" (42 : Nat) "Sharedair$Node" "isCheat" "Z" ∈ TBg := tb_in 194 (by decide +kernel) (by decide +kernel)
theorem tw_195 : Jvm.Cond.fieldLink "Sharedair$Traffic" (143 : Nat) "Sharedair$Node" "isCheat" "Z" ∈ TBg := tb_in 195 (by decide +kernel) (by decide +kernel)
theorem tw_196 : Jvm.Cond.fieldLink "Sharedair" (172 : Nat) "Sharedair$Node" "isCheat" "Z" ∈ TBg := tb_in 196 (by decide +kernel) (by decide +kernel)
theorem tw_197 : Jvm.Cond.fieldLink "Sharedair$Node" (28 : Nat) "Sharedair$Node" "queue" "LSharedair$FrameQueue;" ∈ TBg := tb_in 197 (by decide +kernel) (by decide +kernel)
theorem tw_198 : Jvm.Cond.fieldLink "Sharedair$Traffic" (72 : Nat) "Sharedair$Node" "queue" "LSharedair$FrameQueue;" ∈ TBg := tb_in 198 (by decide +kernel) (by decide +kernel)
theorem tw_199 : Jvm.Cond.fieldLink "Sharedair" (118 : Nat) "Sharedair$Node" "queue" "LSharedair$FrameQueue;" ∈ TBg := tb_in 199 (by decide +kernel) (by decide +kernel)
theorem tw_200 : Jvm.Cond.fieldLink "Sharedair$Land" (64 : Nat) "Sharedair$Node" "queue" "LSharedair$FrameQueue;" ∈ TBg := tb_in 200 (by decide +kernel) (by decide +kernel)
theorem tw_201 : Jvm.Cond.fieldLink "Sharedair$Node" (32 : Nat) "Sharedair$Node" "waiting" "I" ∈ TBg := tb_in 201 (by decide +kernel) (by decide +kernel)
theorem tw_202 : Jvm.Cond.fieldLink "Sharedair$Traffic" (82 : Nat) "Sharedair$Node" "waiting" "I" ∈ TBg := tb_in 202 (by decide +kernel) (by decide +kernel)
theorem tw_203 : Jvm.Cond.fieldLink "Sharedair" (179 : Nat) "Sharedair$Node" "waiting" "I" ∈ TBg := tb_in 203 (by decide +kernel) (by decide +kernel)
theorem tw_204 : Jvm.Cond.fieldLink "Sharedair$Node" (35 : Nat) "Sharedair$Node" "tries" "I" ∈ TBg := tb_in 204 (by decide +kernel) (by decide +kernel)
theorem tw_205 : Jvm.Cond.fieldLink "Sharedair$Traffic" (140 : Nat) "Sharedair$Node" "tries" "I" ∈ TBg := tb_in 205 (by decide +kernel) (by decide +kernel)
theorem tw_206 : Jvm.Cond.fieldLink "Sharedair" (182 : Nat) "Sharedair$Node" "tries" "I" ∈ TBg := tb_in 206 (by decide +kernel) (by decide +kernel)
theorem tw_207 : Jvm.Cond.fieldLink "Sharedair$Node" (38 : Nat) "Sharedair$Node" "toCome" "I" ∈ TBg := tb_in 207 (by decide +kernel) (by decide +kernel)
theorem tw_208 : Jvm.Cond.fieldLink "Sharedair$Traffic" (109 : Nat) "Sharedair$Node" "toCome" "I" ∈ TBg := tb_in 208 (by decide +kernel) (by decide +kernel)
theorem tw_209 : Jvm.Cond.fieldLink "Sharedair" (185 : Nat) "Sharedair$Node" "toCome" "I" ∈ TBg := tb_in 209 (by decide +kernel) (by decide +kernel)
theorem tw_210 : Jvm.Cond.fieldLink "Sharedair$Node" (41 : Nat) "Sharedair$Node" "next" "I" ∈ TBg := tb_in 210 (by decide +kernel) (by decide +kernel)
theorem tw_211 : Jvm.Cond.fieldLink "Sharedair$Traffic" (112 : Nat) "Sharedair$Node" "next" "I" ∈ TBg := tb_in 211 (by decide +kernel) (by decide +kernel)
theorem tw_212 : Jvm.Cond.fieldLink "Sharedair" (188 : Nat) "Sharedair$Node" "next" "I" ∈ TBg := tb_in 212 (by decide +kernel) (by decide +kernel)
theorem tw_213 : Jvm.Cond.fieldLink "Sharedair$Node" (44 : Nat) "Sharedair$Node" "nextGotAll" "Z" ∈ TBg := tb_in 213 (by decide +kernel) (by decide +kernel)
theorem tw_214 : Jvm.Cond.fieldLink "Sharedair$Traffic" (123 : Nat) "Sharedair$Node" "nextGotAll" "Z" ∈ TBg := tb_in 214 (by decide +kernel) (by decide +kernel)
theorem tw_215 : Jvm.Cond.fieldLink "Sharedair$Node" (47 : Nat) "Sharedair$Node" "slotsSent" "I" ∈ TBg := tb_in 215 (by decide +kernel) (by decide +kernel)
theorem tw_216 : Jvm.Cond.fieldLink "Sharedair$Traffic" (106 : Nat) "Sharedair$Node" "slotsSent" "I" ∈ TBg := tb_in 216 (by decide +kernel) (by decide +kernel)
theorem tw_217 : Jvm.Cond.fieldLink "Sharedair" (191 : Nat) "Sharedair$Node" "slotsSent" "I" ∈ TBg := tb_in 217 (by decide +kernel) (by decide +kernel)
theorem tw_218 : Jvm.Cond.fieldLink "Sharedair$Node" (50 : Nat) "Sharedair$Node" "starts" "I" ∈ TBg := tb_in 218 (by decide +kernel) (by decide +kernel)
theorem tw_219 : Jvm.Cond.fieldLink "Sharedair" (194 : Nat) "Sharedair$Node" "starts" "I" ∈ TBg := tb_in 219 (by decide +kernel) (by decide +kernel)
theorem tw_220 : Jvm.Cond.fieldLink "Sharedair$Node" (53 : Nat) "Sharedair$Node" "patience" "I" ∈ TBg := tb_in 220 (by decide +kernel) (by decide +kernel)
theorem tw_221 : Jvm.Cond.fieldLink "Sharedair" (197 : Nat) "Sharedair$Node" "patience" "I" ∈ TBg := tb_in 221 (by decide +kernel) (by decide +kernel)
theorem tw_222 : Jvm.Cond.fieldLink "Sharedair$Land" (73 : Nat) "Sharedair$Node" "patience" "I" ∈ TBg := tb_in 222 (by decide +kernel) (by decide +kernel)
theorem tw_223 : Jvm.Cond.fieldLink "Sharedair$Node" (56 : Nat) "Sharedair$Node" "repeats" "I" ∈ TBg := tb_in 223 (by decide +kernel) (by decide +kernel)
theorem tw_224 : Jvm.Cond.fieldLink "Sharedair" (200 : Nat) "Sharedair$Node" "repeats" "I" ∈ TBg := tb_in 224 (by decide +kernel) (by decide +kernel)
theorem tw_225 : Jvm.Cond.fieldLink "Sharedair$Land" (76 : Nat) "Sharedair$Node" "repeats" "I" ∈ TBg := tb_in 225 (by decide +kernel) (by decide +kernel)
theorem tw_226 : Jvm.Cond.fieldLink "Sharedair$Node" (59 : Nat) "Sharedair$Node" "sent" "I" ∈ TBg := tb_in 226 (by decide +kernel) (by decide +kernel)
theorem tw_227 : Jvm.Cond.fieldLink "Sharedair" (115 : Nat) "Sharedair$Node" "sent" "I" ∈ TBg := tb_in 227 (by decide +kernel) (by decide +kernel)
theorem tw_228 : Jvm.Cond.fieldLink "Sharedair$Node" (65 : Nat) "Sharedair$Node" "arrivals" "LSharedair$NumberSet;" ∈ TBg := tb_in 228 (by decide +kernel) (by decide +kernel)
theorem tw_229 : Jvm.Cond.fieldLink "Sharedair$Traffic" (174 : Nat) "Sharedair$Node" "arrivals" "LSharedair$NumberSet;" ∈ TBg := tb_in 229 (by decide +kernel) (by decide +kernel)
theorem tw_230 : Jvm.Cond.fieldLink "Sharedair" (280 : Nat) "Sharedair$Node" "arrivals" "LSharedair$NumberSet;" ∈ TBg := tb_in 230 (by decide +kernel) (by decide +kernel)
theorem tw_264 : Jvm.Cond.fieldLink "Sharedair$Land" (11 : Nat) "Sharedair$Land" "nodes" "[LSharedair$Node;" ∈ TBg := tb_in 264 (by decide +kernel) (by decide +kernel)
theorem tw_265 : Jvm.Cond.fieldLink "Sharedair$Traffic" (40 : Nat) "Sharedair$Land" "nodes" "[LSharedair$Node;" ∈ TBg := tb_in 265 (by decide +kernel) (by decide +kernel)
theorem tw_266 : Jvm.Cond.fieldLink "Sharedair" (96 : Nat) "Sharedair$Land" "nodes" "[LSharedair$Node;" ∈ TBg := tb_in 266 (by decide +kernel) (by decide +kernel)
theorem tw_267 : Jvm.Cond.fieldLink "Sharedair$Land" (17 : Nat) "Sharedair$Land" "hearers" "[I" ∈ TBg := tb_in 267 (by decide +kernel) (by decide +kernel)
theorem tw_268 : Jvm.Cond.fieldLink "Sharedair$Land" (21 : Nat) "Sharedair$Land" "count" "I" ∈ TBg := tb_in 268 (by decide +kernel) (by decide +kernel)
theorem tw_269 : Jvm.Cond.fieldLink "Sharedair$Traffic" (35 : Nat) "Sharedair$Land" "count" "I" ∈ TBg := tb_in 269 (by decide +kernel) (by decide +kernel)
theorem tw_270 : Jvm.Cond.fieldLink "Sharedair" (60 : Nat) "Sharedair$Land" "count" "I" ∈ TBg := tb_in 270 (by decide +kernel) (by decide +kernel)
theorem tw_271 : Jvm.Cond.fieldLink "Sharedair$Routes" (39 : Nat) "Sharedair$Land" "count" "I" ∈ TBg := tb_in 271 (by decide +kernel) (by decide +kernel)
theorem tw_279 : Jvm.Cond.classLink "Sharedair" (16 : Nat) "Sharedair$Routes" ∈ TBg := tb_in 279 (by decide +kernel) (by decide +kernel)
theorem tw_280 : Jvm.Cond.instantiable "Sharedair$Routes" (6 : Nat) ∈ TBg := tb_in 280 (by decide +kernel) (by decide +kernel)
theorem tw_281 : Jvm.Cond.methodLink "Sharedair" (18 : Nat) ({ cls := "Sharedair$Routes", name := "<init>", desc := "(LSharedair$Land;)V" } : Jvm.MethodName) ∈ TBg := tb_in 281 (by decide +kernel) (by decide +kernel)
theorem tw_282 : Jvm.Cond.instanceMethod ({ cls := "Sharedair$Routes", name := "<init>", desc := "(LSharedair$Land;)V" } : Jvm.MethodName) ∈ TBg := tb_in 282 (by decide +kernel) (by decide +kernel)
theorem tw_283 : Jvm.Cond.code ({ cls := "Sharedair$Routes", name := "<init>", desc := "(LSharedair$Land;)V" } : Jvm.MethodName) prog_8_method_1_code (4 : Nat) (Option.none : Option Jvm.ClassFile.FieldType) ∈ TBg := tb_in 283 (by decide +kernel) (by decide +kernel)
theorem tw_284 : Jvm.Cond.methodLink "Sharedair$Routes" (3 : Nat) ({ cls := "java/lang/Object", name := "<init>", desc := "()V" } : Jvm.MethodName) ∈ TBg := tb_in 284 (by decide +kernel) (by decide +kernel)
theorem tw_285 : Jvm.Cond.classLink "Sharedair$Routes" (9 : Nat) "[[I" ∈ TBg := tb_in 285 (by decide +kernel) (by decide +kernel)
theorem tw_287 : Jvm.Cond.fieldLink "Sharedair$Routes" (29 : Nat) "Sharedair$Routes" "land" "LSharedair$Land;" ∈ TBg := tb_in 287 (by decide +kernel) (by decide +kernel)
theorem tw_288 : Jvm.Cond.fieldLink "Sharedair$Routes" (11 : Nat) "Sharedair$Routes" "costs" "[[I" ∈ TBg := tb_in 288 (by decide +kernel) (by decide +kernel)
theorem tw_289 : Jvm.Cond.fieldLink "Sharedair$Routes" (16 : Nat) "Sharedair$Routes" "nexts" "[[I" ∈ TBg := tb_in 289 (by decide +kernel) (by decide +kernel)
theorem tw_290 : Jvm.Cond.fieldLink "Sharedair$Routes" (19 : Nat) "Sharedair$Routes" "newCosts" "[[I" ∈ TBg := tb_in 290 (by decide +kernel) (by decide +kernel)
theorem tw_291 : Jvm.Cond.fieldLink "Sharedair$Routes" (22 : Nat) "Sharedair$Routes" "newNexts" "[[I" ∈ TBg := tb_in 291 (by decide +kernel) (by decide +kernel)
theorem tw_292 : Jvm.Cond.fieldLink "Sharedair$Routes" (25 : Nat) "Sharedair$Routes" "exchanges" "I" ∈ TBg := tb_in 292 (by decide +kernel) (by decide +kernel)
theorem tw_293 : Jvm.Cond.fieldLink "Sharedair" (264 : Nat) "Sharedair$Routes" "exchanges" "I" ∈ TBg := tb_in 293 (by decide +kernel) (by decide +kernel)
theorem tw_307 : Jvm.Cond.classLink "Sharedair" (25 : Nat) "Sharedair$Traffic" ∈ TBg := tb_in 307 (by decide +kernel) (by decide +kernel)
theorem tw_308 : Jvm.Cond.instantiable "Sharedair$Traffic" (7 : Nat) ∈ TBg := tb_in 308 (by decide +kernel) (by decide +kernel)
theorem tw_309 : Jvm.Cond.methodLink "Sharedair" (27 : Nat) ({ cls := "Sharedair$Traffic", name := "<init>", desc := "(LSharedair$Land;LSharedair$Routes;)V" } : Jvm.MethodName) ∈ TBg := tb_in 309 (by decide +kernel) (by decide +kernel)
theorem tw_310 : Jvm.Cond.instanceMethod ({ cls := "Sharedair$Traffic", name := "<init>", desc := "(LSharedair$Land;LSharedair$Routes;)V" } : Jvm.MethodName) ∈ TBg := tb_in 310 (by decide +kernel) (by decide +kernel)
theorem tw_311 : Jvm.Cond.code ({ cls := "Sharedair$Traffic", name := "<init>", desc := "(LSharedair$Land;LSharedair$Routes;)V" } : Jvm.MethodName) prog_9_method_1_code (3 : Nat) (Option.none : Option Jvm.ClassFile.FieldType) ∈ TBg := tb_in 311 (by decide +kernel) (by decide +kernel)
theorem tw_312 : Jvm.Cond.methodLink "Sharedair$Traffic" (3 : Nat) ({ cls := "java/lang/Object", name := "<init>", desc := "()V" } : Jvm.MethodName) ∈ TBg := tb_in 312 (by decide +kernel) (by decide +kernel)
theorem tw_313 : Jvm.Cond.fieldLink "Sharedair$Traffic" (27 : Nat) "Sharedair$Traffic" "land" "LSharedair$Land;" ∈ TBg := tb_in 313 (by decide +kernel) (by decide +kernel)
theorem tw_314 : Jvm.Cond.fieldLink "Sharedair$Traffic" (31 : Nat) "Sharedair$Traffic" "routes" "LSharedair$Routes;" ∈ TBg := tb_in 314 (by decide +kernel) (by decide +kernel)
theorem tw_315 : Jvm.Cond.fieldLink "Sharedair$Traffic" (9 : Nat) "Sharedair$Traffic" "slot" "I" ∈ TBg := tb_in 315 (by decide +kernel) (by decide +kernel)
theorem tw_316 : Jvm.Cond.fieldLink "Sharedair" (131 : Nat) "Sharedair$Traffic" "slot" "I" ∈ TBg := tb_in 316 (by decide +kernel) (by decide +kernel)
theorem tw_317 : Jvm.Cond.fieldLink "Sharedair$Traffic" (15 : Nat) "Sharedair$Traffic" "luck" "I" ∈ TBg := tb_in 317 (by decide +kernel) (by decide +kernel)
theorem tw_318 : Jvm.Cond.fieldLink "Sharedair" (246 : Nat) "Sharedair$Traffic" "luck" "I" ∈ TBg := tb_in 318 (by decide +kernel) (by decide +kernel)
theorem tw_319 : Jvm.Cond.fieldLink "Sharedair$Traffic" (18 : Nat) "Sharedair$Traffic" "deliveries" "I" ∈ TBg := tb_in 319 (by decide +kernel) (by decide +kernel)
theorem tw_320 : Jvm.Cond.fieldLink "Sharedair" (252 : Nat) "Sharedair$Traffic" "deliveries" "I" ∈ TBg := tb_in 320 (by decide +kernel) (by decide +kernel)
theorem tw_321 : Jvm.Cond.fieldLink "Sharedair$Traffic" (21 : Nat) "Sharedair$Traffic" "doubles" "I" ∈ TBg := tb_in 321 (by decide +kernel) (by decide +kernel)
theorem tw_322 : Jvm.Cond.fieldLink "Sharedair" (255 : Nat) "Sharedair$Traffic" "doubles" "I" ∈ TBg := tb_in 322 (by decide +kernel) (by decide +kernel)
theorem tw_323 : Jvm.Cond.fieldLink "Sharedair$Traffic" (24 : Nat) "Sharedair$Traffic" "dropped" "I" ∈ TBg := tb_in 323 (by decide +kernel) (by decide +kernel)
theorem tw_324 : Jvm.Cond.fieldLink "Sharedair" (258 : Nat) "Sharedair$Traffic" "dropped" "I" ∈ TBg := tb_in 324 (by decide +kernel) (by decide +kernel)
theorem tw_340 : Jvm.Cond.classLink "Sharedair" (34 : Nat) "Sharedair$Market" ∈ TBg := tb_in 340 (by decide +kernel) (by decide +kernel)
theorem tw_341 : Jvm.Cond.instantiable "Sharedair$Market" (9 : Nat) ∈ TBg := tb_in 341 (by decide +kernel) (by decide +kernel)
theorem tw_343 : Jvm.Cond.instanceMethod ({ cls := "Sharedair$Market", name := "<init>", desc := "()V" } : Jvm.MethodName) ∈ TBg := tb_in 343 (by decide +kernel) (by decide +kernel)
theorem tw_344 : Jvm.Cond.code ({ cls := "Sharedair$Market", name := "<init>", desc := "()V" } : Jvm.MethodName) prog_5_method_1_code (1 : Nat) (Option.none : Option Jvm.ClassFile.FieldType) ∈ TBg := tb_in 344 (by decide +kernel) (by decide +kernel)
theorem tw_345 : Jvm.Cond.methodLink "Sharedair$Market" (3 : Nat) ({ cls := "java/lang/Object", name := "<init>", desc := "()V" } : Jvm.MethodName) ∈ TBg := tb_in 345 (by decide +kernel) (by decide +kernel)
theorem tw_346 : Jvm.Cond.fieldLink "Sharedair$Market" (9 : Nat) "Sharedair$Market" "bidders" "[I" ∈ TBg := tb_in 346 (by decide +kernel) (by decide +kernel)
theorem tw_347 : Jvm.Cond.fieldLink "Sharedair$Market" (15 : Nat) "Sharedair$Market" "prices" "[I" ∈ TBg := tb_in 347 (by decide +kernel) (by decide +kernel)
theorem tw_348 : Jvm.Cond.fieldLink "Sharedair$Market" (18 : Nat) "Sharedair$Market" "taken" "[I" ∈ TBg := tb_in 348 (by decide +kernel) (by decide +kernel)
theorem tw_349 : Jvm.Cond.fieldLink "Sharedair$Market" (21 : Nat) "Sharedair$Market" "worth" "[I" ∈ TBg := tb_in 349 (by decide +kernel) (by decide +kernel)
theorem tw_350 : Jvm.Cond.fieldLink "Sharedair$Market" (24 : Nat) "Sharedair$Market" "worthWithout" "[I" ∈ TBg := tb_in 350 (by decide +kernel) (by decide +kernel)
theorem tw_351 : Jvm.Cond.fieldLink "Sharedair$Market" (27 : Nat) "Sharedair$Market" "count" "I" ∈ TBg := tb_in 351 (by decide +kernel) (by decide +kernel)
theorem tw_352 : Jvm.Cond.fieldLink "Sharedair" (150 : Nat) "Sharedair$Market" "count" "I" ∈ TBg := tb_in 352 (by decide +kernel) (by decide +kernel)
theorem tw_353 : Jvm.Cond.fieldLink "Sharedair$Market" (31 : Nat) "Sharedair$Market" "winners" "I" ∈ TBg := tb_in 353 (by decide +kernel) (by decide +kernel)
theorem tw_354 : Jvm.Cond.fieldLink "Sharedair" (325 : Nat) "Sharedair$Market" "winners" "I" ∈ TBg := tb_in 354 (by decide +kernel) (by decide +kernel)
theorem tw_355 : Jvm.Cond.fieldLink "Sharedair$Market" (34 : Nat) "Sharedair$Market" "mostWorth" "I" ∈ TBg := tb_in 355 (by decide +kernel) (by decide +kernel)
theorem tw_356 : Jvm.Cond.fieldLink "Sharedair" (328 : Nat) "Sharedair$Market" "mostWorth" "I" ∈ TBg := tb_in 356 (by decide +kernel) (by decide +kernel)
theorem tw_357 : Jvm.Cond.fieldLink "Sharedair$Market" (37 : Nat) "Sharedair$Market" "paidEver" "I" ∈ TBg := tb_in 357 (by decide +kernel) (by decide +kernel)
theorem tw_358 : Jvm.Cond.fieldLink "Sharedair" (267 : Nat) "Sharedair$Market" "paidEver" "I" ∈ TBg := tb_in 358 (by decide +kernel) (by decide +kernel)
theorem tw_378 : Jvm.Cond.fieldLink "Sharedair" (10 : Nat) "Sharedair" "land" "LSharedair$Land;" ∈ TBg := tb_in 378 (by decide +kernel) (by decide +kernel)
theorem tw_379 : Jvm.Cond.fieldLink "Sharedair" (21 : Nat) "Sharedair" "routes" "LSharedair$Routes;" ∈ TBg := tb_in 379 (by decide +kernel) (by decide +kernel)
theorem tw_380 : Jvm.Cond.fieldLink "Sharedair" (30 : Nat) "Sharedair" "traffic" "LSharedair$Traffic;" ∈ TBg := tb_in 380 (by decide +kernel) (by decide +kernel)
theorem tw_381 : Jvm.Cond.fieldLink "Sharedair" (37 : Nat) "Sharedair" "market" "LSharedair$Market;" ∈ TBg := tb_in 381 (by decide +kernel) (by decide +kernel)
theorem tw_382 : Jvm.Cond.fieldLink "Sharedair" (41 : Nat) "Sharedair" "refused" "I" ∈ TBg := tb_in 382 (by decide +kernel) (by decide +kernel)
theorem tw_394 : Jvm.Cond.methodLink "SharedairLaw" (119 : Nat) ({ cls := "Sharedair", name := "sell", desc := "()I" } : Jvm.MethodName) ∈ TBg := tb_in 394 (by decide +kernel) (by decide +kernel)
theorem tw_395 : Jvm.Cond.instanceMethod ({ cls := "Sharedair", name := "sell", desc := "()I" } : Jvm.MethodName) ∈ TBg := tb_in 395 (by decide +kernel) (by decide +kernel)
theorem tw_396 : Jvm.Cond.selects "Sharedair" ({ cls := "Sharedair", name := "sell", desc := "()I" } : Jvm.MethodName) ({ cls := "Sharedair", name := "sell", desc := "()I" } : Jvm.MethodName) ∈ TBg := tb_in 396 (by decide +kernel) (by decide +kernel)
theorem tw_397 : Jvm.Cond.code ({ cls := "Sharedair", name := "sell", desc := "()I" } : Jvm.MethodName) prog_1_method_9_code (1 : Nat) (Option.some Jvm.ClassFile.FieldType.int) ∈ TBg := tb_in 397 (by decide +kernel) (by decide +kernel)
theorem tw_398 : Jvm.Cond.methodLink "Sharedair" (156 : Nat) ({ cls := "Sharedair$Market", name := "sellAll", desc := "()I" } : Jvm.MethodName) ∈ TBg := tb_in 398 (by decide +kernel) (by decide +kernel)
theorem tw_399 : Jvm.Cond.instanceMethod ({ cls := "Sharedair$Market", name := "sellAll", desc := "()I" } : Jvm.MethodName) ∈ TBg := tb_in 399 (by decide +kernel) (by decide +kernel)
theorem tw_400 : Jvm.Cond.selects "Sharedair$Market" ({ cls := "Sharedair$Market", name := "sellAll", desc := "()I" } : Jvm.MethodName) ({ cls := "Sharedair$Market", name := "sellAll", desc := "()I" } : Jvm.MethodName) ∈ TBg := tb_in 400 (by decide +kernel) (by decide +kernel)
theorem tw_401 : Jvm.Cond.code ({ cls := "Sharedair$Market", name := "sellAll", desc := "()I" } : Jvm.MethodName) prog_5_method_7_code (3 : Nat) (Option.some Jvm.ClassFile.FieldType.int) ∈ TBg := tb_in 401 (by decide +kernel) (by decide +kernel)
theorem tw_402 : Jvm.Cond.methodLink "Sharedair$Market" (52 : Nat) ({ cls := "Sharedair$Market", name := "paidBy", desc := "(I)I" } : Jvm.MethodName) ∈ TBg := tb_in 402 (by decide +kernel) (by decide +kernel)
theorem tw_403 : Jvm.Cond.instanceMethod ({ cls := "Sharedair$Market", name := "paidBy", desc := "(I)I" } : Jvm.MethodName) ∈ TBg := tb_in 403 (by decide +kernel) (by decide +kernel)
theorem tw_404 : Jvm.Cond.selects "Sharedair$Market" ({ cls := "Sharedair$Market", name := "paidBy", desc := "(I)I" } : Jvm.MethodName) ({ cls := "Sharedair$Market", name := "paidBy", desc := "(I)I" } : Jvm.MethodName) ∈ TBg := tb_in 404 (by decide +kernel) (by decide +kernel)
theorem tw_405 : Jvm.Cond.code ({ cls := "Sharedair$Market", name := "paidBy", desc := "(I)I" } : Jvm.MethodName) prog_5_method_5_code (3 : Nat) (Option.some Jvm.ClassFile.FieldType.int) ∈ TBg := tb_in 405 (by decide +kernel) (by decide +kernel)
theorem tw_406 : Jvm.Cond.methodLink "Sharedair$Market" (48 : Nat) ({ cls := "Sharedair$Market", name := "winningPrice", desc := "(I)I" } : Jvm.MethodName) ∈ TBg := tb_in 406 (by decide +kernel) (by decide +kernel)
theorem tw_408 : Jvm.Cond.instanceMethod ({ cls := "Sharedair$Market", name := "winningPrice", desc := "(I)I" } : Jvm.MethodName) ∈ TBg := tb_in 408 (by decide +kernel) (by decide +kernel)
theorem tw_409 : Jvm.Cond.code ({ cls := "Sharedair$Market", name := "winningPrice", desc := "(I)I" } : Jvm.MethodName) prog_5_method_4_code (3 : Nat) (Option.some Jvm.ClassFile.FieldType.int) ∈ TBg := tb_in 409 (by decide +kernel) (by decide +kernel)
theorem tw_411 : Jvm.Cond.static ({ cls := "Sharedair", name := "isIn", desc := "(II)Z" } : Jvm.MethodName) ∈ TBg := tb_in 411 (by decide +kernel) (by decide +kernel)
theorem tw_412 : Jvm.Cond.code ({ cls := "Sharedair", name := "isIn", desc := "(II)Z" } : Jvm.MethodName) prog_1_method_34_code (2 : Nat) (Option.some Jvm.ClassFile.FieldType.boolean) ∈ TBg := tb_in 412 (by decide +kernel) (by decide +kernel)
theorem tw_413 : Jvm.Cond.methodLink "Sharedair$Market" (55 : Nat) ({ cls := "Sharedair$Market", name := "forgetBids", desc := "()V" } : Jvm.MethodName) ∈ TBg := tb_in 413 (by decide +kernel) (by decide +kernel)
theorem tw_415 : Jvm.Cond.instanceMethod ({ cls := "Sharedair$Market", name := "forgetBids", desc := "()V" } : Jvm.MethodName) ∈ TBg := tb_in 415 (by decide +kernel) (by decide +kernel)
theorem tw_416 : Jvm.Cond.code ({ cls := "Sharedair$Market", name := "forgetBids", desc := "()V" } : Jvm.MethodName) prog_5_method_8_code (2 : Nat) (Option.none : Option Jvm.ClassFile.FieldType) ∈ TBg := tb_in 416 (by decide +kernel) (by decide +kernel)
theorem tw_417 : Jvm.Cond.methodLink "SharedairLaw" (123 : Nat) ({ cls := "Sharedair", name := "knock", desc := "()I" } : Jvm.MethodName) ∈ TBg := tb_in 417 (by decide +kernel) (by decide +kernel)
theorem tw_418 : Jvm.Cond.instanceMethod ({ cls := "Sharedair", name := "knock", desc := "()I" } : Jvm.MethodName) ∈ TBg := tb_in 418 (by decide +kernel) (by decide +kernel)
theorem tw_419 : Jvm.Cond.selects "Sharedair" ({ cls := "Sharedair", name := "knock", desc := "()I" } : Jvm.MethodName) ({ cls := "Sharedair", name := "knock", desc := "()I" } : Jvm.MethodName) ∈ TBg := tb_in 419 (by decide +kernel) (by decide +kernel)
theorem tw_420 : Jvm.Cond.code ({ cls := "Sharedair", name := "knock", desc := "()I" } : Jvm.MethodName) prog_1_method_10_code (1 : Nat) (Option.some Jvm.ClassFile.FieldType.int) ∈ TBg := tb_in 420 (by decide +kernel) (by decide +kernel)
theorem tw_421 : Jvm.Cond.methodLink "SharedairLaw" (146 : Nat) ({ cls := "Sharedair", name := "fairness", desc := "()D" } : Jvm.MethodName) ∈ TBg := tb_in 421 (by decide +kernel) (by decide +kernel)
theorem tw_422 : Jvm.Cond.instanceMethod ({ cls := "Sharedair", name := "fairness", desc := "()D" } : Jvm.MethodName) ∈ TBg := tb_in 422 (by decide +kernel) (by decide +kernel)
theorem tw_423 : Jvm.Cond.selects "Sharedair" ({ cls := "Sharedair", name := "fairness", desc := "()D" } : Jvm.MethodName) ({ cls := "Sharedair", name := "fairness", desc := "()D" } : Jvm.MethodName) ∈ TBg := tb_in 423 (by decide +kernel) (by decide +kernel)
theorem tw_424 : Jvm.Cond.code ({ cls := "Sharedair", name := "fairness", desc := "()D" } : Jvm.MethodName) prog_1_method_17_code (8 : Nat) (Option.some Jvm.ClassFile.FieldType.double) ∈ TBg := tb_in 424 (by decide +kernel) (by decide +kernel)
theorem tw_425 : Jvm.Cond.methodLink "SharedairLaw" (151 : Nat) ({ cls := "Sharedair", name := "row", desc := "()Ljava/lang/String;" } : Jvm.MethodName) ∈ TBg := tb_in 425 (by decide +kernel) (by decide +kernel)
theorem tw_426 : Jvm.Cond.instanceMethod ({ cls := "Sharedair", name := "row", desc := "()Ljava/lang/String;" } : Jvm.MethodName) ∈ TBg := tb_in 426 (by decide +kernel) (by decide +kernel)
theorem tw_427 : Jvm.Cond.selects "Sharedair" ({ cls := "Sharedair", name := "row", desc := "()Ljava/lang/String;" } : Jvm.MethodName) ({ cls := "Sharedair", name := "row", desc := "()Ljava/lang/String;" } : Jvm.MethodName) ∈ TBg := tb_in 427 (by decide +kernel) (by decide +kernel)
theorem tw_428 : Jvm.Cond.code ({ cls := "Sharedair", name := "row", desc := "()Ljava/lang/String;" } : Jvm.MethodName) prog_1_method_18_code (3 : Nat) (Option.some (Jvm.ClassFile.FieldType.object "java/lang/String")) ∈ TBg := tb_in 428 (by decide +kernel) (by decide +kernel)
theorem tw_429 : Jvm.Cond.classLink "Sharedair" (289 : Nat) "java/lang/StringBuilder" ∈ TBg := tb_in 429 (by decide +kernel) (by decide +kernel)
theorem tw_430 : Jvm.Cond.instantiable "java/lang/StringBuilder" (4 : Nat) ∈ TBg := tb_in 430 (by decide +kernel) (by decide +kernel)
theorem tw_431 : Jvm.Cond.methodLink "Sharedair" (291 : Nat) ({ cls := "java/lang/StringBuilder", name := "<init>", desc := "()V" } : Jvm.MethodName) ∈ TBg := tb_in 431 (by decide +kernel) (by decide +kernel)
theorem tw_432 : Jvm.Cond.instanceMethod ({ cls := "java/lang/StringBuilder", name := "<init>", desc := "()V" } : Jvm.MethodName) ∈ TBg := tb_in 432 (by decide +kernel) (by decide +kernel)
theorem tw_433 : Jvm.Cond.code ({ cls := "java/lang/StringBuilder", name := "<init>", desc := "()V" } : Jvm.MethodName) prog_31_method_1_code (1 : Nat) (Option.none : Option Jvm.ClassFile.FieldType) ∈ TBg := tb_in 433 (by decide +kernel) (by decide +kernel)
theorem tw_434 : Jvm.Cond.methodLink "java/lang/StringBuilder" (1 : Nat) ({ cls := "java/lang/AbstractStringBuilder", name := "<init>", desc := "(I)V" } : Jvm.MethodName) ∈ TBg := tb_in 434 (by decide +kernel) (by decide +kernel)
theorem tw_435 : Jvm.Cond.instanceMethod ({ cls := "java/lang/AbstractStringBuilder", name := "<init>", desc := "(I)V" } : Jvm.MethodName) ∈ TBg := tb_in 435 (by decide +kernel) (by decide +kernel)
theorem tw_436 : Jvm.Cond.code ({ cls := "java/lang/AbstractStringBuilder", name := "<init>", desc := "(I)V" } : Jvm.MethodName) prog_15_method_2_code (2 : Nat) (Option.none : Option Jvm.ClassFile.FieldType) ∈ TBg := tb_in 436 (by decide +kernel) (by decide +kernel)
theorem tw_437 : Jvm.Cond.methodLink "java/lang/AbstractStringBuilder" (3 : Nat) ({ cls := "java/lang/Object", name := "<init>", desc := "()V" } : Jvm.MethodName) ∈ TBg := tb_in 437 (by decide +kernel) (by decide +kernel)
theorem tw_438 : Jvm.Cond.fieldLink "java/lang/AbstractStringBuilder" (18 : Nat) "java/lang/String" "COMPACT_STRINGS" "Z" ∈ TBg := tb_in 438 (by decide +kernel) (by decide +kernel)
theorem tw_447 : Jvm.Cond.fieldLink "java/lang/AbstractStringBuilder" (15 : Nat) "java/lang/AbstractStringBuilder" "value" "[B" ∈ TBg := tb_in 447 (by decide +kernel) (by decide +kernel)
theorem tw_448 : Jvm.Cond.fieldLink "java/lang/AbstractStringBuilder" (22 : Nat) "java/lang/AbstractStringBuilder" "coder" "B" ∈ TBg := tb_in 448 (by decide +kernel) (by decide +kernel)
theorem tw_449 : Jvm.Cond.fieldLink "java/lang/String" (1048 : Nat) "java/lang/AbstractStringBuilder" "maybeLatin1" "Z" ∈ TBg := tb_in 449 (by decide +kernel) (by decide +kernel)
theorem tw_450 : Jvm.Cond.fieldLink "java/lang/AbstractStringBuilder" (79 : Nat) "java/lang/AbstractStringBuilder" "count" "I" ∈ TBg := tb_in 450 (by decide +kernel) (by decide +kernel)
theorem tw_459 : Jvm.Cond.superclass "java/lang/StringBuilder" "java/lang/AbstractStringBuilder" ∈ TBg := tb_in 459 (by decide +kernel) (by decide +kernel)
theorem tw_460 : Jvm.Cond.arrayClass Jvm.ClassFile.FieldType.byte ∈ TBg := tb_in 460 (by decide +kernel) (by decide +kernel)
theorem tw_461 : Jvm.Cond.methodLink "Sharedair" (292 : Nat) ({ cls := "Sharedair$Node", name := "sign", desc := "()C" } : Jvm.MethodName) ∈ TBg := tb_in 461 (by decide +kernel) (by decide +kernel)
theorem tw_462 : Jvm.Cond.instanceMethod ({ cls := "Sharedair$Node", name := "sign", desc := "()C" } : Jvm.MethodName) ∈ TBg := tb_in 462 (by decide +kernel) (by decide +kernel)
theorem tw_463 : Jvm.Cond.selects "Sharedair$Node" ({ cls := "Sharedair$Node", name := "sign", desc := "()C" } : Jvm.MethodName) ({ cls := "Sharedair$Node", name := "sign", desc := "()C" } : Jvm.MethodName) ∈ TBg := tb_in 463 (by decide +kernel) (by decide +kernel)
theorem tw_464 : Jvm.Cond.code ({ cls := "Sharedair$Node", name := "sign", desc := "()C" } : Jvm.MethodName) prog_6_method_6_code (1 : Nat) (Option.some Jvm.ClassFile.FieldType.char) ∈ TBg := tb_in 464 (by decide +kernel) (by decide +kernel)
theorem tw_465 : Jvm.Cond.methodLink "Sharedair$Node" (72 : Nat) ({ cls := "Sharedair$Node", name := "isSending", desc := "()Z" } : Jvm.MethodName) ∈ TBg := tb_in 465 (by decide +kernel) (by decide +kernel)
theorem tw_466 : Jvm.Cond.instanceMethod ({ cls := "Sharedair$Node", name := "isSending", desc := "()Z" } : Jvm.MethodName) ∈ TBg := tb_in 466 (by decide +kernel) (by decide +kernel)
theorem tw_467 : Jvm.Cond.selects "Sharedair$Node" ({ cls := "Sharedair$Node", name := "isSending", desc := "()Z" } : Jvm.MethodName) ({ cls := "Sharedair$Node", name := "isSending", desc := "()Z" } : Jvm.MethodName) ∈ TBg := tb_in 467 (by decide +kernel) (by decide +kernel)
theorem tw_468 : Jvm.Cond.code ({ cls := "Sharedair$Node", name := "isSending", desc := "()Z" } : Jvm.MethodName) prog_6_method_2_code (1 : Nat) (Option.some Jvm.ClassFile.FieldType.boolean) ∈ TBg := tb_in 468 (by decide +kernel) (by decide +kernel)
theorem tw_469 : Jvm.Cond.methodLink "Sharedair" (296 : Nat) ({ cls := "java/lang/StringBuilder", name := "append", desc := "(C)Ljava/lang/StringBuilder;" } : Jvm.MethodName) ∈ TBg := tb_in 469 (by decide +kernel) (by decide +kernel)
theorem tw_470 : Jvm.Cond.instanceMethod ({ cls := "java/lang/StringBuilder", name := "append", desc := "(C)Ljava/lang/StringBuilder;" } : Jvm.MethodName) ∈ TBg := tb_in 470 (by decide +kernel) (by decide +kernel)
theorem tw_471 : Jvm.Cond.selects "java/lang/StringBuilder" ({ cls := "java/lang/StringBuilder", name := "append", desc := "(C)Ljava/lang/StringBuilder;" } : Jvm.MethodName) ({ cls := "java/lang/StringBuilder", name := "append", desc := "(C)Ljava/lang/StringBuilder;" } : Jvm.MethodName) ∈ TBg := tb_in 471 (by decide +kernel) (by decide +kernel)
theorem tw_472 : Jvm.Cond.code ({ cls := "java/lang/StringBuilder", name := "append", desc := "(C)Ljava/lang/StringBuilder;" } : Jvm.MethodName) prog_31_method_14_code (2 : Nat) (Option.some (Jvm.ClassFile.FieldType.object "java/lang/StringBuilder")) ∈ TBg := tb_in 472 (by decide +kernel) (by decide +kernel)
theorem tw_473 : Jvm.Cond.methodLink "java/lang/StringBuilder" (50 : Nat) ({ cls := "java/lang/AbstractStringBuilder", name := "append", desc := "(C)Ljava/lang/AbstractStringBuilder;" } : Jvm.MethodName) ∈ TBg := tb_in 473 (by decide +kernel) (by decide +kernel)
theorem tw_474 : Jvm.Cond.instanceMethod ({ cls := "java/lang/AbstractStringBuilder", name := "append", desc := "(C)Ljava/lang/AbstractStringBuilder;" } : Jvm.MethodName) ∈ TBg := tb_in 474 (by decide +kernel) (by decide +kernel)
theorem tw_475 : Jvm.Cond.code ({ cls := "java/lang/AbstractStringBuilder", name := "append", desc := "(C)Ljava/lang/AbstractStringBuilder;" } : Jvm.MethodName) prog_15_method_31_code (2 : Nat) (Option.some (Jvm.ClassFile.FieldType.object "java/lang/AbstractStringBuilder")) ∈ TBg := tb_in 475 (by decide +kernel) (by decide +kernel)
theorem tw_476 : Jvm.Cond.methodLink "java/lang/AbstractStringBuilder" (100 : Nat) ({ cls := "java/lang/AbstractStringBuilder", name := "ensureCapacityInternal", desc := "(I)V" } : Jvm.MethodName) ∈ TBg := tb_in 476 (by decide +kernel) (by decide +kernel)
theorem tw_478 : Jvm.Cond.instanceMethod ({ cls := "java/lang/AbstractStringBuilder", name := "ensureCapacityInternal", desc := "(I)V" } : Jvm.MethodName) ∈ TBg := tb_in 478 (by decide +kernel) (by decide +kernel)
theorem tw_479 : Jvm.Cond.code ({ cls := "java/lang/AbstractStringBuilder", name := "ensureCapacityInternal", desc := "(I)V" } : Jvm.MethodName) prog_15_method_9_code (3 : Nat) (Option.none : Option Jvm.ClassFile.FieldType) ∈ TBg := tb_in 479 (by decide +kernel) (by decide +kernel)
theorem tw_485 : Jvm.Cond.static ({ cls := "jdk/internal/util/ArraysSupport", name := "newLength", desc := "(III)I" } : Jvm.MethodName) ∈ TBg := tb_in 485 (by decide +kernel) (by decide +kernel)
theorem tw_486 : Jvm.Cond.code ({ cls := "jdk/internal/util/ArraysSupport", name := "newLength", desc := "(III)I" } : Jvm.MethodName) prog_49_method_27_code (4 : Nat) (Option.some Jvm.ClassFile.FieldType.int) ∈ TBg := tb_in 486 (by decide +kernel) (by decide +kernel)
theorem tw_487 : Jvm.Cond.methodLink "jdk/internal/util/ArraysSupport" (194 : Nat) ({ cls := "java/lang/Math", name := "max", desc := "(II)I" } : Jvm.MethodName) ∈ TBg := tb_in 487 (by decide +kernel) (by decide +kernel)
theorem tw_488 : Jvm.Cond.static ({ cls := "java/lang/Math", name := "max", desc := "(II)I" } : Jvm.MethodName) ∈ TBg := tb_in 488 (by decide +kernel) (by decide +kernel)
theorem tw_489 : Jvm.Cond.code ({ cls := "java/lang/Math", name := "max", desc := "(II)I" } : Jvm.MethodName) prog_27_method_65_code (2 : Nat) (Option.some Jvm.ClassFile.FieldType.int) ∈ TBg := tb_in 489 (by decide +kernel) (by decide +kernel)
theorem tw_490 : Jvm.Cond.constant "jdk/internal/util/ArraysSupport" (200 : Nat) (2147483639 : Int32) ∈ TBg := tb_in 490 (by decide +kernel) (by decide +kernel)
theorem tw_500 : Jvm.Cond.native ({ cls := "java/lang/Object", name := "clone", desc := "()Ljava/lang/Object;" } : Jvm.MethodName) ∈ TBg := tb_in 500 (by decide +kernel) (by decide +kernel)
theorem tw_501 : Jvm.Cond.instanceMethod ({ cls := "java/lang/Object", name := "clone", desc := "()Ljava/lang/Object;" } : Jvm.MethodName) ∈ TBg := tb_in 501 (by decide +kernel) (by decide +kernel)
theorem tw_505 : Jvm.Cond.methodLink "java/util/Arrays" (304 : Nat) ({ cls := "java/lang/Math", name := "min", desc := "(II)I" } : Jvm.MethodName) ∈ TBg := tb_in 505 (by decide +kernel) (by decide +kernel)
theorem tw_506 : Jvm.Cond.static ({ cls := "java/lang/Math", name := "min", desc := "(II)I" } : Jvm.MethodName) ∈ TBg := tb_in 506 (by decide +kernel) (by decide +kernel)
theorem tw_507 : Jvm.Cond.code ({ cls := "java/lang/Math", name := "min", desc := "(II)I" } : Jvm.MethodName) prog_27_method_69_code (2 : Nat) (Option.some Jvm.ClassFile.FieldType.int) ∈ TBg := tb_in 507 (by decide +kernel) (by decide +kernel)
theorem tw_508 : Jvm.Cond.methodLink "java/util/Arrays" (150 : Nat) ({ cls := "java/lang/System", name := "arraycopy", desc := "(Ljava/lang/Object;ILjava/lang/Object;II)V" } : Jvm.MethodName) ∈ TBg := tb_in 508 (by decide +kernel) (by decide +kernel)
theorem tw_509 : Jvm.Cond.static ({ cls := "java/lang/System", name := "arraycopy", desc := "(Ljava/lang/Object;ILjava/lang/Object;II)V" } : Jvm.MethodName) ∈ TBg := tb_in 509 (by decide +kernel) (by decide +kernel)
theorem tw_510 : Jvm.Cond.native ({ cls := "java/lang/System", name := "arraycopy", desc := "(Ljava/lang/Object;ILjava/lang/Object;II)V" } : Jvm.MethodName) ∈ TBg := tb_in 510 (by decide +kernel) (by decide +kernel)
theorem tw_511 : Jvm.Cond.methodLink "java/lang/AbstractStringBuilder" (83 : Nat) ({ cls := "java/lang/AbstractStringBuilder", name := "isLatin1", desc := "()Z" } : Jvm.MethodName) ∈ TBg := tb_in 511 (by decide +kernel) (by decide +kernel)
theorem tw_512 : Jvm.Cond.instanceMethod ({ cls := "java/lang/AbstractStringBuilder", name := "isLatin1", desc := "()Z" } : Jvm.MethodName) ∈ TBg := tb_in 512 (by decide +kernel) (by decide +kernel)
theorem tw_513 : Jvm.Cond.sameMethod "java/lang/AbstractStringBuilder" "java/lang/AbstractStringBuilder" "isLatin1" "()Z" ∈ TBg := tb_in 513 (by decide +kernel) (by decide +kernel)
theorem tw_514 : Jvm.Cond.selects "java/lang/StringBuilder" ({ cls := "java/lang/AbstractStringBuilder", name := "isLatin1", desc := "()Z" } : Jvm.MethodName) ({ cls := "java/lang/AbstractStringBuilder", name := "isLatin1", desc := "()Z" } : Jvm.MethodName) ∈ TBg := tb_in 514 (by decide +kernel) (by decide +kernel)
theorem tw_515 : Jvm.Cond.code ({ cls := "java/lang/AbstractStringBuilder", name := "isLatin1", desc := "()Z" } : Jvm.MethodName) prog_15_method_68_code (1 : Nat) (Option.some Jvm.ClassFile.FieldType.boolean) ∈ TBg := tb_in 515 (by decide +kernel) (by decide +kernel)
theorem tw_516 : Jvm.Cond.methodLink "java/lang/AbstractStringBuilder" (191 : Nat) ({ cls := "java/lang/StringLatin1", name := "canEncode", desc := "(C)Z" } : Jvm.MethodName) ∈ TBg := tb_in 516 (by decide +kernel) (by decide +kernel)
theorem tw_517 : Jvm.Cond.static ({ cls := "java/lang/StringLatin1", name := "canEncode", desc := "(C)Z" } : Jvm.MethodName) ∈ TBg := tb_in 517 (by decide +kernel) (by decide +kernel)
theorem tw_518 : Jvm.Cond.code ({ cls := "java/lang/StringLatin1", name := "canEncode", desc := "(C)Z" } : Jvm.MethodName) prog_32_method_3_code (1 : Nat) (Option.some Jvm.ClassFile.FieldType.boolean) ∈ TBg := tb_in 518 (by decide +kernel) (by decide +kernel)
theorem tw_562 : Jvm.Cond.static ({ cls := "jdk/internal/util/Preconditions", name := "checkIndex", desc := "(IILjava/util/function/BiFunction;)I" } : Jvm.MethodName) ∈ TBg := tb_in 562 (by decide +kernel) (by decide +kernel)
theorem tw_563 : Jvm.Cond.code ({ cls := "jdk/internal/util/Preconditions", name := "checkIndex", desc := "(IILjava/util/function/BiFunction;)I" } : Jvm.MethodName) prog_50_method_11_code (3 : Nat) (Option.some Jvm.ClassFile.FieldType.int) ∈ TBg := tb_in 563 (by decide +kernel) (by decide +kernel)
theorem tw_564 : Jvm.Cond.methodLink "Sharedair" (300 : Nat) ({ cls := "java/lang/StringBuilder", name := "toString", desc := "()Ljava/lang/String;" } : Jvm.MethodName) ∈ TBg := tb_in 564 (by decide +kernel) (by decide +kernel)
theorem tw_565 : Jvm.Cond.instanceMethod ({ cls := "java/lang/StringBuilder", name := "toString", desc := "()Ljava/lang/String;" } : Jvm.MethodName) ∈ TBg := tb_in 565 (by decide +kernel) (by decide +kernel)
theorem tw_566 : Jvm.Cond.selects "java/lang/StringBuilder" ({ cls := "java/lang/StringBuilder", name := "toString", desc := "()Ljava/lang/String;" } : Jvm.MethodName) ({ cls := "java/lang/StringBuilder", name := "toString", desc := "()Ljava/lang/String;" } : Jvm.MethodName) ∈ TBg := tb_in 566 (by decide +kernel) (by decide +kernel)
theorem tw_567 : Jvm.Cond.code ({ cls := "java/lang/StringBuilder", name := "toString", desc := "()Ljava/lang/String;" } : Jvm.MethodName) prog_31_method_42_code (1 : Nat) (Option.some (Jvm.ClassFile.FieldType.object "java/lang/String")) ∈ TBg := tb_in 567 (by decide +kernel) (by decide +kernel)
theorem tw_568 : Jvm.Cond.classLink "java/lang/StringBuilder" (18 : Nat) "java/lang/String" ∈ TBg := tb_in 568 (by decide +kernel) (by decide +kernel)
theorem tw_569 : Jvm.Cond.instantiable "java/lang/String" (4 : Nat) ∈ TBg := tb_in 569 (by decide +kernel) (by decide +kernel)
theorem tw_570 : Jvm.Cond.methodLink "java/lang/StringBuilder" (137 : Nat) ({ cls := "java/lang/String", name := "<init>", desc := "(Ljava/lang/StringBuilder;)V" } : Jvm.MethodName) ∈ TBg := tb_in 570 (by decide +kernel) (by decide +kernel)
theorem tw_571 : Jvm.Cond.instanceMethod ({ cls := "java/lang/String", name := "<init>", desc := "(Ljava/lang/StringBuilder;)V" } : Jvm.MethodName) ∈ TBg := tb_in 571 (by decide +kernel) (by decide +kernel)
theorem tw_572 : Jvm.Cond.code ({ cls := "java/lang/String", name := "<init>", desc := "(Ljava/lang/StringBuilder;)V" } : Jvm.MethodName) prog_30_method_53_code (2 : Nat) (Option.none : Option Jvm.ClassFile.FieldType) ∈ TBg := tb_in 572 (by decide +kernel) (by decide +kernel)
theorem tw_573 : Jvm.Cond.methodLink "java/lang/String" (489 : Nat) ({ cls := "java/lang/String", name := "<init>", desc := "(Ljava/lang/AbstractStringBuilder;Ljava/lang/Void;)V" } : Jvm.MethodName) ∈ TBg := tb_in 573 (by decide +kernel) (by decide +kernel)
theorem tw_574 : Jvm.Cond.instanceMethod ({ cls := "java/lang/String", name := "<init>", desc := "(Ljava/lang/AbstractStringBuilder;Ljava/lang/Void;)V" } : Jvm.MethodName) ∈ TBg := tb_in 574 (by decide +kernel) (by decide +kernel)
theorem tw_575 : Jvm.Cond.code ({ cls := "java/lang/String", name := "<init>", desc := "(Ljava/lang/AbstractStringBuilder;Ljava/lang/Void;)V" } : Jvm.MethodName) prog_30_method_150_code (5 : Nat) (Option.none : Option Jvm.ClassFile.FieldType) ∈ TBg := tb_in 575 (by decide +kernel) (by decide +kernel)
theorem tw_576 : Jvm.Cond.methodLink "java/lang/String" (1 : Nat) ({ cls := "java/lang/Object", name := "<init>", desc := "()V" } : Jvm.MethodName) ∈ TBg := tb_in 576 (by decide +kernel) (by decide +kernel)
theorem tw_577 : Jvm.Cond.methodLink "java/lang/String" (552 : Nat) ({ cls := "java/lang/AbstractStringBuilder", name := "getValue", desc := "()[B" } : Jvm.MethodName) ∈ TBg := tb_in 577 (by decide +kernel) (by decide +kernel)
theorem tw_578 : Jvm.Cond.instanceMethod ({ cls := "java/lang/AbstractStringBuilder", name := "getValue", desc := "()[B" } : Jvm.MethodName) ∈ TBg := tb_in 578 (by decide +kernel) (by decide +kernel)
theorem tw_579 : Jvm.Cond.sameMethod "java/lang/AbstractStringBuilder" "java/lang/AbstractStringBuilder" "getValue" "()[B" ∈ TBg := tb_in 579 (by decide +kernel) (by decide +kernel)
theorem tw_580 : Jvm.Cond.selects "java/lang/StringBuilder" ({ cls := "java/lang/AbstractStringBuilder", name := "getValue", desc := "()[B" } : Jvm.MethodName) ({ cls := "java/lang/AbstractStringBuilder", name := "getValue", desc := "()[B" } : Jvm.MethodName) ∈ TBg := tb_in 580 (by decide +kernel) (by decide +kernel)
theorem tw_581 : Jvm.Cond.code ({ cls := "java/lang/AbstractStringBuilder", name := "getValue", desc := "()[B" } : Jvm.MethodName) prog_15_method_64_code (1 : Nat) (Option.some (Jvm.ClassFile.FieldType.array Jvm.ClassFile.FieldType.byte)) ∈ TBg := tb_in 581 (by decide +kernel) (by decide +kernel)
theorem tw_582 : Jvm.Cond.methodLink "java/lang/String" (549 : Nat) ({ cls := "java/lang/AbstractStringBuilder", name := "length", desc := "()I" } : Jvm.MethodName) ∈ TBg := tb_in 582 (by decide +kernel) (by decide +kernel)
theorem tw_583 : Jvm.Cond.instanceMethod ({ cls := "java/lang/AbstractStringBuilder", name := "length", desc := "()I" } : Jvm.MethodName) ∈ TBg := tb_in 583 (by decide +kernel) (by decide +kernel)
theorem tw_584 : Jvm.Cond.sameMethod "java/lang/AbstractStringBuilder" "java/lang/AbstractStringBuilder" "length" "()I" ∈ TBg := tb_in 584 (by decide +kernel) (by decide +kernel)
theorem tw_585 : Jvm.Cond.selects "java/lang/StringBuilder" ({ cls := "java/lang/AbstractStringBuilder", name := "length", desc := "()I" } : Jvm.MethodName) ({ cls := "java/lang/StringBuilder", name := "length", desc := "()I" } : Jvm.MethodName) ∈ TBg := tb_in 585 (by decide +kernel) (by decide +kernel)
theorem tw_586 : Jvm.Cond.instanceMethod ({ cls := "java/lang/StringBuilder", name := "length", desc := "()I" } : Jvm.MethodName) ∈ TBg := tb_in 586 (by decide +kernel) (by decide +kernel)
theorem tw_587 : Jvm.Cond.code ({ cls := "java/lang/StringBuilder", name := "length", desc := "()I" } : Jvm.MethodName) prog_31_method_93_code (1 : Nat) (Option.some Jvm.ClassFile.FieldType.int) ∈ TBg := tb_in 587 (by decide +kernel) (by decide +kernel)
theorem tw_588 : Jvm.Cond.methodLink "java/lang/StringBuilder" (343 : Nat) ({ cls := "java/lang/AbstractStringBuilder", name := "length", desc := "()I" } : Jvm.MethodName) ∈ TBg := tb_in 588 (by decide +kernel) (by decide +kernel)
theorem tw_589 : Jvm.Cond.code ({ cls := "java/lang/AbstractStringBuilder", name := "length", desc := "()I" } : Jvm.MethodName) prog_15_method_6_code (1 : Nat) (Option.some Jvm.ClassFile.FieldType.int) ∈ TBg := tb_in 589 (by decide +kernel) (by decide +kernel)
theorem tw_590 : Jvm.Cond.methodLink "java/lang/String" (1047 : Nat) ({ cls := "java/lang/AbstractStringBuilder", name := "isLatin1", desc := "()Z" } : Jvm.MethodName) ∈ TBg := tb_in 590 (by decide +kernel) (by decide +kernel)
theorem tw_591 : Jvm.Cond.methodLink "java/lang/String" (54 : Nat) ({ cls := "java/util/Arrays", name := "copyOfRange", desc := "([BII)[B" } : Jvm.MethodName) ∈ TBg := tb_in 591 (by decide +kernel) (by decide +kernel)
theorem tw_592 : Jvm.Cond.static ({ cls := "java/util/Arrays", name := "copyOfRange", desc := "([BII)[B" } : Jvm.MethodName) ∈ TBg := tb_in 592 (by decide +kernel) (by decide +kernel)
theorem tw_593 : Jvm.Cond.code ({ cls := "java/util/Arrays", name := "copyOfRange", desc := "([BII)[B" } : Jvm.MethodName) prog_42_method_132_code (3 : Nat) (Option.some (Jvm.ClassFile.FieldType.array Jvm.ClassFile.FieldType.byte)) ∈ TBg := tb_in 593 (by decide +kernel) (by decide +kernel)
theorem tw_594 : Jvm.Cond.methodLink "java/util/Arrays" (339 : Nat) ({ cls := "java/util/Arrays", name := "copyOfRangeByte", desc := "([BII)[B" } : Jvm.MethodName) ∈ TBg := tb_in 594 (by decide +kernel) (by decide +kernel)
theorem tw_595 : Jvm.Cond.static ({ cls := "java/util/Arrays", name := "copyOfRangeByte", desc := "([BII)[B" } : Jvm.MethodName) ∈ TBg := tb_in 595 (by decide +kernel) (by decide +kernel)
theorem tw_596 : Jvm.Cond.code ({ cls := "java/util/Arrays", name := "copyOfRangeByte", desc := "([BII)[B" } : Jvm.MethodName) prog_42_method_133_code (5 : Nat) (Option.some (Jvm.ClassFile.FieldType.array Jvm.ClassFile.FieldType.byte)) ∈ TBg := tb_in 596 (by decide +kernel) (by decide +kernel)
theorem tw_597 : Jvm.Cond.methodLink "java/util/Arrays" (343 : Nat) ({ cls := "java/util/Arrays", name := "checkLength", desc := "(II)V" } : Jvm.MethodName) ∈ TBg := tb_in 597 (by decide +kernel) (by decide +kernel)
theorem tw_598 : Jvm.Cond.static ({ cls := "java/util/Arrays", name := "checkLength", desc := "(II)V" } : Jvm.MethodName) ∈ TBg := tb_in 598 (by decide +kernel) (by decide +kernel)
theorem tw_599 : Jvm.Cond.code ({ cls := "java/util/Arrays", name := "checkLength", desc := "(II)V" } : Jvm.MethodName) prog_42_method_131_code (2 : Nat) (Option.none : Option Jvm.ClassFile.FieldType) ∈ TBg := tb_in 599 (by decide +kernel) (by decide +kernel)
theorem tw_700 : Jvm.Cond.fieldLink "java/lang/String" (38 : Nat) "java/lang/String" "COMPACT_STRINGS" "Z" ∈ TBg := tb_in 700 (by decide +kernel) (by decide +kernel)
theorem tw_755 : Jvm.Cond.fieldLink "java/lang/String" (9 : Nat) "java/lang/String" "value" "[B" ∈ TBg := tb_in 755 (by decide +kernel) (by decide +kernel)
theorem tw_756 : Jvm.Cond.fieldLink "java/lang/String" (15 : Nat) "java/lang/String" "coder" "B" ∈ TBg := tb_in 756 (by decide +kernel) (by decide +kernel)
theorem tw_766 : Jvm.Cond.methodLink "SharedairLaw" (168 : Nat) ({ cls := "Sharedair", name := "cover", desc := "()I" } : Jvm.MethodName) ∈ TBg := tb_in 766 (by decide +kernel) (by decide +kernel)
theorem tw_767 : Jvm.Cond.instanceMethod ({ cls := "Sharedair", name := "cover", desc := "()I" } : Jvm.MethodName) ∈ TBg := tb_in 767 (by decide +kernel) (by decide +kernel)
theorem tw_768 : Jvm.Cond.selects "Sharedair" ({ cls := "Sharedair", name := "cover", desc := "()I" } : Jvm.MethodName) ({ cls := "Sharedair", name := "cover", desc := "()I" } : Jvm.MethodName) ∈ TBg := tb_in 768 (by decide +kernel) (by decide +kernel)
theorem tw_769 : Jvm.Cond.code ({ cls := "Sharedair", name := "cover", desc := "()I" } : Jvm.MethodName) prog_1_method_23_code (1 : Nat) (Option.some Jvm.ClassFile.FieldType.int) ∈ TBg := tb_in 769 (by decide +kernel) (by decide +kernel)
theorem tw_770 : Jvm.Cond.methodLink "Sharedair" (334 : Nat) ({ cls := "Sharedair$Land", name := "fewestCovering", desc := "()I" } : Jvm.MethodName) ∈ TBg := tb_in 770 (by decide +kernel) (by decide +kernel)
theorem tw_771 : Jvm.Cond.instanceMethod ({ cls := "Sharedair$Land", name := "fewestCovering", desc := "()I" } : Jvm.MethodName) ∈ TBg := tb_in 771 (by decide +kernel) (by decide +kernel)
theorem tw_772 : Jvm.Cond.selects "Sharedair$Land" ({ cls := "Sharedair$Land", name := "fewestCovering", desc := "()I" } : Jvm.MethodName) ({ cls := "Sharedair$Land", name := "fewestCovering", desc := "()I" } : Jvm.MethodName) ∈ TBg := tb_in 772 (by decide +kernel) (by decide +kernel)
theorem tw_773 : Jvm.Cond.code ({ cls := "Sharedair$Land", name := "fewestCovering", desc := "()I" } : Jvm.MethodName) prog_4_method_16_code (3 : Nat) (Option.some Jvm.ClassFile.FieldType.int) ∈ TBg := tb_in 773 (by decide +kernel) (by decide +kernel)
theorem tw_774 : Jvm.Cond.methodLink "Sharedair$Land" (83 : Nat) ({ cls := "Sharedair$Land", name := "everyone", desc := "()I" } : Jvm.MethodName) ∈ TBg := tb_in 774 (by decide +kernel) (by decide +kernel)
theorem tw_775 : Jvm.Cond.instanceMethod ({ cls := "Sharedair$Land", name := "everyone", desc := "()I" } : Jvm.MethodName) ∈ TBg := tb_in 775 (by decide +kernel) (by decide +kernel)
theorem tw_776 : Jvm.Cond.selects "Sharedair$Land" ({ cls := "Sharedair$Land", name := "everyone", desc := "()I" } : Jvm.MethodName) ({ cls := "Sharedair$Land", name := "everyone", desc := "()I" } : Jvm.MethodName) ∈ TBg := tb_in 776 (by decide +kernel) (by decide +kernel)
theorem tw_777 : Jvm.Cond.code ({ cls := "Sharedair$Land", name := "everyone", desc := "()I" } : Jvm.MethodName) prog_4_method_3_code (1 : Nat) (Option.some Jvm.ClassFile.FieldType.int) ∈ TBg := tb_in 777 (by decide +kernel) (by decide +kernel)
theorem tw_778 : Jvm.Cond.methodLink "Sharedair$Land" (87 : Nat) ({ cls := "java/lang/Integer", name := "bitCount", desc := "(I)I" } : Jvm.MethodName) ∈ TBg := tb_in 778 (by decide +kernel) (by decide +kernel)
theorem tw_779 : Jvm.Cond.static ({ cls := "java/lang/Integer", name := "bitCount", desc := "(I)I" } : Jvm.MethodName) ∈ TBg := tb_in 779 (by decide +kernel) (by decide +kernel)
theorem tw_780 : Jvm.Cond.code ({ cls := "java/lang/Integer", name := "bitCount", desc := "(I)I" } : Jvm.MethodName) prog_24_method_49_code (1 : Nat) (Option.some Jvm.ClassFile.FieldType.int) ∈ TBg := tb_in 780 (by decide +kernel) (by decide +kernel)
theorem tw_781 : Jvm.Cond.constant "java/lang/Integer" (265 : Nat) (1431655765 : Int32) ∈ TBg := tb_in 781 (by decide +kernel) (by decide +kernel)
theorem tw_782 : Jvm.Cond.constant "java/lang/Integer" (266 : Nat) (858993459 : Int32) ∈ TBg := tb_in 782 (by decide +kernel) (by decide +kernel)
theorem tw_783 : Jvm.Cond.constant "java/lang/Integer" (267 : Nat) (252645135 : Int32) ∈ TBg := tb_in 783 (by decide +kernel) (by decide +kernel)
theorem tw_784 : Jvm.Cond.methodLink "Sharedair$Land" (93 : Nat) ({ cls := "Sharedair$Land", name := "isCovering", desc := "(I)Z" } : Jvm.MethodName) ∈ TBg := tb_in 784 (by decide +kernel) (by decide +kernel)
theorem tw_786 : Jvm.Cond.instanceMethod ({ cls := "Sharedair$Land", name := "isCovering", desc := "(I)Z" } : Jvm.MethodName) ∈ TBg := tb_in 786 (by decide +kernel) (by decide +kernel)
theorem tw_787 : Jvm.Cond.code ({ cls := "Sharedair$Land", name := "isCovering", desc := "(I)Z" } : Jvm.MethodName) prog_4_method_17_code (4 : Nat) (Option.some Jvm.ClassFile.FieldType.boolean) ∈ TBg := tb_in 787 (by decide +kernel) (by decide +kernel)
theorem tw_789 : Jvm.Cond.methodLink "SharedairLaw" (172 : Nat) ({ cls := "Sharedair", name := "isSound", desc := "()Z" } : Jvm.MethodName) ∈ TBg := tb_in 789 (by decide +kernel) (by decide +kernel)
theorem tw_790 : Jvm.Cond.instanceMethod ({ cls := "Sharedair", name := "isSound", desc := "()Z" } : Jvm.MethodName) ∈ TBg := tb_in 790 (by decide +kernel) (by decide +kernel)
theorem tw_791 : Jvm.Cond.selects "Sharedair" ({ cls := "Sharedair", name := "isSound", desc := "()Z" } : Jvm.MethodName) ({ cls := "Sharedair", name := "isSound", desc := "()Z" } : Jvm.MethodName) ∈ TBg := tb_in 791 (by decide +kernel) (by decide +kernel)
theorem tw_792 : Jvm.Cond.code ({ cls := "Sharedair", name := "isSound", desc := "()Z" } : Jvm.MethodName) prog_1_method_24_code (3 : Nat) (Option.some Jvm.ClassFile.FieldType.boolean) ∈ TBg := tb_in 792 (by decide +kernel) (by decide +kernel)
theorem tw_793 : Jvm.Cond.methodLink "Sharedair" (337 : Nat) ({ cls := "Sharedair$Node", name := "isInOrder", desc := "()Z" } : Jvm.MethodName) ∈ TBg := tb_in 793 (by decide +kernel) (by decide +kernel)
theorem tw_794 : Jvm.Cond.instanceMethod ({ cls := "Sharedair$Node", name := "isInOrder", desc := "()Z" } : Jvm.MethodName) ∈ TBg := tb_in 794 (by decide +kernel) (by decide +kernel)
theorem tw_795 : Jvm.Cond.selects "Sharedair$Node" ({ cls := "Sharedair$Node", name := "isInOrder", desc := "()Z" } : Jvm.MethodName) ({ cls := "Sharedair$Node", name := "isInOrder", desc := "()Z" } : Jvm.MethodName) ∈ TBg := tb_in 795 (by decide +kernel) (by decide +kernel)
theorem tw_796 : Jvm.Cond.code ({ cls := "Sharedair$Node", name := "isInOrder", desc := "()Z" } : Jvm.MethodName) prog_6_method_7_code (2 : Nat) (Option.some Jvm.ClassFile.FieldType.boolean) ∈ TBg := tb_in 796 (by decide +kernel) (by decide +kernel)
theorem tw_798 : Jvm.Cond.static ({ cls := "Sharedair", name := "isWithin", desc := "(III)Z" } : Jvm.MethodName) ∈ TBg := tb_in 798 (by decide +kernel) (by decide +kernel)
theorem tw_799 : Jvm.Cond.code ({ cls := "Sharedair", name := "isWithin", desc := "(III)Z" } : Jvm.MethodName) prog_1_method_31_code (3 : Nat) (Option.some Jvm.ClassFile.FieldType.boolean) ∈ TBg := tb_in 799 (by decide +kernel) (by decide +kernel)
theorem tw_800 : Jvm.Cond.methodLink "Sharedair" (341 : Nat) ({ cls := "Sharedair$Routes", name := "areInOrder", desc := "(I)Z" } : Jvm.MethodName) ∈ TBg := tb_in 800 (by decide +kernel) (by decide +kernel)
theorem tw_801 : Jvm.Cond.instanceMethod ({ cls := "Sharedair$Routes", name := "areInOrder", desc := "(I)Z" } : Jvm.MethodName) ∈ TBg := tb_in 801 (by decide +kernel) (by decide +kernel)
theorem tw_802 : Jvm.Cond.selects "Sharedair$Routes" ({ cls := "Sharedair$Routes", name := "areInOrder", desc := "(I)Z" } : Jvm.MethodName) ({ cls := "Sharedair$Routes", name := "areInOrder", desc := "(I)Z" } : Jvm.MethodName) ∈ TBg := tb_in 802 (by decide +kernel) (by decide +kernel)
theorem tw_803 : Jvm.Cond.code ({ cls := "Sharedair$Routes", name := "areInOrder", desc := "(I)Z" } : Jvm.MethodName) prog_8_method_12_code (4 : Nat) (Option.some Jvm.ClassFile.FieldType.boolean) ∈ TBg := tb_in 803 (by decide +kernel) (by decide +kernel)
theorem tw_804 : Jvm.Cond.methodLink "Sharedair$Routes" (33 : Nat) ({ cls := "Sharedair$Land", name := "isNode", desc := "(I)Z" } : Jvm.MethodName) ∈ TBg := tb_in 804 (by decide +kernel) (by decide +kernel)
theorem tw_805 : Jvm.Cond.instanceMethod ({ cls := "Sharedair$Land", name := "isNode", desc := "(I)Z" } : Jvm.MethodName) ∈ TBg := tb_in 805 (by decide +kernel) (by decide +kernel)
theorem tw_806 : Jvm.Cond.selects "Sharedair$Land" ({ cls := "Sharedair$Land", name := "isNode", desc := "(I)Z" } : Jvm.MethodName) ({ cls := "Sharedair$Land", name := "isNode", desc := "(I)Z" } : Jvm.MethodName) ∈ TBg := tb_in 806 (by decide +kernel) (by decide +kernel)
theorem tw_807 : Jvm.Cond.code ({ cls := "Sharedair$Land", name := "isNode", desc := "(I)Z" } : Jvm.MethodName) prog_4_method_2_code (2 : Nat) (Option.some Jvm.ClassFile.FieldType.boolean) ∈ TBg := tb_in 807 (by decide +kernel) (by decide +kernel)
theorem tw_809 : Jvm.Cond.methodLink "Sharedair" (344 : Nat) ({ cls := "Sharedair$NumberSet", name := "size", desc := "()I" } : Jvm.MethodName) ∈ TBg := tb_in 809 (by decide +kernel) (by decide +kernel)
theorem tw_810 : Jvm.Cond.instanceMethod ({ cls := "Sharedair$NumberSet", name := "size", desc := "()I" } : Jvm.MethodName) ∈ TBg := tb_in 810 (by decide +kernel) (by decide +kernel)
theorem tw_811 : Jvm.Cond.selects "Sharedair$NumberSet" ({ cls := "Sharedair$NumberSet", name := "size", desc := "()I" } : Jvm.MethodName) ({ cls := "Sharedair$NumberSet", name := "size", desc := "()I" } : Jvm.MethodName) ∈ TBg := tb_in 811 (by decide +kernel) (by decide +kernel)
theorem tw_812 : Jvm.Cond.code ({ cls := "Sharedair$NumberSet", name := "size", desc := "()I" } : Jvm.MethodName) prog_7_method_4_code (3 : Nat) (Option.some Jvm.ClassFile.FieldType.int) ∈ TBg := tb_in 812 (by decide +kernel) (by decide +kernel)
theorem tw_813 : Jvm.Cond.methodLink "Sharedair$NumberSet" (13 : Nat) ({ cls := "java/lang/Long", name := "bitCount", desc := "(J)I" } : Jvm.MethodName) ∈ TBg := tb_in 813 (by decide +kernel) (by decide +kernel)
theorem tw_814 : Jvm.Cond.static ({ cls := "java/lang/Long", name := "bitCount", desc := "(J)I" } : Jvm.MethodName) ∈ TBg := tb_in 814 (by decide +kernel) (by decide +kernel)
theorem tw_815 : Jvm.Cond.code ({ cls := "java/lang/Long", name := "bitCount", desc := "(J)I" } : Jvm.MethodName) prog_26_method_50_code (2 : Nat) (Option.some Jvm.ClassFile.FieldType.int) ∈ TBg := tb_in 815 (by decide +kernel) (by decide +kernel)
theorem tw_816 : Jvm.Cond.constantLong "java/lang/Long" (314 : Nat) (6148914691236517205 : Int64) ∈ TBg := tb_in 816 (by decide +kernel) (by decide +kernel)
theorem tw_817 : Jvm.Cond.constantLong "java/lang/Long" (316 : Nat) (3689348814741910323 : Int64) ∈ TBg := tb_in 817 (by decide +kernel) (by decide +kernel)
theorem tw_818 : Jvm.Cond.constantLong "java/lang/Long" (318 : Nat) (1085102592571150095 : Int64) ∈ TBg := tb_in 818 (by decide +kernel) (by decide +kernel)
theorem tw_819 : Jvm.Cond.methodLink "Sharedair" (346 : Nat) ({ cls := "Sharedair", name := "fairness", desc := "()D" } : Jvm.MethodName) ∈ TBg := tb_in 819 (by decide +kernel) (by decide +kernel)
theorem tw_820 : Jvm.Cond.methodLink "Sharedair" (350 : Nat) ({ cls := "Sharedair$Market", name := "nobodyOverpays", desc := "()Z" } : Jvm.MethodName) ∈ TBg := tb_in 820 (by decide +kernel) (by decide +kernel)
theorem tw_821 : Jvm.Cond.instanceMethod ({ cls := "Sharedair$Market", name := "nobodyOverpays", desc := "()Z" } : Jvm.MethodName) ∈ TBg := tb_in 821 (by decide +kernel) (by decide +kernel)
theorem tw_822 : Jvm.Cond.selects "Sharedair$Market" ({ cls := "Sharedair$Market", name := "nobodyOverpays", desc := "()Z" } : Jvm.MethodName) ({ cls := "Sharedair$Market", name := "nobodyOverpays", desc := "()Z" } : Jvm.MethodName) ∈ TBg := tb_in 822 (by decide +kernel) (by decide +kernel)
theorem tw_823 : Jvm.Cond.code ({ cls := "Sharedair$Market", name := "nobodyOverpays", desc := "()Z" } : Jvm.MethodName) prog_5_method_6_code (2 : Nat) (Option.some Jvm.ClassFile.FieldType.boolean) ∈ TBg := tb_in 823 (by decide +kernel) (by decide +kernel)
theorem tw_824 : Jvm.Cond.methodLink "SharedairLaw" (177 : Nat) ({ cls := "Sharedair", name := "digest", desc := "()J" } : Jvm.MethodName) ∈ TBg := tb_in 824 (by decide +kernel) (by decide +kernel)
theorem tw_825 : Jvm.Cond.instanceMethod ({ cls := "Sharedair", name := "digest", desc := "()J" } : Jvm.MethodName) ∈ TBg := tb_in 825 (by decide +kernel) (by decide +kernel)
theorem tw_826 : Jvm.Cond.selects "Sharedair" ({ cls := "Sharedair", name := "digest", desc := "()J" } : Jvm.MethodName) ({ cls := "Sharedair", name := "digest", desc := "()J" } : Jvm.MethodName) ∈ TBg := tb_in 826 (by decide +kernel) (by decide +kernel)
theorem tw_827 : Jvm.Cond.code ({ cls := "Sharedair", name := "digest", desc := "()J" } : Jvm.MethodName) prog_1_method_25_code (4 : Nat) (Option.some Jvm.ClassFile.FieldType.long) ∈ TBg := tb_in 827 (by decide +kernel) (by decide +kernel)
theorem tw_828 : Jvm.Cond.constantLong "Sharedair" (353 : Nat) (7603 : Int64) ∈ TBg := tb_in 828 (by decide +kernel) (by decide +kernel)
theorem tw_829 : Jvm.Cond.methodLink "Sharedair" (355 : Nat) ({ cls := "Sharedair", name := "air", desc := "(I)I" } : Jvm.MethodName) ∈ TBg := tb_in 829 (by decide +kernel) (by decide +kernel)
theorem tw_830 : Jvm.Cond.instanceMethod ({ cls := "Sharedair", name := "air", desc := "(I)I" } : Jvm.MethodName) ∈ TBg := tb_in 830 (by decide +kernel) (by decide +kernel)
theorem tw_831 : Jvm.Cond.selects "Sharedair" ({ cls := "Sharedair", name := "air", desc := "(I)I" } : Jvm.MethodName) ({ cls := "Sharedair", name := "air", desc := "(I)I" } : Jvm.MethodName) ∈ TBg := tb_in 831 (by decide +kernel) (by decide +kernel)
theorem tw_832 : Jvm.Cond.code ({ cls := "Sharedair", name := "air", desc := "(I)I" } : Jvm.MethodName) prog_1_method_15_code (2 : Nat) (Option.some Jvm.ClassFile.FieldType.int) ∈ TBg := tb_in 832 (by decide +kernel) (by decide +kernel)
theorem tw_833 : Jvm.Cond.methodLink "Sharedair" (249 : Nat) ({ cls := "Sharedair$Traffic", name := "senders", desc := "()I" } : Jvm.MethodName) ∈ TBg := tb_in 833 (by decide +kernel) (by decide +kernel)
theorem tw_834 : Jvm.Cond.instanceMethod ({ cls := "Sharedair$Traffic", name := "senders", desc := "()I" } : Jvm.MethodName) ∈ TBg := tb_in 834 (by decide +kernel) (by decide +kernel)
theorem tw_835 : Jvm.Cond.selects "Sharedair$Traffic" ({ cls := "Sharedair$Traffic", name := "senders", desc := "()I" } : Jvm.MethodName) ({ cls := "Sharedair$Traffic", name := "senders", desc := "()I" } : Jvm.MethodName) ∈ TBg := tb_in 835 (by decide +kernel) (by decide +kernel)
theorem tw_836 : Jvm.Cond.code ({ cls := "Sharedair$Traffic", name := "senders", desc := "()I" } : Jvm.MethodName) prog_9_method_2_code (3 : Nat) (Option.some Jvm.ClassFile.FieldType.int) ∈ TBg := tb_in 836 (by decide +kernel) (by decide +kernel)
theorem tw_837 : Jvm.Cond.methodLink "Sharedair$Traffic" (44 : Nat) ({ cls := "Sharedair$Node", name := "isSending", desc := "()Z" } : Jvm.MethodName) ∈ TBg := tb_in 837 (by decide +kernel) (by decide +kernel)
theorem tw_838 : Jvm.Cond.methodLink "Sharedair" (89 : Nat) ({ cls := "java/lang/Integer", name := "bitCount", desc := "(I)I" } : Jvm.MethodName) ∈ TBg := tb_in 838 (by decide +kernel) (by decide +kernel)
theorem tw_839 : Jvm.Cond.methodLink "Sharedair" (261 : Nat) ({ cls := "Sharedair$Land", name := "framesInQueues", desc := "()I" } : Jvm.MethodName) ∈ TBg := tb_in 839 (by decide +kernel) (by decide +kernel)
theorem tw_840 : Jvm.Cond.instanceMethod ({ cls := "Sharedair$Land", name := "framesInQueues", desc := "()I" } : Jvm.MethodName) ∈ TBg := tb_in 840 (by decide +kernel) (by decide +kernel)
theorem tw_841 : Jvm.Cond.selects "Sharedair$Land" ({ cls := "Sharedair$Land", name := "framesInQueues", desc := "()I" } : Jvm.MethodName) ({ cls := "Sharedair$Land", name := "framesInQueues", desc := "()I" } : Jvm.MethodName) ∈ TBg := tb_in 841 (by decide +kernel) (by decide +kernel)
theorem tw_842 : Jvm.Cond.code ({ cls := "Sharedair$Land", name := "framesInQueues", desc := "()I" } : Jvm.MethodName) prog_4_method_14_code (3 : Nat) (Option.some Jvm.ClassFile.FieldType.int) ∈ TBg := tb_in 842 (by decide +kernel) (by decide +kernel)
theorem tw_843 : Jvm.Cond.methodLink "Sharedair" (270 : Nat) ({ cls := "Sharedair$Routes", name := "pairsWithCircle", desc := "()I" } : Jvm.MethodName) ∈ TBg := tb_in 843 (by decide +kernel) (by decide +kernel)
theorem tw_844 : Jvm.Cond.instanceMethod ({ cls := "Sharedair$Routes", name := "pairsWithCircle", desc := "()I" } : Jvm.MethodName) ∈ TBg := tb_in 844 (by decide +kernel) (by decide +kernel)
theorem tw_845 : Jvm.Cond.selects "Sharedair$Routes" ({ cls := "Sharedair$Routes", name := "pairsWithCircle", desc := "()I" } : Jvm.MethodName) ({ cls := "Sharedair$Routes", name := "pairsWithCircle", desc := "()I" } : Jvm.MethodName) ∈ TBg := tb_in 845 (by decide +kernel) (by decide +kernel)
theorem tw_846 : Jvm.Cond.code ({ cls := "Sharedair$Routes", name := "pairsWithCircle", desc := "()I" } : Jvm.MethodName) prog_8_method_11_code (4 : Nat) (Option.some Jvm.ClassFile.FieldType.int) ∈ TBg := tb_in 846 (by decide +kernel) (by decide +kernel)
theorem tw_847 : Jvm.Cond.methodLink "Sharedair$Routes" (60 : Nat) ({ cls := "Sharedair$Routes", name := "hasCircle", desc := "(II)Z" } : Jvm.MethodName) ∈ TBg := tb_in 847 (by decide +kernel) (by decide +kernel)
theorem tw_848 : Jvm.Cond.instanceMethod ({ cls := "Sharedair$Routes", name := "hasCircle", desc := "(II)Z" } : Jvm.MethodName) ∈ TBg := tb_in 848 (by decide +kernel) (by decide +kernel)
theorem tw_849 : Jvm.Cond.selects "Sharedair$Routes" ({ cls := "Sharedair$Routes", name := "hasCircle", desc := "(II)Z" } : Jvm.MethodName) ({ cls := "Sharedair$Routes", name := "hasCircle", desc := "(II)Z" } : Jvm.MethodName) ∈ TBg := tb_in 849 (by decide +kernel) (by decide +kernel)
theorem tw_850 : Jvm.Cond.code ({ cls := "Sharedair$Routes", name := "hasCircle", desc := "(II)Z" } : Jvm.MethodName) prog_8_method_8_code (3 : Nat) (Option.some Jvm.ClassFile.FieldType.boolean) ∈ TBg := tb_in 850 (by decide +kernel) (by decide +kernel)
theorem tw_851 : Jvm.Cond.methodLink "Sharedair$Routes" (54 : Nat) ({ cls := "Sharedair$Routes", name := "follow", desc := "(II)I" } : Jvm.MethodName) ∈ TBg := tb_in 851 (by decide +kernel) (by decide +kernel)
theorem tw_853 : Jvm.Cond.instanceMethod ({ cls := "Sharedair$Routes", name := "follow", desc := "(II)I" } : Jvm.MethodName) ∈ TBg := tb_in 853 (by decide +kernel) (by decide +kernel)
theorem tw_854 : Jvm.Cond.code ({ cls := "Sharedair$Routes", name := "follow", desc := "(II)I" } : Jvm.MethodName) prog_8_method_9_code (5 : Nat) (Option.some Jvm.ClassFile.FieldType.int) ∈ TBg := tb_in 854 (by decide +kernel) (by decide +kernel)
theorem tw_855 : Jvm.Cond.methodLink "Sharedair$Routes" (57 : Nat) ({ cls := "Sharedair$Routes", name := "nextOf", desc := "(II)I" } : Jvm.MethodName) ∈ TBg := tb_in 855 (by decide +kernel) (by decide +kernel)
theorem tw_856 : Jvm.Cond.instanceMethod ({ cls := "Sharedair$Routes", name := "nextOf", desc := "(II)I" } : Jvm.MethodName) ∈ TBg := tb_in 856 (by decide +kernel) (by decide +kernel)
theorem tw_857 : Jvm.Cond.selects "Sharedair$Routes" ({ cls := "Sharedair$Routes", name := "nextOf", desc := "(II)I" } : Jvm.MethodName) ({ cls := "Sharedair$Routes", name := "nextOf", desc := "(II)I" } : Jvm.MethodName) ∈ TBg := tb_in 857 (by decide +kernel) (by decide +kernel)
theorem tw_858 : Jvm.Cond.code ({ cls := "Sharedair$Routes", name := "nextOf", desc := "(II)I" } : Jvm.MethodName) prog_8_method_3_code (3 : Nat) (Option.some Jvm.ClassFile.FieldType.int) ∈ TBg := tb_in 858 (by decide +kernel) (by decide +kernel)
theorem tw_859 : Jvm.Cond.classLink "Sharedair" (53 : Nat) "java/lang/IllegalArgumentException" ∈ TBg := tb_in 859 (by decide +kernel) (by decide +kernel)
theorem tw_862 : Jvm.Cond.methodLink "Sharedair" (358 : Nat) ({ cls := "Sharedair", name := "mix", desc := "(JJ)J" } : Jvm.MethodName) ∈ TBg := tb_in 862 (by decide +kernel) (by decide +kernel)
theorem tw_863 : Jvm.Cond.static ({ cls := "Sharedair", name := "mix", desc := "(JJ)J" } : Jvm.MethodName) ∈ TBg := tb_in 863 (by decide +kernel) (by decide +kernel)
theorem tw_864 : Jvm.Cond.code ({ cls := "Sharedair", name := "mix", desc := "(JJ)J" } : Jvm.MethodName) prog_1_method_27_code (4 : Nat) (Option.some Jvm.ClassFile.FieldType.long) ∈ TBg := tb_in 864 (by decide +kernel) (by decide +kernel)
theorem tw_865 : Jvm.Cond.constantLong "Sharedair" (386 : Nat) (31 : Int64) ∈ TBg := tb_in 865 (by decide +kernel) (by decide +kernel)
theorem tw_866 : Jvm.Cond.methodLink "Sharedair" (362 : Nat) ({ cls := "Sharedair", name := "mixNode", desc := "(JI)J" } : Jvm.MethodName) ∈ TBg := tb_in 866 (by decide +kernel) (by decide +kernel)
theorem tw_868 : Jvm.Cond.instanceMethod ({ cls := "Sharedair", name := "mixNode", desc := "(JI)J" } : Jvm.MethodName) ∈ TBg := tb_in 868 (by decide +kernel) (by decide +kernel)
theorem tw_869 : Jvm.Cond.code ({ cls := "Sharedair", name := "mixNode", desc := "(JI)J" } : Jvm.MethodName) prog_1_method_26_code (8 : Nat) (Option.some Jvm.ClassFile.FieldType.long) ∈ TBg := tb_in 869 (by decide +kernel) (by decide +kernel)
theorem tw_870 : Jvm.Cond.methodLink "Sharedair" (377 : Nat) ({ cls := "Sharedair", name := "ofNode", desc := "(II)I" } : Jvm.MethodName) ∈ TBg := tb_in 870 (by decide +kernel) (by decide +kernel)
theorem tw_871 : Jvm.Cond.instanceMethod ({ cls := "Sharedair", name := "ofNode", desc := "(II)I" } : Jvm.MethodName) ∈ TBg := tb_in 871 (by decide +kernel) (by decide +kernel)
theorem tw_872 : Jvm.Cond.selects "Sharedair" ({ cls := "Sharedair", name := "ofNode", desc := "(II)I" } : Jvm.MethodName) ({ cls := "Sharedair", name := "ofNode", desc := "(II)I" } : Jvm.MethodName) ∈ TBg := tb_in 872 (by decide +kernel) (by decide +kernel)
theorem tw_873 : Jvm.Cond.code ({ cls := "Sharedair", name := "ofNode", desc := "(II)I" } : Jvm.MethodName) prog_1_method_12_code (4 : Nat) (Option.some Jvm.ClassFile.FieldType.int) ∈ TBg := tb_in 873 (by decide +kernel) (by decide +kernel)
theorem tw_874 : Jvm.Cond.methodLink "Sharedair" (72 : Nat) ({ cls := "Sharedair", name := "checkNode", desc := "(I)V" } : Jvm.MethodName) ∈ TBg := tb_in 874 (by decide +kernel) (by decide +kernel)
theorem tw_876 : Jvm.Cond.instanceMethod ({ cls := "Sharedair", name := "checkNode", desc := "(I)V" } : Jvm.MethodName) ∈ TBg := tb_in 876 (by decide +kernel) (by decide +kernel)
theorem tw_877 : Jvm.Cond.code ({ cls := "Sharedair", name := "checkNode", desc := "(I)V" } : Jvm.MethodName) prog_1_method_28_code (2 : Nat) (Option.none : Option Jvm.ClassFile.FieldType) ∈ TBg := tb_in 877 (by decide +kernel) (by decide +kernel)
theorem tw_878 : Jvm.Cond.methodLink "Sharedair" (388 : Nat) ({ cls := "Sharedair$Land", name := "isNode", desc := "(I)Z" } : Jvm.MethodName) ∈ TBg := tb_in 878 (by decide +kernel) (by decide +kernel)
theorem tw_879 : Jvm.Cond.classLink "Sharedair" (275 : Nat) "java/lang/IndexOutOfBoundsException" ∈ TBg := tb_in 879 (by decide +kernel) (by decide +kernel)
theorem tw_895 : Jvm.Cond.methodLink "Sharedair" (203 : Nat) ({ cls := "Sharedair$Land", name := "isSuspect", desc := "(I)Z" } : Jvm.MethodName) ∈ TBg := tb_in 895 (by decide +kernel) (by decide +kernel)
theorem tw_896 : Jvm.Cond.instanceMethod ({ cls := "Sharedair$Land", name := "isSuspect", desc := "(I)Z" } : Jvm.MethodName) ∈ TBg := tb_in 896 (by decide +kernel) (by decide +kernel)
theorem tw_897 : Jvm.Cond.selects "Sharedair$Land" ({ cls := "Sharedair$Land", name := "isSuspect", desc := "(I)Z" } : Jvm.MethodName) ({ cls := "Sharedair$Land", name := "isSuspect", desc := "(I)Z" } : Jvm.MethodName) ∈ TBg := tb_in 897 (by decide +kernel) (by decide +kernel)
theorem tw_898 : Jvm.Cond.code ({ cls := "Sharedair$Land", name := "isSuspect", desc := "(I)Z" } : Jvm.MethodName) prog_4_method_15_code (11 : Nat) (Option.some Jvm.ClassFile.FieldType.boolean) ∈ TBg := tb_in 898 (by decide +kernel) (by decide +kernel)
theorem tw_899 : Jvm.Cond.constantLong "Sharedair$Land" (79 : Nat) (3 : Int64) ∈ TBg := tb_in 899 (by decide +kernel) (by decide +kernel)
theorem tw_900 : Jvm.Cond.constantLong "Sharedair$Land" (81 : Nat) (4 : Int64) ∈ TBg := tb_in 900 (by decide +kernel) (by decide +kernel)
theorem tw_901 : Jvm.Cond.methodLink "Sharedair" (85 : Nat) ({ cls := "Sharedair$Land", name := "linkedWith", desc := "(I)I" } : Jvm.MethodName) ∈ TBg := tb_in 901 (by decide +kernel) (by decide +kernel)
theorem tw_902 : Jvm.Cond.instanceMethod ({ cls := "Sharedair$Land", name := "linkedWith", desc := "(I)I" } : Jvm.MethodName) ∈ TBg := tb_in 902 (by decide +kernel) (by decide +kernel)
theorem tw_903 : Jvm.Cond.selects "Sharedair$Land" ({ cls := "Sharedair$Land", name := "linkedWith", desc := "(I)I" } : Jvm.MethodName) ({ cls := "Sharedair$Land", name := "linkedWith", desc := "(I)I" } : Jvm.MethodName) ∈ TBg := tb_in 903 (by decide +kernel) (by decide +kernel)
theorem tw_904 : Jvm.Cond.code ({ cls := "Sharedair$Land", name := "linkedWith", desc := "(I)I" } : Jvm.MethodName) prog_4_method_11_code (4 : Nat) (Option.some Jvm.ClassFile.FieldType.int) ∈ TBg := tb_in 904 (by decide +kernel) (by decide +kernel)
theorem tw_905 : Jvm.Cond.methodLink "Sharedair$Land" (61 : Nat) ({ cls := "Sharedair$Land", name := "areLinked", desc := "(II)Z" } : Jvm.MethodName) ∈ TBg := tb_in 905 (by decide +kernel) (by decide +kernel)
theorem tw_906 : Jvm.Cond.instanceMethod ({ cls := "Sharedair$Land", name := "areLinked", desc := "(II)Z" } : Jvm.MethodName) ∈ TBg := tb_in 906 (by decide +kernel) (by decide +kernel)
theorem tw_907 : Jvm.Cond.selects "Sharedair$Land" ({ cls := "Sharedair$Land", name := "areLinked", desc := "(II)Z" } : Jvm.MethodName) ({ cls := "Sharedair$Land", name := "areLinked", desc := "(II)Z" } : Jvm.MethodName) ∈ TBg := tb_in 907 (by decide +kernel) (by decide +kernel)
theorem tw_908 : Jvm.Cond.code ({ cls := "Sharedair$Land", name := "areLinked", desc := "(II)Z" } : Jvm.MethodName) prog_4_method_10_code (3 : Nat) (Option.some Jvm.ClassFile.FieldType.boolean) ∈ TBg := tb_in 908 (by decide +kernel) (by decide +kernel)
theorem tw_909 : Jvm.Cond.methodLink "Sharedair$Land" (58 : Nat) ({ cls := "Sharedair$Land", name := "canHear", desc := "(II)Z" } : Jvm.MethodName) ∈ TBg := tb_in 909 (by decide +kernel) (by decide +kernel)
theorem tw_910 : Jvm.Cond.instanceMethod ({ cls := "Sharedair$Land", name := "canHear", desc := "(II)Z" } : Jvm.MethodName) ∈ TBg := tb_in 910 (by decide +kernel) (by decide +kernel)
theorem tw_911 : Jvm.Cond.selects "Sharedair$Land" ({ cls := "Sharedair$Land", name := "canHear", desc := "(II)Z" } : Jvm.MethodName) ({ cls := "Sharedair$Land", name := "canHear", desc := "(II)Z" } : Jvm.MethodName) ∈ TBg := tb_in 911 (by decide +kernel) (by decide +kernel)
theorem tw_912 : Jvm.Cond.code ({ cls := "Sharedair$Land", name := "canHear", desc := "(II)Z" } : Jvm.MethodName) prog_4_method_9_code (3 : Nat) (Option.some Jvm.ClassFile.FieldType.boolean) ∈ TBg := tb_in 912 (by decide +kernel) (by decide +kernel)
theorem tw_913 : Jvm.Cond.methodLink "Sharedair$Land" (50 : Nat) ({ cls := "Sharedair$Land", name := "isNode", desc := "(I)Z" } : Jvm.MethodName) ∈ TBg := tb_in 913 (by decide +kernel) (by decide +kernel)
theorem tw_915 : Jvm.Cond.methodLink "Sharedair" (380 : Nat) ({ cls := "Sharedair", name := "inQueue", desc := "(III)I" } : Jvm.MethodName) ∈ TBg := tb_in 915 (by decide +kernel) (by decide +kernel)
theorem tw_916 : Jvm.Cond.instanceMethod ({ cls := "Sharedair", name := "inQueue", desc := "(III)I" } : Jvm.MethodName) ∈ TBg := tb_in 916 (by decide +kernel) (by decide +kernel)
theorem tw_917 : Jvm.Cond.selects "Sharedair" ({ cls := "Sharedair", name := "inQueue", desc := "(III)I" } : Jvm.MethodName) ({ cls := "Sharedair", name := "inQueue", desc := "(III)I" } : Jvm.MethodName) ∈ TBg := tb_in 917 (by decide +kernel) (by decide +kernel)
theorem tw_918 : Jvm.Cond.code ({ cls := "Sharedair", name := "inQueue", desc := "(III)I" } : Jvm.MethodName) prog_1_method_13_code (5 : Nat) (Option.some Jvm.ClassFile.FieldType.int) ∈ TBg := tb_in 918 (by decide +kernel) (by decide +kernel)
theorem tw_919 : Jvm.Cond.methodLink "Sharedair" (109 : Nat) ({ cls := "Sharedair", name := "isWithin", desc := "(III)Z" } : Jvm.MethodName) ∈ TBg := tb_in 919 (by decide +kernel) (by decide +kernel)
theorem tw_921 : Jvm.Cond.methodLink "Sharedair" (210 : Nat) ({ cls := "Sharedair$FrameQueue", name := "at", desc := "(I)LSharedair$Frame;" } : Jvm.MethodName) ∈ TBg := tb_in 921 (by decide +kernel) (by decide +kernel)
theorem tw_922 : Jvm.Cond.instanceMethod ({ cls := "Sharedair$FrameQueue", name := "at", desc := "(I)LSharedair$Frame;" } : Jvm.MethodName) ∈ TBg := tb_in 922 (by decide +kernel) (by decide +kernel)
theorem tw_923 : Jvm.Cond.selects "Sharedair$FrameQueue" ({ cls := "Sharedair$FrameQueue", name := "at", desc := "(I)LSharedair$Frame;" } : Jvm.MethodName) ({ cls := "Sharedair$FrameQueue", name := "at", desc := "(I)LSharedair$Frame;" } : Jvm.MethodName) ∈ TBg := tb_in 923 (by decide +kernel) (by decide +kernel)
theorem tw_924 : Jvm.Cond.code ({ cls := "Sharedair$FrameQueue", name := "at", desc := "(I)LSharedair$Frame;" } : Jvm.MethodName) prog_3_method_2_code (2 : Nat) (Option.some (Jvm.ClassFile.FieldType.object "Sharedair$Frame")) ∈ TBg := tb_in 924 (by decide +kernel) (by decide +kernel)
theorem tw_925 : Jvm.Cond.methodLink "Sharedair" (383 : Nat) ({ cls := "Sharedair", name := "route", desc := "(III)I" } : Jvm.MethodName) ∈ TBg := tb_in 925 (by decide +kernel) (by decide +kernel)
theorem tw_926 : Jvm.Cond.instanceMethod ({ cls := "Sharedair", name := "route", desc := "(III)I" } : Jvm.MethodName) ∈ TBg := tb_in 926 (by decide +kernel) (by decide +kernel)
theorem tw_927 : Jvm.Cond.selects "Sharedair" ({ cls := "Sharedair", name := "route", desc := "(III)I" } : Jvm.MethodName) ({ cls := "Sharedair", name := "route", desc := "(III)I" } : Jvm.MethodName) ∈ TBg := tb_in 927 (by decide +kernel) (by decide +kernel)
theorem tw_928 : Jvm.Cond.code ({ cls := "Sharedair", name := "route", desc := "(III)I" } : Jvm.MethodName) prog_1_method_14_code (4 : Nat) (Option.some Jvm.ClassFile.FieldType.int) ∈ TBg := tb_in 928 (by decide +kernel) (by decide +kernel)
theorem tw_929 : Jvm.Cond.methodLink "Sharedair" (159 : Nat) ({ cls := "Sharedair", name := "checkPair", desc := "(II)V" } : Jvm.MethodName) ∈ TBg := tb_in 929 (by decide +kernel) (by decide +kernel)
theorem tw_931 : Jvm.Cond.instanceMethod ({ cls := "Sharedair", name := "checkPair", desc := "(II)V" } : Jvm.MethodName) ∈ TBg := tb_in 931 (by decide +kernel) (by decide +kernel)
theorem tw_932 : Jvm.Cond.code ({ cls := "Sharedair", name := "checkPair", desc := "(II)V" } : Jvm.MethodName) prog_1_method_29_code (3 : Nat) (Option.none : Option Jvm.ClassFile.FieldType) ∈ TBg := tb_in 932 (by decide +kernel) (by decide +kernel)
theorem tw_934 : Jvm.Cond.methodLink "Sharedair" (231 : Nat) ({ cls := "Sharedair$Routes", name := "costOf", desc := "(II)I" } : Jvm.MethodName) ∈ TBg := tb_in 934 (by decide +kernel) (by decide +kernel)
theorem tw_935 : Jvm.Cond.instanceMethod ({ cls := "Sharedair$Routes", name := "costOf", desc := "(II)I" } : Jvm.MethodName) ∈ TBg := tb_in 935 (by decide +kernel) (by decide +kernel)
theorem tw_936 : Jvm.Cond.selects "Sharedair$Routes" ({ cls := "Sharedair$Routes", name := "costOf", desc := "(II)I" } : Jvm.MethodName) ({ cls := "Sharedair$Routes", name := "costOf", desc := "(II)I" } : Jvm.MethodName) ∈ TBg := tb_in 936 (by decide +kernel) (by decide +kernel)
theorem tw_937 : Jvm.Cond.code ({ cls := "Sharedair$Routes", name := "costOf", desc := "(II)I" } : Jvm.MethodName) prog_8_method_2_code (3 : Nat) (Option.some Jvm.ClassFile.FieldType.int) ∈ TBg := tb_in 937 (by decide +kernel) (by decide +kernel)
theorem tw_938 : Jvm.Cond.methodLink "Sharedair" (235 : Nat) ({ cls := "Sharedair$Routes", name := "nextOf", desc := "(II)I" } : Jvm.MethodName) ∈ TBg := tb_in 938 (by decide +kernel) (by decide +kernel)
theorem tw_939 : Jvm.Cond.methodLink "Sharedair" (238 : Nat) ({ cls := "Sharedair$Routes", name := "wayLength", desc := "(II)I" } : Jvm.MethodName) ∈ TBg := tb_in 939 (by decide +kernel) (by decide +kernel)
theorem tw_940 : Jvm.Cond.instanceMethod ({ cls := "Sharedair$Routes", name := "wayLength", desc := "(II)I" } : Jvm.MethodName) ∈ TBg := tb_in 940 (by decide +kernel) (by decide +kernel)
theorem tw_941 : Jvm.Cond.selects "Sharedair$Routes" ({ cls := "Sharedair$Routes", name := "wayLength", desc := "(II)I" } : Jvm.MethodName) ({ cls := "Sharedair$Routes", name := "wayLength", desc := "(II)I" } : Jvm.MethodName) ∈ TBg := tb_in 941 (by decide +kernel) (by decide +kernel)
theorem tw_942 : Jvm.Cond.code ({ cls := "Sharedair$Routes", name := "wayLength", desc := "(II)I" } : Jvm.MethodName) prog_8_method_7_code (4 : Nat) (Option.some Jvm.ClassFile.FieldType.int) ∈ TBg := tb_in 942 (by decide +kernel) (by decide +kernel)
theorem tw_943 : Jvm.Cond.methodLink "Sharedair" (241 : Nat) ({ cls := "Sharedair$Routes", name := "hasCircle", desc := "(II)Z" } : Jvm.MethodName) ∈ TBg := tb_in 943 (by decide +kernel) (by decide +kernel)
theorem tw_945 : Jvm.Cond.constantDouble "Sharedair" (366 : Nat) (4661225614328463360 : UInt64) ∈ TBg := tb_in 945 (by decide +kernel) (by decide +kernel)
theorem tw_946 : Jvm.Cond.methodLink "Sharedair" (368 : Nat) ({ cls := "Sharedair", name := "auction", desc := "(I)I" } : Jvm.MethodName) ∈ TBg := tb_in 946 (by decide +kernel) (by decide +kernel)
theorem tw_947 : Jvm.Cond.instanceMethod ({ cls := "Sharedair", name := "auction", desc := "(I)I" } : Jvm.MethodName) ∈ TBg := tb_in 947 (by decide +kernel) (by decide +kernel)
theorem tw_948 : Jvm.Cond.selects "Sharedair" ({ cls := "Sharedair", name := "auction", desc := "(I)I" } : Jvm.MethodName) ({ cls := "Sharedair", name := "auction", desc := "(I)I" } : Jvm.MethodName) ∈ TBg := tb_in 948 (by decide +kernel) (by decide +kernel)
theorem tw_949 : Jvm.Cond.code ({ cls := "Sharedair", name := "auction", desc := "(I)I" } : Jvm.MethodName) prog_1_method_22_code (2 : Nat) (Option.some Jvm.ClassFile.FieldType.int) ∈ TBg := tb_in 949 (by decide +kernel) (by decide +kernel)
theorem tw_951 : Jvm.Cond.methodLink "Sharedair" (331 : Nat) ({ cls := "Sharedair$Market", name := "paidBy", desc := "(I)I" } : Jvm.MethodName) ∈ TBg := tb_in 951 (by decide +kernel) (by decide +kernel)
theorem tw_952 : Jvm.Cond.methodLink "Sharedair" (371 : Nat) ({ cls := "Sharedair", name := "cover", desc := "()I" } : Jvm.MethodName) ∈ TBg := tb_in 952 (by decide +kernel) (by decide +kernel)
theorem tw_953 : Jvm.Cond.methodLink "Sharedair" (374 : Nat) ({ cls := "Sharedair", name := "isSound", desc := "()Z" } : Jvm.MethodName) ∈ TBg := tb_in 953 (by decide +kernel) (by decide +kernel)
theorem tw_954 : Jvm.Cond.classLink "SharedairLaw" (14 : Nat) "SharedairLaw$Out" ∈ TBg := tb_in 954 (by decide +kernel) (by decide +kernel)
theorem tw_955 : Jvm.Cond.instantiable "SharedairLaw$Out" (2 : Nat) ∈ TBg := tb_in 955 (by decide +kernel) (by decide +kernel)
theorem tw_957 : Jvm.Cond.instanceMethod ({ cls := "SharedairLaw$Out", name := "<init>", desc := "()V" } : Jvm.MethodName) ∈ TBg := tb_in 957 (by decide +kernel) (by decide +kernel)
theorem tw_958 : Jvm.Cond.code ({ cls := "SharedairLaw$Out", name := "<init>", desc := "()V" } : Jvm.MethodName) prog_11_method_1_code (1 : Nat) (Option.none : Option Jvm.ClassFile.FieldType) ∈ TBg := tb_in 958 (by decide +kernel) (by decide +kernel)
theorem tw_959 : Jvm.Cond.methodLink "SharedairLaw$Out" (1 : Nat) ({ cls := "java/lang/Object", name := "<init>", desc := "()V" } : Jvm.MethodName) ∈ TBg := tb_in 959 (by decide +kernel) (by decide +kernel)
theorem tw_967 : Jvm.Cond.methodLink "SharedairLaw" (88 : Nat) ({ cls := "SharedairLaw", name := "node", desc := "(LSharedair;IIIZLSharedairLaw$Out;)I" } : Jvm.MethodName) ∈ TBg := tb_in 967 (by decide +kernel) (by decide +kernel)
theorem tw_968 : Jvm.Cond.static ({ cls := "SharedairLaw", name := "node", desc := "(LSharedair;IIIZLSharedairLaw$Out;)I" } : Jvm.MethodName) ∈ TBg := tb_in 968 (by decide +kernel) (by decide +kernel)
theorem tw_969 : Jvm.Cond.codeWith ({ cls := "SharedairLaw", name := "node", desc := "(LSharedair;IIIZLSharedairLaw$Out;)I" } : Jvm.MethodName) method_2_code (7 : Nat) (Option.some Jvm.ClassFile.FieldType.int) [((0 : Nat), (15 : Nat), (18 : Nat), (19 : Nat)), ((0 : Nat), (15 : Nat), (22 : Nat), (21 : Nat))] ∈ TBg := tb_in 969 (by decide +kernel) (by decide +kernel)
theorem tw_970 : Jvm.Cond.classLink "SharedairLaw" (19 : Nat) "java/lang/IllegalArgumentException" ∈ TBg := tb_in 970 (by decide +kernel) (by decide +kernel)
theorem tw_971 : Jvm.Cond.classLink "SharedairLaw" (21 : Nat) "java/lang/IllegalStateException" ∈ TBg := tb_in 971 (by decide +kernel) (by decide +kernel)
theorem tw_972 : Jvm.Cond.methodLink "SharedairLaw" (7 : Nat) ({ cls := "Sharedair", name := "node", desc := "(IIIZ)I" } : Jvm.MethodName) ∈ TBg := tb_in 972 (by decide +kernel) (by decide +kernel)
theorem tw_973 : Jvm.Cond.instanceMethod ({ cls := "Sharedair", name := "node", desc := "(IIIZ)I" } : Jvm.MethodName) ∈ TBg := tb_in 973 (by decide +kernel) (by decide +kernel)
theorem tw_974 : Jvm.Cond.selects "Sharedair" ({ cls := "Sharedair", name := "node", desc := "(IIIZ)I" } : Jvm.MethodName) ({ cls := "Sharedair", name := "node", desc := "(IIIZ)I" } : Jvm.MethodName) ∈ TBg := tb_in 974 (by decide +kernel) (by decide +kernel)
theorem tw_975 : Jvm.Cond.code ({ cls := "Sharedair", name := "node", desc := "(IIIZ)I" } : Jvm.MethodName) prog_1_method_2_code (5 : Nat) (Option.some Jvm.ClassFile.FieldType.int) ∈ TBg := tb_in 975 (by decide +kernel) (by decide +kernel)
theorem tw_976 : Jvm.Cond.methodLink "Sharedair" (45 : Nat) ({ cls := "Sharedair", name := "isPlace", desc := "(II)Z" } : Jvm.MethodName) ∈ TBg := tb_in 976 (by decide +kernel) (by decide +kernel)
theorem tw_977 : Jvm.Cond.static ({ cls := "Sharedair", name := "isPlace", desc := "(II)Z" } : Jvm.MethodName) ∈ TBg := tb_in 977 (by decide +kernel) (by decide +kernel)
theorem tw_978 : Jvm.Cond.code ({ cls := "Sharedair", name := "isPlace", desc := "(II)Z" } : Jvm.MethodName) prog_1_method_32_code (2 : Nat) (Option.some Jvm.ClassFile.FieldType.boolean) ∈ TBg := tb_in 978 (by decide +kernel) (by decide +kernel)
theorem tw_979 : Jvm.Cond.methodLink "Sharedair" (49 : Nat) ({ cls := "Sharedair", name := "isReach", desc := "(I)Z" } : Jvm.MethodName) ∈ TBg := tb_in 979 (by decide +kernel) (by decide +kernel)
theorem tw_980 : Jvm.Cond.static ({ cls := "Sharedair", name := "isReach", desc := "(I)Z" } : Jvm.MethodName) ∈ TBg := tb_in 980 (by decide +kernel) (by decide +kernel)
theorem tw_981 : Jvm.Cond.code ({ cls := "Sharedair", name := "isReach", desc := "(I)Z" } : Jvm.MethodName) prog_1_method_33_code (1 : Nat) (Option.some Jvm.ClassFile.FieldType.boolean) ∈ TBg := tb_in 981 (by decide +kernel) (by decide +kernel)
theorem tw_983 : Jvm.Cond.classLink "Sharedair" (63 : Nat) "java/lang/IllegalStateException" ∈ TBg := tb_in 983 (by decide +kernel) (by decide +kernel)
theorem tw_999 : Jvm.Cond.methodLink "Sharedair" (68 : Nat) ({ cls := "Sharedair$Land", name := "add", desc := "(IIIZ)I" } : Jvm.MethodName) ∈ TBg := tb_in 999 (by decide +kernel) (by decide +kernel)
theorem tw_1000 : Jvm.Cond.instanceMethod ({ cls := "Sharedair$Land", name := "add", desc := "(IIIZ)I" } : Jvm.MethodName) ∈ TBg := tb_in 1000 (by decide +kernel) (by decide +kernel)
theorem tw_1001 : Jvm.Cond.selects "Sharedair$Land" ({ cls := "Sharedair$Land", name := "add", desc := "(IIIZ)I" } : Jvm.MethodName) ({ cls := "Sharedair$Land", name := "add", desc := "(IIIZ)I" } : Jvm.MethodName) ∈ TBg := tb_in 1001 (by decide +kernel) (by decide +kernel)
theorem tw_1002 : Jvm.Cond.code ({ cls := "Sharedair$Land", name := "add", desc := "(IIIZ)I" } : Jvm.MethodName) prog_4_method_4_code (6 : Nat) (Option.some Jvm.ClassFile.FieldType.int) ∈ TBg := tb_in 1002 (by decide +kernel) (by decide +kernel)
theorem tw_1003 : Jvm.Cond.methodLink "Sharedair$Land" (32 : Nat) ({ cls := "Sharedair$Land", name := "adjust", desc := "(IIZ)V" } : Jvm.MethodName) ∈ TBg := tb_in 1003 (by decide +kernel) (by decide +kernel)
theorem tw_1004 : Jvm.Cond.instanceMethod ({ cls := "Sharedair$Land", name := "adjust", desc := "(IIZ)V" } : Jvm.MethodName) ∈ TBg := tb_in 1004 (by decide +kernel) (by decide +kernel)
theorem tw_1005 : Jvm.Cond.selects "Sharedair$Land" ({ cls := "Sharedair$Land", name := "adjust", desc := "(IIZ)V" } : Jvm.MethodName) ({ cls := "Sharedair$Land", name := "adjust", desc := "(IIZ)V" } : Jvm.MethodName) ∈ TBg := tb_in 1005 (by decide +kernel) (by decide +kernel)
theorem tw_1006 : Jvm.Cond.code ({ cls := "Sharedair$Land", name := "adjust", desc := "(IIZ)V" } : Jvm.MethodName) prog_4_method_6_code (4 : Nat) (Option.none : Option Jvm.ClassFile.FieldType) ∈ TBg := tb_in 1006 (by decide +kernel) (by decide +kernel)
theorem tw_1007 : Jvm.Cond.methodLink "Sharedair$Land" (36 : Nat) ({ cls := "Sharedair$Land", name := "findHearers", desc := "()V" } : Jvm.MethodName) ∈ TBg := tb_in 1007 (by decide +kernel) (by decide +kernel)
theorem tw_1009 : Jvm.Cond.instanceMethod ({ cls := "Sharedair$Land", name := "findHearers", desc := "()V" } : Jvm.MethodName) ∈ TBg := tb_in 1009 (by decide +kernel) (by decide +kernel)
theorem tw_1010 : Jvm.Cond.code ({ cls := "Sharedair$Land", name := "findHearers", desc := "()V" } : Jvm.MethodName) prog_4_method_7_code (4 : Nat) (Option.none : Option Jvm.ClassFile.FieldType) ∈ TBg := tb_in 1010 (by decide +kernel) (by decide +kernel)
theorem tw_1011 : Jvm.Cond.methodLink "Sharedair$Land" (46 : Nat) ({ cls := "Sharedair$Land", name := "far", desc := "(II)I" } : Jvm.MethodName) ∈ TBg := tb_in 1011 (by decide +kernel) (by decide +kernel)
theorem tw_1012 : Jvm.Cond.instanceMethod ({ cls := "Sharedair$Land", name := "far", desc := "(II)I" } : Jvm.MethodName) ∈ TBg := tb_in 1012 (by decide +kernel) (by decide +kernel)
theorem tw_1013 : Jvm.Cond.selects "Sharedair$Land" ({ cls := "Sharedair$Land", name := "far", desc := "(II)I" } : Jvm.MethodName) ({ cls := "Sharedair$Land", name := "far", desc := "(II)I" } : Jvm.MethodName) ∈ TBg := tb_in 1013 (by decide +kernel) (by decide +kernel)
theorem tw_1014 : Jvm.Cond.code ({ cls := "Sharedair$Land", name := "far", desc := "(II)I" } : Jvm.MethodName) prog_4_method_8_code (5 : Nat) (Option.some Jvm.ClassFile.FieldType.int) ∈ TBg := tb_in 1014 (by decide +kernel) (by decide +kernel)
theorem tw_1015 : Jvm.Cond.methodLink "SharedairLaw" (98 : Nat) ({ cls := "SharedairLaw", name := "move", desc := "(LSharedair;IIILSharedairLaw$Out;)I" } : Jvm.MethodName) ∈ TBg := tb_in 1015 (by decide +kernel) (by decide +kernel)
theorem tw_1016 : Jvm.Cond.static ({ cls := "SharedairLaw", name := "move", desc := "(LSharedair;IIILSharedairLaw$Out;)I" } : Jvm.MethodName) ∈ TBg := tb_in 1016 (by decide +kernel) (by decide +kernel)
theorem tw_1017 : Jvm.Cond.codeWith ({ cls := "SharedairLaw", name := "move", desc := "(LSharedair;IIILSharedairLaw$Out;)I" } : Jvm.MethodName) method_3_code (6 : Nat) (Option.some Jvm.ClassFile.FieldType.int) [((0 : Nat), (13 : Nat), (16 : Nat), (27 : Nat)), ((0 : Nat), (13 : Nat), (20 : Nat), (19 : Nat)), ((0 : Nat), (13 : Nat), (24 : Nat), (21 : Nat))] ∈ TBg := tb_in 1017 (by decide +kernel) (by decide +kernel)
theorem tw_1018 : Jvm.Cond.classLink "SharedairLaw" (27 : Nat) "java/lang/IndexOutOfBoundsException" ∈ TBg := tb_in 1018 (by decide +kernel) (by decide +kernel)
theorem tw_1019 : Jvm.Cond.methodLink "SharedairLaw" (23 : Nat) ({ cls := "Sharedair", name := "move", desc := "(III)I" } : Jvm.MethodName) ∈ TBg := tb_in 1019 (by decide +kernel) (by decide +kernel)
theorem tw_1020 : Jvm.Cond.instanceMethod ({ cls := "Sharedair", name := "move", desc := "(III)I" } : Jvm.MethodName) ∈ TBg := tb_in 1020 (by decide +kernel) (by decide +kernel)
theorem tw_1021 : Jvm.Cond.selects "Sharedair" ({ cls := "Sharedair", name := "move", desc := "(III)I" } : Jvm.MethodName) ({ cls := "Sharedair", name := "move", desc := "(III)I" } : Jvm.MethodName) ∈ TBg := tb_in 1021 (by decide +kernel) (by decide +kernel)
theorem tw_1022 : Jvm.Cond.code ({ cls := "Sharedair", name := "move", desc := "(III)I" } : Jvm.MethodName) prog_1_method_3_code (4 : Nat) (Option.some Jvm.ClassFile.FieldType.int) ∈ TBg := tb_in 1022 (by decide +kernel) (by decide +kernel)
theorem tw_1024 : Jvm.Cond.methodLink "Sharedair" (78 : Nat) ({ cls := "Sharedair", name := "checkSilent", desc := "(I)V" } : Jvm.MethodName) ∈ TBg := tb_in 1024 (by decide +kernel) (by decide +kernel)
theorem tw_1026 : Jvm.Cond.instanceMethod ({ cls := "Sharedair", name := "checkSilent", desc := "(I)V" } : Jvm.MethodName) ∈ TBg := tb_in 1026 (by decide +kernel) (by decide +kernel)
theorem tw_1027 : Jvm.Cond.code ({ cls := "Sharedair", name := "checkSilent", desc := "(I)V" } : Jvm.MethodName) prog_1_method_30_code (2 : Nat) (Option.none : Option Jvm.ClassFile.FieldType) ∈ TBg := tb_in 1027 (by decide +kernel) (by decide +kernel)
theorem tw_1028 : Jvm.Cond.methodLink "Sharedair" (395 : Nat) ({ cls := "Sharedair$Node", name := "isSending", desc := "()Z" } : Jvm.MethodName) ∈ TBg := tb_in 1028 (by decide +kernel) (by decide +kernel)
theorem tw_1030 : Jvm.Cond.methodLink "Sharedair" (81 : Nat) ({ cls := "Sharedair$Land", name := "put", desc := "(III)V" } : Jvm.MethodName) ∈ TBg := tb_in 1030 (by decide +kernel) (by decide +kernel)
theorem tw_1031 : Jvm.Cond.instanceMethod ({ cls := "Sharedair$Land", name := "put", desc := "(III)V" } : Jvm.MethodName) ∈ TBg := tb_in 1031 (by decide +kernel) (by decide +kernel)
theorem tw_1032 : Jvm.Cond.selects "Sharedair$Land" ({ cls := "Sharedair$Land", name := "put", desc := "(III)V" } : Jvm.MethodName) ({ cls := "Sharedair$Land", name := "put", desc := "(III)V" } : Jvm.MethodName) ∈ TBg := tb_in 1032 (by decide +kernel) (by decide +kernel)
theorem tw_1033 : Jvm.Cond.code ({ cls := "Sharedair$Land", name := "put", desc := "(III)V" } : Jvm.MethodName) prog_4_method_5_code (4 : Nat) (Option.none : Option Jvm.ClassFile.FieldType) ∈ TBg := tb_in 1033 (by decide +kernel) (by decide +kernel)
theorem tw_1034 : Jvm.Cond.methodLink "SharedairLaw" (102 : Nat) ({ cls := "SharedairLaw", name := "tune", desc := "(LSharedair;IIZLSharedairLaw$Out;)I" } : Jvm.MethodName) ∈ TBg := tb_in 1034 (by decide +kernel) (by decide +kernel)
theorem tw_1035 : Jvm.Cond.static ({ cls := "SharedairLaw", name := "tune", desc := "(LSharedair;IIZLSharedairLaw$Out;)I" } : Jvm.MethodName) ∈ TBg := tb_in 1035 (by decide +kernel) (by decide +kernel)
theorem tw_1036 : Jvm.Cond.codeWith ({ cls := "SharedairLaw", name := "tune", desc := "(LSharedair;IIZLSharedairLaw$Out;)I" } : Jvm.MethodName) method_4_code (6 : Nat) (Option.some Jvm.ClassFile.FieldType.int) [((0 : Nat), (13 : Nat), (16 : Nat), (27 : Nat)), ((0 : Nat), (13 : Nat), (20 : Nat), (19 : Nat)), ((0 : Nat), (13 : Nat), (24 : Nat), (21 : Nat))] ∈ TBg := tb_in 1036 (by decide +kernel) (by decide +kernel)
theorem tw_1037 : Jvm.Cond.methodLink "SharedairLaw" (29 : Nat) ({ cls := "Sharedair", name := "tune", desc := "(IIZ)I" } : Jvm.MethodName) ∈ TBg := tb_in 1037 (by decide +kernel) (by decide +kernel)
theorem tw_1038 : Jvm.Cond.instanceMethod ({ cls := "Sharedair", name := "tune", desc := "(IIZ)I" } : Jvm.MethodName) ∈ TBg := tb_in 1038 (by decide +kernel) (by decide +kernel)
theorem tw_1039 : Jvm.Cond.selects "Sharedair" ({ cls := "Sharedair", name := "tune", desc := "(IIZ)I" } : Jvm.MethodName) ({ cls := "Sharedair", name := "tune", desc := "(IIZ)I" } : Jvm.MethodName) ∈ TBg := tb_in 1039 (by decide +kernel) (by decide +kernel)
theorem tw_1040 : Jvm.Cond.code ({ cls := "Sharedair", name := "tune", desc := "(IIZ)I" } : Jvm.MethodName) prog_1_method_4_code (5 : Nat) (Option.some Jvm.ClassFile.FieldType.int) ∈ TBg := tb_in 1040 (by decide +kernel) (by decide +kernel)
theorem tw_1042 : Jvm.Cond.methodLink "Sharedair" (105 : Nat) ({ cls := "Sharedair$Land", name := "adjust", desc := "(IIZ)V" } : Jvm.MethodName) ∈ TBg := tb_in 1042 (by decide +kernel) (by decide +kernel)
theorem tw_1043 : Jvm.Cond.methodLink "SharedairLaw" (106 : Nat) ({ cls := "SharedairLaw", name := "send", desc := "(LSharedair;IIILSharedairLaw$Out;)I" } : Jvm.MethodName) ∈ TBg := tb_in 1043 (by decide +kernel) (by decide +kernel)
theorem tw_1044 : Jvm.Cond.static ({ cls := "SharedairLaw", name := "send", desc := "(LSharedair;IIILSharedairLaw$Out;)I" } : Jvm.MethodName) ∈ TBg := tb_in 1044 (by decide +kernel) (by decide +kernel)
theorem tw_1045 : Jvm.Cond.codeWith ({ cls := "SharedairLaw", name := "send", desc := "(LSharedair;IIILSharedairLaw$Out;)I" } : Jvm.MethodName) method_5_code (6 : Nat) (Option.some Jvm.ClassFile.FieldType.int) [((0 : Nat), (13 : Nat), (16 : Nat), (27 : Nat)), ((0 : Nat), (13 : Nat), (20 : Nat), (19 : Nat)), ((0 : Nat), (13 : Nat), (24 : Nat), (21 : Nat))] ∈ TBg := tb_in 1045 (by decide +kernel) (by decide +kernel)
theorem tw_1046 : Jvm.Cond.methodLink "SharedairLaw" (33 : Nat) ({ cls := "Sharedair", name := "send", desc := "(III)I" } : Jvm.MethodName) ∈ TBg := tb_in 1046 (by decide +kernel) (by decide +kernel)
theorem tw_1047 : Jvm.Cond.instanceMethod ({ cls := "Sharedair", name := "send", desc := "(III)I" } : Jvm.MethodName) ∈ TBg := tb_in 1047 (by decide +kernel) (by decide +kernel)
theorem tw_1048 : Jvm.Cond.selects "Sharedair" ({ cls := "Sharedair", name := "send", desc := "(III)I" } : Jvm.MethodName) ({ cls := "Sharedair", name := "send", desc := "(III)I" } : Jvm.MethodName) ∈ TBg := tb_in 1048 (by decide +kernel) (by decide +kernel)
theorem tw_1049 : Jvm.Cond.code ({ cls := "Sharedair", name := "send", desc := "(III)I" } : Jvm.MethodName) prog_1_method_5_code (6 : Nat) (Option.some Jvm.ClassFile.FieldType.int) ∈ TBg := tb_in 1049 (by decide +kernel) (by decide +kernel)
theorem tw_1051 : Jvm.Cond.methodLink "Sharedair" (122 : Nat) ({ cls := "Sharedair$FrameQueue", name := "add", desc := "(IIIII)Z" } : Jvm.MethodName) ∈ TBg := tb_in 1051 (by decide +kernel) (by decide +kernel)
theorem tw_1052 : Jvm.Cond.instanceMethod ({ cls := "Sharedair$FrameQueue", name := "add", desc := "(IIIII)Z" } : Jvm.MethodName) ∈ TBg := tb_in 1052 (by decide +kernel) (by decide +kernel)
theorem tw_1053 : Jvm.Cond.selects "Sharedair$FrameQueue" ({ cls := "Sharedair$FrameQueue", name := "add", desc := "(IIIII)Z" } : Jvm.MethodName) ({ cls := "Sharedair$FrameQueue", name := "add", desc := "(IIIII)Z" } : Jvm.MethodName) ∈ TBg := tb_in 1053 (by decide +kernel) (by decide +kernel)
theorem tw_1054 : Jvm.Cond.code ({ cls := "Sharedair$FrameQueue", name := "add", desc := "(IIIII)Z" } : Jvm.MethodName) prog_3_method_3_code (7 : Nat) (Option.some Jvm.ClassFile.FieldType.boolean) ∈ TBg := tb_in 1054 (by decide +kernel) (by decide +kernel)
theorem tw_1056 : Jvm.Cond.methodLink "SharedairLaw" (109 : Nat) ({ cls := "SharedairLaw", name := "pass", desc := "(LSharedair;ILSharedairLaw$Out;)I" } : Jvm.MethodName) ∈ TBg := tb_in 1056 (by decide +kernel) (by decide +kernel)
theorem tw_1057 : Jvm.Cond.static ({ cls := "SharedairLaw", name := "pass", desc := "(LSharedair;ILSharedairLaw$Out;)I" } : Jvm.MethodName) ∈ TBg := tb_in 1057 (by decide +kernel) (by decide +kernel)
theorem tw_1058 : Jvm.Cond.codeWith ({ cls := "SharedairLaw", name := "pass", desc := "(LSharedair;ILSharedairLaw$Out;)I" } : Jvm.MethodName) method_6_code (4 : Nat) (Option.some Jvm.ClassFile.FieldType.int) [((0 : Nat), (10 : Nat), (13 : Nat), (19 : Nat)), ((0 : Nat), (10 : Nat), (16 : Nat), (21 : Nat))] ∈ TBg := tb_in 1058 (by decide +kernel) (by decide +kernel)
theorem tw_1059 : Jvm.Cond.methodLink "SharedairLaw" (36 : Nat) ({ cls := "Sharedair", name := "pass", desc := "(I)I" } : Jvm.MethodName) ∈ TBg := tb_in 1059 (by decide +kernel) (by decide +kernel)
theorem tw_1060 : Jvm.Cond.instanceMethod ({ cls := "Sharedair", name := "pass", desc := "(I)I" } : Jvm.MethodName) ∈ TBg := tb_in 1060 (by decide +kernel) (by decide +kernel)
theorem tw_1061 : Jvm.Cond.selects "Sharedair" ({ cls := "Sharedair", name := "pass", desc := "(I)I" } : Jvm.MethodName) ({ cls := "Sharedair", name := "pass", desc := "(I)I" } : Jvm.MethodName) ∈ TBg := tb_in 1061 (by decide +kernel) (by decide +kernel)
theorem tw_1062 : Jvm.Cond.code ({ cls := "Sharedair", name := "pass", desc := "(I)I" } : Jvm.MethodName) prog_1_method_6_code (3 : Nat) (Option.some Jvm.ClassFile.FieldType.int) ∈ TBg := tb_in 1062 (by decide +kernel) (by decide +kernel)
theorem tw_1065 : Jvm.Cond.methodLink "Sharedair" (136 : Nat) ({ cls := "Sharedair$Traffic", name := "goBy", desc := "()V" } : Jvm.MethodName) ∈ TBg := tb_in 1065 (by decide +kernel) (by decide +kernel)
theorem tw_1066 : Jvm.Cond.instanceMethod ({ cls := "Sharedair$Traffic", name := "goBy", desc := "()V" } : Jvm.MethodName) ∈ TBg := tb_in 1066 (by decide +kernel) (by decide +kernel)
theorem tw_1067 : Jvm.Cond.selects "Sharedair$Traffic" ({ cls := "Sharedair$Traffic", name := "goBy", desc := "()V" } : Jvm.MethodName) ({ cls := "Sharedair$Traffic", name := "goBy", desc := "()V" } : Jvm.MethodName) ∈ TBg := tb_in 1067 (by decide +kernel) (by decide +kernel)
theorem tw_1068 : Jvm.Cond.code ({ cls := "Sharedair$Traffic", name := "goBy", desc := "()V" } : Jvm.MethodName) prog_9_method_3_code (4 : Nat) (Option.none : Option Jvm.ClassFile.FieldType) ∈ TBg := tb_in 1068 (by decide +kernel) (by decide +kernel)
theorem tw_1069 : Jvm.Cond.methodLink "Sharedair$Traffic" (50 : Nat) ({ cls := "Sharedair$Traffic", name := "senders", desc := "()I" } : Jvm.MethodName) ∈ TBg := tb_in 1069 (by decide +kernel) (by decide +kernel)
theorem tw_1071 : Jvm.Cond.methodLink "Sharedair$Traffic" (58 : Nat) ({ cls := "Sharedair$Land", name := "hearsOneOf", desc := "(II)Z" } : Jvm.MethodName) ∈ TBg := tb_in 1071 (by decide +kernel) (by decide +kernel)
theorem tw_1072 : Jvm.Cond.instanceMethod ({ cls := "Sharedair$Land", name := "hearsOneOf", desc := "(II)Z" } : Jvm.MethodName) ∈ TBg := tb_in 1072 (by decide +kernel) (by decide +kernel)
theorem tw_1073 : Jvm.Cond.selects "Sharedair$Land" ({ cls := "Sharedair$Land", name := "hearsOneOf", desc := "(II)Z" } : Jvm.MethodName) ({ cls := "Sharedair$Land", name := "hearsOneOf", desc := "(II)Z" } : Jvm.MethodName) ∈ TBg := tb_in 1073 (by decide +kernel) (by decide +kernel)
theorem tw_1074 : Jvm.Cond.code ({ cls := "Sharedair$Land", name := "hearsOneOf", desc := "(II)Z" } : Jvm.MethodName) prog_4_method_12_code (4 : Nat) (Option.some Jvm.ClassFile.FieldType.boolean) ∈ TBg := tb_in 1074 (by decide +kernel) (by decide +kernel)
theorem tw_1075 : Jvm.Cond.methodLink "Sharedair$Traffic" (61 : Nat) ({ cls := "Sharedair$Traffic", name := "takeTurn", desc := "(I)V" } : Jvm.MethodName) ∈ TBg := tb_in 1075 (by decide +kernel) (by decide +kernel)
theorem tw_1077 : Jvm.Cond.instanceMethod ({ cls := "Sharedair$Traffic", name := "takeTurn", desc := "(I)V" } : Jvm.MethodName) ∈ TBg := tb_in 1077 (by decide +kernel) (by decide +kernel)
theorem tw_1078 : Jvm.Cond.code ({ cls := "Sharedair$Traffic", name := "takeTurn", desc := "(I)V" } : Jvm.MethodName) prog_9_method_4_code (5 : Nat) (Option.none : Option Jvm.ClassFile.FieldType) ∈ TBg := tb_in 1078 (by decide +kernel) (by decide +kernel)
theorem tw_1079 : Jvm.Cond.methodLink "Sharedair$Traffic" (76 : Nat) ({ cls := "Sharedair$FrameQueue", name := "at", desc := "(I)LSharedair$Frame;" } : Jvm.MethodName) ∈ TBg := tb_in 1079 (by decide +kernel) (by decide +kernel)
theorem tw_1080 : Jvm.Cond.methodLink "Sharedair$Traffic" (90 : Nat) ({ cls := "Sharedair$Routes", name := "nextOf", desc := "(II)I" } : Jvm.MethodName) ∈ TBg := tb_in 1080 (by decide +kernel) (by decide +kernel)
theorem tw_1081 : Jvm.Cond.methodLink "Sharedair$Traffic" (96 : Nat) ({ cls := "Sharedair$Traffic", name := "dropFirst", desc := "(LSharedair$Node;)V" } : Jvm.MethodName) ∈ TBg := tb_in 1081 (by decide +kernel) (by decide +kernel)
theorem tw_1083 : Jvm.Cond.instanceMethod ({ cls := "Sharedair$Traffic", name := "dropFirst", desc := "(LSharedair$Node;)V" } : Jvm.MethodName) ∈ TBg := tb_in 1083 (by decide +kernel) (by decide +kernel)
theorem tw_1084 : Jvm.Cond.code ({ cls := "Sharedair$Traffic", name := "dropFirst", desc := "(LSharedair$Node;)V" } : Jvm.MethodName) prog_9_method_11_code (2 : Nat) (Option.none : Option Jvm.ClassFile.FieldType) ∈ TBg := tb_in 1084 (by decide +kernel) (by decide +kernel)
theorem tw_1085 : Jvm.Cond.methodLink "Sharedair$Traffic" (134 : Nat) ({ cls := "Sharedair$Node", name := "finishFirst", desc := "()V" } : Jvm.MethodName) ∈ TBg := tb_in 1085 (by decide +kernel) (by decide +kernel)
theorem tw_1086 : Jvm.Cond.instanceMethod ({ cls := "Sharedair$Node", name := "finishFirst", desc := "()V" } : Jvm.MethodName) ∈ TBg := tb_in 1086 (by decide +kernel) (by decide +kernel)
theorem tw_1087 : Jvm.Cond.selects "Sharedair$Node" ({ cls := "Sharedair$Node", name := "finishFirst", desc := "()V" } : Jvm.MethodName) ({ cls := "Sharedair$Node", name := "finishFirst", desc := "()V" } : Jvm.MethodName) ∈ TBg := tb_in 1087 (by decide +kernel) (by decide +kernel)
theorem tw_1088 : Jvm.Cond.code ({ cls := "Sharedair$Node", name := "finishFirst", desc := "()V" } : Jvm.MethodName) prog_6_method_4_code (1 : Nat) (Option.none : Option Jvm.ClassFile.FieldType) ∈ TBg := tb_in 1088 (by decide +kernel) (by decide +kernel)
theorem tw_1089 : Jvm.Cond.methodLink "Sharedair$Node" (69 : Nat) ({ cls := "Sharedair$FrameQueue", name := "removeFirst", desc := "()V" } : Jvm.MethodName) ∈ TBg := tb_in 1089 (by decide +kernel) (by decide +kernel)
theorem tw_1090 : Jvm.Cond.instanceMethod ({ cls := "Sharedair$FrameQueue", name := "removeFirst", desc := "()V" } : Jvm.MethodName) ∈ TBg := tb_in 1090 (by decide +kernel) (by decide +kernel)
theorem tw_1091 : Jvm.Cond.selects "Sharedair$FrameQueue" ({ cls := "Sharedair$FrameQueue", name := "removeFirst", desc := "()V" } : Jvm.MethodName) ({ cls := "Sharedair$FrameQueue", name := "removeFirst", desc := "()V" } : Jvm.MethodName) ∈ TBg := tb_in 1091 (by decide +kernel) (by decide +kernel)
theorem tw_1092 : Jvm.Cond.code ({ cls := "Sharedair$FrameQueue", name := "removeFirst", desc := "()V" } : Jvm.MethodName) prog_3_method_4_code (3 : Nat) (Option.none : Option Jvm.ClassFile.FieldType) ∈ TBg := tb_in 1092 (by decide +kernel) (by decide +kernel)
theorem tw_1093 : Jvm.Cond.methodLink "Sharedair$Traffic" (103 : Nat) ({ cls := "Sharedair$Node", name := "begin", desc := "(II)V" } : Jvm.MethodName) ∈ TBg := tb_in 1093 (by decide +kernel) (by decide +kernel)
theorem tw_1094 : Jvm.Cond.instanceMethod ({ cls := "Sharedair$Node", name := "begin", desc := "(II)V" } : Jvm.MethodName) ∈ TBg := tb_in 1094 (by decide +kernel) (by decide +kernel)
theorem tw_1095 : Jvm.Cond.selects "Sharedair$Node" ({ cls := "Sharedair$Node", name := "begin", desc := "(II)V" } : Jvm.MethodName) ({ cls := "Sharedair$Node", name := "begin", desc := "(II)V" } : Jvm.MethodName) ∈ TBg := tb_in 1095 (by decide +kernel) (by decide +kernel)
theorem tw_1096 : Jvm.Cond.code ({ cls := "Sharedair$Node", name := "begin", desc := "(II)V" } : Jvm.MethodName) prog_6_method_3_code (3 : Nat) (Option.none : Option Jvm.ClassFile.FieldType) ∈ TBg := tb_in 1096 (by decide +kernel) (by decide +kernel)
theorem tw_1097 : Jvm.Cond.methodLink "Sharedair$Traffic" (65 : Nat) ({ cls := "Sharedair$Traffic", name := "goOn", desc := "(II)V" } : Jvm.MethodName) ∈ TBg := tb_in 1097 (by decide +kernel) (by decide +kernel)
theorem tw_1099 : Jvm.Cond.instanceMethod ({ cls := "Sharedair$Traffic", name := "goOn", desc := "(II)V" } : Jvm.MethodName) ∈ TBg := tb_in 1099 (by decide +kernel) (by decide +kernel)
theorem tw_1100 : Jvm.Cond.code ({ cls := "Sharedair$Traffic", name := "goOn", desc := "(II)V" } : Jvm.MethodName) prog_9_method_5_code (4 : Nat) (Option.none : Option Jvm.ClassFile.FieldType) ∈ TBg := tb_in 1100 (by decide +kernel) (by decide +kernel)
theorem tw_1101 : Jvm.Cond.methodLink "Sharedair$Traffic" (115 : Nat) ({ cls := "Sharedair$Land", name := "isNode", desc := "(I)Z" } : Jvm.MethodName) ∈ TBg := tb_in 1101 (by decide +kernel) (by decide +kernel)
theorem tw_1102 : Jvm.Cond.methodLink "Sharedair$Traffic" (119 : Nat) ({ cls := "Sharedair$Land", name := "gets", desc := "(III)Z" } : Jvm.MethodName) ∈ TBg := tb_in 1102 (by decide +kernel) (by decide +kernel)
theorem tw_1103 : Jvm.Cond.instanceMethod ({ cls := "Sharedair$Land", name := "gets", desc := "(III)Z" } : Jvm.MethodName) ∈ TBg := tb_in 1103 (by decide +kernel) (by decide +kernel)
theorem tw_1104 : Jvm.Cond.selects "Sharedair$Land" ({ cls := "Sharedair$Land", name := "gets", desc := "(III)Z" } : Jvm.MethodName) ({ cls := "Sharedair$Land", name := "gets", desc := "(III)Z" } : Jvm.MethodName) ∈ TBg := tb_in 1104 (by decide +kernel) (by decide +kernel)
theorem tw_1105 : Jvm.Cond.code ({ cls := "Sharedair$Land", name := "gets", desc := "(III)Z" } : Jvm.MethodName) prog_4_method_13_code (7 : Nat) (Option.some Jvm.ClassFile.FieldType.boolean) ∈ TBg := tb_in 1105 (by decide +kernel) (by decide +kernel)
theorem tw_1106 : Jvm.Cond.methodLink "Sharedair$Traffic" (69 : Nat) ({ cls := "Sharedair$Traffic", name := "end", desc := "(I)V" } : Jvm.MethodName) ∈ TBg := tb_in 1106 (by decide +kernel) (by decide +kernel)
theorem tw_1108 : Jvm.Cond.instanceMethod ({ cls := "Sharedair$Traffic", name := "end", desc := "(I)V" } : Jvm.MethodName) ∈ TBg := tb_in 1108 (by decide +kernel) (by decide +kernel)
theorem tw_1109 : Jvm.Cond.code ({ cls := "Sharedair$Traffic", name := "end", desc := "(I)V" } : Jvm.MethodName) prog_9_method_6_code (5 : Nat) (Option.none : Option Jvm.ClassFile.FieldType) ∈ TBg := tb_in 1109 (by decide +kernel) (by decide +kernel)
theorem tw_1110 : Jvm.Cond.methodLink "Sharedair$Traffic" (127 : Nat) ({ cls := "Sharedair$Traffic", name := "receive", desc := "(ILSharedair$Frame;)V" } : Jvm.MethodName) ∈ TBg := tb_in 1110 (by decide +kernel) (by decide +kernel)
theorem tw_1112 : Jvm.Cond.instanceMethod ({ cls := "Sharedair$Traffic", name := "receive", desc := "(ILSharedair$Frame;)V" } : Jvm.MethodName) ∈ TBg := tb_in 1112 (by decide +kernel) (by decide +kernel)
theorem tw_1113 : Jvm.Cond.code ({ cls := "Sharedair$Traffic", name := "receive", desc := "(ILSharedair$Frame;)V" } : Jvm.MethodName) prog_9_method_8_code (3 : Nat) (Option.none : Option Jvm.ClassFile.FieldType) ∈ TBg := tb_in 1113 (by decide +kernel) (by decide +kernel)
theorem tw_1114 : Jvm.Cond.methodLink "Sharedair$Traffic" (153 : Nat) ({ cls := "Sharedair$Traffic", name := "arrive", desc := "(LSharedair$Frame;)V" } : Jvm.MethodName) ∈ TBg := tb_in 1114 (by decide +kernel) (by decide +kernel)
theorem tw_1116 : Jvm.Cond.instanceMethod ({ cls := "Sharedair$Traffic", name := "arrive", desc := "(LSharedair$Frame;)V" } : Jvm.MethodName) ∈ TBg := tb_in 1116 (by decide +kernel) (by decide +kernel)
theorem tw_1117 : Jvm.Cond.code ({ cls := "Sharedair$Traffic", name := "arrive", desc := "(LSharedair$Frame;)V" } : Jvm.MethodName) prog_9_method_10_code (3 : Nat) (Option.none : Option Jvm.ClassFile.FieldType) ∈ TBg := tb_in 1117 (by decide +kernel) (by decide +kernel)
theorem tw_1118 : Jvm.Cond.methodLink "Sharedair$Traffic" (178 : Nat) ({ cls := "Sharedair$NumberSet", name := "has", desc := "(I)Z" } : Jvm.MethodName) ∈ TBg := tb_in 1118 (by decide +kernel) (by decide +kernel)
theorem tw_1119 : Jvm.Cond.instanceMethod ({ cls := "Sharedair$NumberSet", name := "has", desc := "(I)Z" } : Jvm.MethodName) ∈ TBg := tb_in 1119 (by decide +kernel) (by decide +kernel)
theorem tw_1120 : Jvm.Cond.selects "Sharedair$NumberSet" ({ cls := "Sharedair$NumberSet", name := "has", desc := "(I)Z" } : Jvm.MethodName) ({ cls := "Sharedair$NumberSet", name := "has", desc := "(I)Z" } : Jvm.MethodName) ∈ TBg := tb_in 1120 (by decide +kernel) (by decide +kernel)
theorem tw_1121 : Jvm.Cond.code ({ cls := "Sharedair$NumberSet", name := "has", desc := "(I)Z" } : Jvm.MethodName) prog_7_method_2_code (2 : Nat) (Option.some Jvm.ClassFile.FieldType.boolean) ∈ TBg := tb_in 1121 (by decide +kernel) (by decide +kernel)
theorem tw_1122 : Jvm.Cond.methodLink "Sharedair$Traffic" (183 : Nat) ({ cls := "Sharedair$NumberSet", name := "put", desc := "(I)V" } : Jvm.MethodName) ∈ TBg := tb_in 1122 (by decide +kernel) (by decide +kernel)
theorem tw_1123 : Jvm.Cond.instanceMethod ({ cls := "Sharedair$NumberSet", name := "put", desc := "(I)V" } : Jvm.MethodName) ∈ TBg := tb_in 1123 (by decide +kernel) (by decide +kernel)
theorem tw_1124 : Jvm.Cond.selects "Sharedair$NumberSet" ({ cls := "Sharedair$NumberSet", name := "put", desc := "(I)V" } : Jvm.MethodName) ({ cls := "Sharedair$NumberSet", name := "put", desc := "(I)V" } : Jvm.MethodName) ∈ TBg := tb_in 1124 (by decide +kernel) (by decide +kernel)
theorem tw_1125 : Jvm.Cond.code ({ cls := "Sharedair$NumberSet", name := "put", desc := "(I)V" } : Jvm.MethodName) prog_7_method_3_code (2 : Nat) (Option.none : Option Jvm.ClassFile.FieldType) ∈ TBg := tb_in 1125 (by decide +kernel) (by decide +kernel)
theorem tw_1126 : Jvm.Cond.methodLink "Sharedair$Traffic" (160 : Nat) ({ cls := "Sharedair$Traffic", name := "pushCopy", desc := "(LSharedair$FrameQueue;LSharedair$Frame;)Z" } : Jvm.MethodName) ∈ TBg := tb_in 1126 (by decide +kernel) (by decide +kernel)
theorem tw_1127 : Jvm.Cond.static ({ cls := "Sharedair$Traffic", name := "pushCopy", desc := "(LSharedair$FrameQueue;LSharedair$Frame;)Z" } : Jvm.MethodName) ∈ TBg := tb_in 1127 (by decide +kernel) (by decide +kernel)
theorem tw_1128 : Jvm.Cond.code ({ cls := "Sharedair$Traffic", name := "pushCopy", desc := "(LSharedair$FrameQueue;LSharedair$Frame;)Z" } : Jvm.MethodName) prog_9_method_9_code (2 : Nat) (Option.some Jvm.ClassFile.FieldType.boolean) ∈ TBg := tb_in 1128 (by decide +kernel) (by decide +kernel)
theorem tw_1129 : Jvm.Cond.methodLink "Sharedair$Traffic" (170 : Nat) ({ cls := "Sharedair$FrameQueue", name := "add", desc := "(IIIII)Z" } : Jvm.MethodName) ∈ TBg := tb_in 1129 (by decide +kernel) (by decide +kernel)
theorem tw_1130 : Jvm.Cond.methodLink "Sharedair$Traffic" (131 : Nat) ({ cls := "Sharedair$Land", name := "canHear", desc := "(II)Z" } : Jvm.MethodName) ∈ TBg := tb_in 1130 (by decide +kernel) (by decide +kernel)
theorem tw_1131 : Jvm.Cond.methodLink "Sharedair$Traffic" (137 : Nat) ({ cls := "Sharedair$Traffic", name := "tryAgain", desc := "(LSharedair$Node;)V" } : Jvm.MethodName) ∈ TBg := tb_in 1131 (by decide +kernel) (by decide +kernel)
theorem tw_1133 : Jvm.Cond.instanceMethod ({ cls := "Sharedair$Traffic", name := "tryAgain", desc := "(LSharedair$Node;)V" } : Jvm.MethodName) ∈ TBg := tb_in 1133 (by decide +kernel) (by decide +kernel)
theorem tw_1134 : Jvm.Cond.code ({ cls := "Sharedair$Traffic", name := "tryAgain", desc := "(LSharedair$Node;)V" } : Jvm.MethodName) prog_9_method_7_code (2 : Nat) (Option.none : Option Jvm.ClassFile.FieldType) ∈ TBg := tb_in 1134 (by decide +kernel) (by decide +kernel)
theorem tw_1135 : Jvm.Cond.methodLink "Sharedair$Traffic" (146 : Nat) ({ cls := "Sharedair$Traffic", name := "draw", desc := "(I)I" } : Jvm.MethodName) ∈ TBg := tb_in 1135 (by decide +kernel) (by decide +kernel)
theorem tw_1137 : Jvm.Cond.instanceMethod ({ cls := "Sharedair$Traffic", name := "draw", desc := "(I)I" } : Jvm.MethodName) ∈ TBg := tb_in 1137 (by decide +kernel) (by decide +kernel)
theorem tw_1138 : Jvm.Cond.code ({ cls := "Sharedair$Traffic", name := "draw", desc := "(I)I" } : Jvm.MethodName) prog_9_method_12_code (2 : Nat) (Option.some Jvm.ClassFile.FieldType.int) ∈ TBg := tb_in 1138 (by decide +kernel) (by decide +kernel)
theorem tw_1139 : Jvm.Cond.methodLink "Sharedair$Traffic" (150 : Nat) ({ cls := "Sharedair$Node", name := "waitAgain", desc := "(I)V" } : Jvm.MethodName) ∈ TBg := tb_in 1139 (by decide +kernel) (by decide +kernel)
theorem tw_1140 : Jvm.Cond.instanceMethod ({ cls := "Sharedair$Node", name := "waitAgain", desc := "(I)V" } : Jvm.MethodName) ∈ TBg := tb_in 1140 (by decide +kernel) (by decide +kernel)
theorem tw_1141 : Jvm.Cond.selects "Sharedair$Node" ({ cls := "Sharedair$Node", name := "waitAgain", desc := "(I)V" } : Jvm.MethodName) ({ cls := "Sharedair$Node", name := "waitAgain", desc := "(I)V" } : Jvm.MethodName) ∈ TBg := tb_in 1141 (by decide +kernel) (by decide +kernel)
theorem tw_1142 : Jvm.Cond.code ({ cls := "Sharedair$Node", name := "waitAgain", desc := "(I)V" } : Jvm.MethodName) prog_6_method_5_code (2 : Nat) (Option.none : Option Jvm.ClassFile.FieldType) ∈ TBg := tb_in 1142 (by decide +kernel) (by decide +kernel)
theorem tw_1143 : Jvm.Cond.methodLink "SharedairLaw" (113 : Nat) ({ cls := "SharedairLaw", name := "exchange", desc := "(LSharedair;ILSharedairLaw$Out;)I" } : Jvm.MethodName) ∈ TBg := tb_in 1143 (by decide +kernel) (by decide +kernel)
theorem tw_1144 : Jvm.Cond.static ({ cls := "SharedairLaw", name := "exchange", desc := "(LSharedair;ILSharedairLaw$Out;)I" } : Jvm.MethodName) ∈ TBg := tb_in 1144 (by decide +kernel) (by decide +kernel)
theorem tw_1145 : Jvm.Cond.codeWith ({ cls := "SharedairLaw", name := "exchange", desc := "(LSharedair;ILSharedairLaw$Out;)I" } : Jvm.MethodName) method_7_code (4 : Nat) (Option.some Jvm.ClassFile.FieldType.int) [((0 : Nat), (10 : Nat), (13 : Nat), (19 : Nat))] ∈ TBg := tb_in 1145 (by decide +kernel) (by decide +kernel)
theorem tw_1146 : Jvm.Cond.methodLink "SharedairLaw" (40 : Nat) ({ cls := "Sharedair", name := "exchange", desc := "(I)I" } : Jvm.MethodName) ∈ TBg := tb_in 1146 (by decide +kernel) (by decide +kernel)
theorem tw_1147 : Jvm.Cond.instanceMethod ({ cls := "Sharedair", name := "exchange", desc := "(I)I" } : Jvm.MethodName) ∈ TBg := tb_in 1147 (by decide +kernel) (by decide +kernel)
theorem tw_1148 : Jvm.Cond.selects "Sharedair" ({ cls := "Sharedair", name := "exchange", desc := "(I)I" } : Jvm.MethodName) ({ cls := "Sharedair", name := "exchange", desc := "(I)I" } : Jvm.MethodName) ∈ TBg := tb_in 1148 (by decide +kernel) (by decide +kernel)
theorem tw_1149 : Jvm.Cond.code ({ cls := "Sharedair", name := "exchange", desc := "(I)I" } : Jvm.MethodName) prog_1_method_7_code (3 : Nat) (Option.some Jvm.ClassFile.FieldType.int) ∈ TBg := tb_in 1149 (by decide +kernel) (by decide +kernel)
theorem tw_1151 : Jvm.Cond.methodLink "Sharedair" (141 : Nat) ({ cls := "Sharedair$Routes", name := "renew", desc := "()V" } : Jvm.MethodName) ∈ TBg := tb_in 1151 (by decide +kernel) (by decide +kernel)
theorem tw_1152 : Jvm.Cond.instanceMethod ({ cls := "Sharedair$Routes", name := "renew", desc := "()V" } : Jvm.MethodName) ∈ TBg := tb_in 1152 (by decide +kernel) (by decide +kernel)
theorem tw_1153 : Jvm.Cond.selects "Sharedair$Routes" ({ cls := "Sharedair$Routes", name := "renew", desc := "()V" } : Jvm.MethodName) ({ cls := "Sharedair$Routes", name := "renew", desc := "()V" } : Jvm.MethodName) ∈ TBg := tb_in 1153 (by decide +kernel) (by decide +kernel)
theorem tw_1154 : Jvm.Cond.code ({ cls := "Sharedair$Routes", name := "renew", desc := "()V" } : Jvm.MethodName) prog_8_method_4_code (3 : Nat) (Option.none : Option Jvm.ClassFile.FieldType) ∈ TBg := tb_in 1154 (by decide +kernel) (by decide +kernel)
theorem tw_1155 : Jvm.Cond.methodLink "Sharedair$Routes" (42 : Nat) ({ cls := "Sharedair$Routes", name := "renewPair", desc := "(II)V" } : Jvm.MethodName) ∈ TBg := tb_in 1155 (by decide +kernel) (by decide +kernel)
theorem tw_1157 : Jvm.Cond.instanceMethod ({ cls := "Sharedair$Routes", name := "renewPair", desc := "(II)V" } : Jvm.MethodName) ∈ TBg := tb_in 1157 (by decide +kernel) (by decide +kernel)
theorem tw_1158 : Jvm.Cond.code ({ cls := "Sharedair$Routes", name := "renewPair", desc := "(II)V" } : Jvm.MethodName) prog_8_method_5_code (6 : Nat) (Option.none : Option Jvm.ClassFile.FieldType) ∈ TBg := tb_in 1158 (by decide +kernel) (by decide +kernel)
theorem tw_1159 : Jvm.Cond.methodLink "Sharedair$Routes" (46 : Nat) ({ cls := "Sharedair$Land", name := "areLinked", desc := "(II)Z" } : Jvm.MethodName) ∈ TBg := tb_in 1159 (by decide +kernel) (by decide +kernel)
theorem tw_1160 : Jvm.Cond.methodLink "Sharedair$Routes" (50 : Nat) ({ cls := "Sharedair$Routes", name := "cheapestNeighbour", desc := "(II)I" } : Jvm.MethodName) ∈ TBg := tb_in 1160 (by decide +kernel) (by decide +kernel)
theorem tw_1162 : Jvm.Cond.instanceMethod ({ cls := "Sharedair$Routes", name := "cheapestNeighbour", desc := "(II)I" } : Jvm.MethodName) ∈ TBg := tb_in 1162 (by decide +kernel) (by decide +kernel)
theorem tw_1163 : Jvm.Cond.code ({ cls := "Sharedair$Routes", name := "cheapestNeighbour", desc := "(II)I" } : Jvm.MethodName) prog_8_method_6_code (6 : Nat) (Option.some Jvm.ClassFile.FieldType.int) ∈ TBg := tb_in 1163 (by decide +kernel) (by decide +kernel)
theorem tw_1164 : Jvm.Cond.methodLink "Sharedair" (144 : Nat) ({ cls := "Sharedair$Routes", name := "pairsWithRoute", desc := "()I" } : Jvm.MethodName) ∈ TBg := tb_in 1164 (by decide +kernel) (by decide +kernel)
theorem tw_1165 : Jvm.Cond.instanceMethod ({ cls := "Sharedair$Routes", name := "pairsWithRoute", desc := "()I" } : Jvm.MethodName) ∈ TBg := tb_in 1165 (by decide +kernel) (by decide +kernel)
theorem tw_1166 : Jvm.Cond.selects "Sharedair$Routes" ({ cls := "Sharedair$Routes", name := "pairsWithRoute", desc := "()I" } : Jvm.MethodName) ({ cls := "Sharedair$Routes", name := "pairsWithRoute", desc := "()I" } : Jvm.MethodName) ∈ TBg := tb_in 1166 (by decide +kernel) (by decide +kernel)
theorem tw_1167 : Jvm.Cond.code ({ cls := "Sharedair$Routes", name := "pairsWithRoute", desc := "()I" } : Jvm.MethodName) prog_8_method_10_code (4 : Nat) (Option.some Jvm.ClassFile.FieldType.int) ∈ TBg := tb_in 1167 (by decide +kernel) (by decide +kernel)
theorem tw_1168 : Jvm.Cond.methodLink "SharedairLaw" (116 : Nat) ({ cls := "SharedairLaw", name := "bid", desc := "(LSharedair;IIILSharedairLaw$Out;)I" } : Jvm.MethodName) ∈ TBg := tb_in 1168 (by decide +kernel) (by decide +kernel)
theorem tw_1169 : Jvm.Cond.static ({ cls := "SharedairLaw", name := "bid", desc := "(LSharedair;IIILSharedairLaw$Out;)I" } : Jvm.MethodName) ∈ TBg := tb_in 1169 (by decide +kernel) (by decide +kernel)
theorem tw_1170 : Jvm.Cond.codeWith ({ cls := "SharedairLaw", name := "bid", desc := "(LSharedair;IIILSharedairLaw$Out;)I" } : Jvm.MethodName) method_8_code (6 : Nat) (Option.some Jvm.ClassFile.FieldType.int) [((0 : Nat), (13 : Nat), (16 : Nat), (19 : Nat)), ((0 : Nat), (13 : Nat), (20 : Nat), (21 : Nat))] ∈ TBg := tb_in 1170 (by decide +kernel) (by decide +kernel)
theorem tw_1171 : Jvm.Cond.methodLink "SharedairLaw" (43 : Nat) ({ cls := "Sharedair", name := "bid", desc := "(III)I" } : Jvm.MethodName) ∈ TBg := tb_in 1171 (by decide +kernel) (by decide +kernel)
theorem tw_1172 : Jvm.Cond.instanceMethod ({ cls := "Sharedair", name := "bid", desc := "(III)I" } : Jvm.MethodName) ∈ TBg := tb_in 1172 (by decide +kernel) (by decide +kernel)
theorem tw_1173 : Jvm.Cond.selects "Sharedair" ({ cls := "Sharedair", name := "bid", desc := "(III)I" } : Jvm.MethodName) ({ cls := "Sharedair", name := "bid", desc := "(III)I" } : Jvm.MethodName) ∈ TBg := tb_in 1173 (by decide +kernel) (by decide +kernel)
theorem tw_1174 : Jvm.Cond.code ({ cls := "Sharedair", name := "bid", desc := "(III)I" } : Jvm.MethodName) prog_1_method_8_code (4 : Nat) (Option.some Jvm.ClassFile.FieldType.int) ∈ TBg := tb_in 1174 (by decide +kernel) (by decide +kernel)
theorem tw_1177 : Jvm.Cond.methodLink "Sharedair" (153 : Nat) ({ cls := "Sharedair$Market", name := "add", desc := "(III)I" } : Jvm.MethodName) ∈ TBg := tb_in 1177 (by decide +kernel) (by decide +kernel)
theorem tw_1178 : Jvm.Cond.instanceMethod ({ cls := "Sharedair$Market", name := "add", desc := "(III)I" } : Jvm.MethodName) ∈ TBg := tb_in 1178 (by decide +kernel) (by decide +kernel)
theorem tw_1179 : Jvm.Cond.selects "Sharedair$Market" ({ cls := "Sharedair$Market", name := "add", desc := "(III)I" } : Jvm.MethodName) ({ cls := "Sharedair$Market", name := "add", desc := "(III)I" } : Jvm.MethodName) ∈ TBg := tb_in 1179 (by decide +kernel) (by decide +kernel)
theorem tw_1180 : Jvm.Cond.code ({ cls := "Sharedair$Market", name := "add", desc := "(III)I" } : Jvm.MethodName) prog_5_method_2_code (9 : Nat) (Option.some Jvm.ClassFile.FieldType.int) ∈ TBg := tb_in 1180 (by decide +kernel) (by decide +kernel)
theorem tw_1181 : Jvm.Cond.methodLink "Sharedair$Market" (40 : Nat) ({ cls := "Sharedair$Market", name := "weigh", desc := "(I)V" } : Jvm.MethodName) ∈ TBg := tb_in 1181 (by decide +kernel) (by decide +kernel)
theorem tw_1183 : Jvm.Cond.instanceMethod ({ cls := "Sharedair$Market", name := "weigh", desc := "(I)V" } : Jvm.MethodName) ∈ TBg := tb_in 1183 (by decide +kernel) (by decide +kernel)
theorem tw_1184 : Jvm.Cond.code ({ cls := "Sharedair$Market", name := "weigh", desc := "(I)V" } : Jvm.MethodName) prog_5_method_3_code (3 : Nat) (Option.none : Option Jvm.ClassFile.FieldType) ∈ TBg := tb_in 1184 (by decide +kernel) (by decide +kernel)
theorem tw_1185 : Jvm.Cond.methodLink "SharedairLaw" (127 : Nat) ({ cls := "SharedairLaw", name := "hears", desc := "(LSharedair;IILSharedairLaw$Out;)I" } : Jvm.MethodName) ∈ TBg := tb_in 1185 (by decide +kernel) (by decide +kernel)
theorem tw_1186 : Jvm.Cond.static ({ cls := "SharedairLaw", name := "hears", desc := "(LSharedair;IILSharedairLaw$Out;)I" } : Jvm.MethodName) ∈ TBg := tb_in 1186 (by decide +kernel) (by decide +kernel)
theorem tw_1187 : Jvm.Cond.codeWith ({ cls := "SharedairLaw", name := "hears", desc := "(LSharedair;IILSharedairLaw$Out;)I" } : Jvm.MethodName) method_9_code (5 : Nat) (Option.some Jvm.ClassFile.FieldType.int) [((0 : Nat), (18 : Nat), (21 : Nat), (27 : Nat)), ((0 : Nat), (18 : Nat), (25 : Nat), (19 : Nat))] ∈ TBg := tb_in 1187 (by decide +kernel) (by decide +kernel)
theorem tw_1188 : Jvm.Cond.methodLink "SharedairLaw" (46 : Nat) ({ cls := "Sharedair", name := "hears", desc := "(II)Z" } : Jvm.MethodName) ∈ TBg := tb_in 1188 (by decide +kernel) (by decide +kernel)
theorem tw_1189 : Jvm.Cond.instanceMethod ({ cls := "Sharedair", name := "hears", desc := "(II)Z" } : Jvm.MethodName) ∈ TBg := tb_in 1189 (by decide +kernel) (by decide +kernel)
theorem tw_1190 : Jvm.Cond.selects "Sharedair" ({ cls := "Sharedair", name := "hears", desc := "(II)Z" } : Jvm.MethodName) ({ cls := "Sharedair", name := "hears", desc := "(II)Z" } : Jvm.MethodName) ∈ TBg := tb_in 1190 (by decide +kernel) (by decide +kernel)
theorem tw_1191 : Jvm.Cond.code ({ cls := "Sharedair", name := "hears", desc := "(II)Z" } : Jvm.MethodName) prog_1_method_11_code (3 : Nat) (Option.some Jvm.ClassFile.FieldType.boolean) ∈ TBg := tb_in 1191 (by decide +kernel) (by decide +kernel)
theorem tw_1192 : Jvm.Cond.methodLink "Sharedair" (163 : Nat) ({ cls := "Sharedair$Land", name := "canHear", desc := "(II)Z" } : Jvm.MethodName) ∈ TBg := tb_in 1192 (by decide +kernel) (by decide +kernel)
theorem tw_1193 : Jvm.Cond.methodLink "SharedairLaw" (131 : Nat) ({ cls := "SharedairLaw", name := "ofNode", desc := "(LSharedair;IILSharedairLaw$Out;)I" } : Jvm.MethodName) ∈ TBg := tb_in 1193 (by decide +kernel) (by decide +kernel)
theorem tw_1194 : Jvm.Cond.static ({ cls := "SharedairLaw", name := "ofNode", desc := "(LSharedair;IILSharedairLaw$Out;)I" } : Jvm.MethodName) ∈ TBg := tb_in 1194 (by decide +kernel) (by decide +kernel)
theorem tw_1195 : Jvm.Cond.codeWith ({ cls := "SharedairLaw", name := "ofNode", desc := "(LSharedair;IILSharedairLaw$Out;)I" } : Jvm.MethodName) method_10_code (5 : Nat) (Option.some Jvm.ClassFile.FieldType.int) [((0 : Nat), (11 : Nat), (14 : Nat), (27 : Nat)), ((0 : Nat), (11 : Nat), (18 : Nat), (19 : Nat))] ∈ TBg := tb_in 1195 (by decide +kernel) (by decide +kernel)
theorem tw_1196 : Jvm.Cond.methodLink "SharedairLaw" (50 : Nat) ({ cls := "Sharedair", name := "ofNode", desc := "(II)I" } : Jvm.MethodName) ∈ TBg := tb_in 1196 (by decide +kernel) (by decide +kernel)
theorem tw_1197 : Jvm.Cond.methodLink "SharedairLaw" (134 : Nat) ({ cls := "SharedairLaw", name := "inQueue", desc := "(LSharedair;IIILSharedairLaw$Out;)I" } : Jvm.MethodName) ∈ TBg := tb_in 1197 (by decide +kernel) (by decide +kernel)
theorem tw_1198 : Jvm.Cond.static ({ cls := "SharedairLaw", name := "inQueue", desc := "(LSharedair;IIILSharedairLaw$Out;)I" } : Jvm.MethodName) ∈ TBg := tb_in 1198 (by decide +kernel) (by decide +kernel)
theorem tw_1199 : Jvm.Cond.codeWith ({ cls := "SharedairLaw", name := "inQueue", desc := "(LSharedair;IIILSharedairLaw$Out;)I" } : Jvm.MethodName) method_11_code (6 : Nat) (Option.some Jvm.ClassFile.FieldType.int) [((0 : Nat), (13 : Nat), (16 : Nat), (27 : Nat)), ((0 : Nat), (13 : Nat), (20 : Nat), (19 : Nat))] ∈ TBg := tb_in 1199 (by decide +kernel) (by decide +kernel)
theorem tw_1200 : Jvm.Cond.methodLink "SharedairLaw" (54 : Nat) ({ cls := "Sharedair", name := "inQueue", desc := "(III)I" } : Jvm.MethodName) ∈ TBg := tb_in 1200 (by decide +kernel) (by decide +kernel)
theorem tw_1201 : Jvm.Cond.methodLink "SharedairLaw" (137 : Nat) ({ cls := "SharedairLaw", name := "route", desc := "(LSharedair;IIILSharedairLaw$Out;)I" } : Jvm.MethodName) ∈ TBg := tb_in 1201 (by decide +kernel) (by decide +kernel)
theorem tw_1202 : Jvm.Cond.static ({ cls := "SharedairLaw", name := "route", desc := "(LSharedair;IIILSharedairLaw$Out;)I" } : Jvm.MethodName) ∈ TBg := tb_in 1202 (by decide +kernel) (by decide +kernel)
theorem tw_1203 : Jvm.Cond.codeWith ({ cls := "SharedairLaw", name := "route", desc := "(LSharedair;IIILSharedairLaw$Out;)I" } : Jvm.MethodName) method_12_code (6 : Nat) (Option.some Jvm.ClassFile.FieldType.int) [((0 : Nat), (13 : Nat), (16 : Nat), (27 : Nat)), ((0 : Nat), (13 : Nat), (20 : Nat), (19 : Nat))] ∈ TBg := tb_in 1203 (by decide +kernel) (by decide +kernel)
theorem tw_1204 : Jvm.Cond.methodLink "SharedairLaw" (57 : Nat) ({ cls := "Sharedair", name := "route", desc := "(III)I" } : Jvm.MethodName) ∈ TBg := tb_in 1204 (by decide +kernel) (by decide +kernel)
theorem tw_1205 : Jvm.Cond.methodLink "SharedairLaw" (140 : Nat) ({ cls := "SharedairLaw", name := "air", desc := "(LSharedair;ILSharedairLaw$Out;)I" } : Jvm.MethodName) ∈ TBg := tb_in 1205 (by decide +kernel) (by decide +kernel)
theorem tw_1206 : Jvm.Cond.static ({ cls := "SharedairLaw", name := "air", desc := "(LSharedair;ILSharedairLaw$Out;)I" } : Jvm.MethodName) ∈ TBg := tb_in 1206 (by decide +kernel) (by decide +kernel)
theorem tw_1207 : Jvm.Cond.codeWith ({ cls := "SharedairLaw", name := "air", desc := "(LSharedair;ILSharedairLaw$Out;)I" } : Jvm.MethodName) method_13_code (4 : Nat) (Option.some Jvm.ClassFile.FieldType.int) [((0 : Nat), (10 : Nat), (13 : Nat), (19 : Nat))] ∈ TBg := tb_in 1207 (by decide +kernel) (by decide +kernel)
theorem tw_1208 : Jvm.Cond.methodLink "SharedairLaw" (60 : Nat) ({ cls := "Sharedair", name := "air", desc := "(I)I" } : Jvm.MethodName) ∈ TBg := tb_in 1208 (by decide +kernel) (by decide +kernel)
theorem tw_1209 : Jvm.Cond.methodLink "SharedairLaw" (143 : Nat) ({ cls := "SharedairLaw", name := "delivered", desc := "(LSharedair;IILSharedairLaw$Out;)I" } : Jvm.MethodName) ∈ TBg := tb_in 1209 (by decide +kernel) (by decide +kernel)
theorem tw_1210 : Jvm.Cond.static ({ cls := "SharedairLaw", name := "delivered", desc := "(LSharedair;IILSharedairLaw$Out;)I" } : Jvm.MethodName) ∈ TBg := tb_in 1210 (by decide +kernel) (by decide +kernel)
theorem tw_1211 : Jvm.Cond.codeWith ({ cls := "SharedairLaw", name := "delivered", desc := "(LSharedair;IILSharedairLaw$Out;)I" } : Jvm.MethodName) method_14_code (5 : Nat) (Option.some Jvm.ClassFile.FieldType.int) [((0 : Nat), (18 : Nat), (21 : Nat), (27 : Nat))] ∈ TBg := tb_in 1211 (by decide +kernel) (by decide +kernel)
theorem tw_1212 : Jvm.Cond.methodLink "SharedairLaw" (63 : Nat) ({ cls := "Sharedair", name := "delivered", desc := "(II)Z" } : Jvm.MethodName) ∈ TBg := tb_in 1212 (by decide +kernel) (by decide +kernel)
theorem tw_1213 : Jvm.Cond.instanceMethod ({ cls := "Sharedair", name := "delivered", desc := "(II)Z" } : Jvm.MethodName) ∈ TBg := tb_in 1213 (by decide +kernel) (by decide +kernel)
theorem tw_1214 : Jvm.Cond.selects "Sharedair" ({ cls := "Sharedair", name := "delivered", desc := "(II)Z" } : Jvm.MethodName) ({ cls := "Sharedair", name := "delivered", desc := "(II)Z" } : Jvm.MethodName) ∈ TBg := tb_in 1214 (by decide +kernel) (by decide +kernel)
theorem tw_1215 : Jvm.Cond.code ({ cls := "Sharedair", name := "delivered", desc := "(II)Z" } : Jvm.MethodName) prog_1_method_16_code (4 : Nat) (Option.some Jvm.ClassFile.FieldType.boolean) ∈ TBg := tb_in 1215 (by decide +kernel) (by decide +kernel)
theorem tw_1217 : Jvm.Cond.methodLink "Sharedair" (284 : Nat) ({ cls := "Sharedair$NumberSet", name := "has", desc := "(I)Z" } : Jvm.MethodName) ∈ TBg := tb_in 1217 (by decide +kernel) (by decide +kernel)
theorem tw_1218 : Jvm.Cond.methodLink "SharedairLaw" (156 : Nat) ({ cls := "SharedairLaw", name := "would", desc := "(LSharedair;IILSharedairLaw$Out;)I" } : Jvm.MethodName) ∈ TBg := tb_in 1218 (by decide +kernel) (by decide +kernel)
theorem tw_1219 : Jvm.Cond.static ({ cls := "SharedairLaw", name := "would", desc := "(LSharedair;IILSharedairLaw$Out;)I" } : Jvm.MethodName) ∈ TBg := tb_in 1219 (by decide +kernel) (by decide +kernel)
theorem tw_1220 : Jvm.Cond.codeWith ({ cls := "SharedairLaw", name := "would", desc := "(LSharedair;IILSharedairLaw$Out;)I" } : Jvm.MethodName) method_15_code (5 : Nat) (Option.some Jvm.ClassFile.FieldType.int) [((0 : Nat), (11 : Nat), (14 : Nat), (27 : Nat)), ((0 : Nat), (11 : Nat), (18 : Nat), (19 : Nat))] ∈ TBg := tb_in 1220 (by decide +kernel) (by decide +kernel)
theorem tw_1221 : Jvm.Cond.methodLink "SharedairLaw" (66 : Nat) ({ cls := "Sharedair", name := "would", desc := "(II)I" } : Jvm.MethodName) ∈ TBg := tb_in 1221 (by decide +kernel) (by decide +kernel)
theorem tw_1222 : Jvm.Cond.instanceMethod ({ cls := "Sharedair", name := "would", desc := "(II)I" } : Jvm.MethodName) ∈ TBg := tb_in 1222 (by decide +kernel) (by decide +kernel)
theorem tw_1223 : Jvm.Cond.selects "Sharedair" ({ cls := "Sharedair", name := "would", desc := "(II)I" } : Jvm.MethodName) ({ cls := "Sharedair", name := "would", desc := "(II)I" } : Jvm.MethodName) ∈ TBg := tb_in 1223 (by decide +kernel) (by decide +kernel)
theorem tw_1224 : Jvm.Cond.code ({ cls := "Sharedair", name := "would", desc := "(II)I" } : Jvm.MethodName) prog_1_method_19_code (4 : Nat) (Option.some Jvm.ClassFile.FieldType.int) ∈ TBg := tb_in 1224 (by decide +kernel) (by decide +kernel)
theorem tw_1225 : Jvm.Cond.methodLink "Sharedair" (304 : Nat) ({ cls := "Sharedair$Land", name := "everyone", desc := "()I" } : Jvm.MethodName) ∈ TBg := tb_in 1225 (by decide +kernel) (by decide +kernel)
theorem tw_1226 : Jvm.Cond.methodLink "Sharedair" (307 : Nat) ({ cls := "Sharedair", name := "isIn", desc := "(II)Z" } : Jvm.MethodName) ∈ TBg := tb_in 1226 (by decide +kernel) (by decide +kernel)
theorem tw_1228 : Jvm.Cond.methodLink "Sharedair" (312 : Nat) ({ cls := "Sharedair$Land", name := "gets", desc := "(III)Z" } : Jvm.MethodName) ∈ TBg := tb_in 1228 (by decide +kernel) (by decide +kernel)
theorem tw_1229 : Jvm.Cond.methodLink "SharedairLaw" (159 : Nat) ({ cls := "SharedairLaw", name := "throughput", desc := "(LSharedair;IILSharedairLaw$Out;)I" } : Jvm.MethodName) ∈ TBg := tb_in 1229 (by decide +kernel) (by decide +kernel)
theorem tw_1230 : Jvm.Cond.static ({ cls := "SharedairLaw", name := "throughput", desc := "(LSharedair;IILSharedairLaw$Out;)I" } : Jvm.MethodName) ∈ TBg := tb_in 1230 (by decide +kernel) (by decide +kernel)
theorem tw_1231 : Jvm.Cond.codeWith ({ cls := "SharedairLaw", name := "throughput", desc := "(LSharedair;IILSharedairLaw$Out;)I" } : Jvm.MethodName) method_16_code (5 : Nat) (Option.some Jvm.ClassFile.FieldType.int) [((0 : Nat), (10 : Nat), (13 : Nat), (19 : Nat))] ∈ TBg := tb_in 1231 (by decide +kernel) (by decide +kernel)
theorem tw_1232 : Jvm.Cond.methodLink "SharedairLaw" (69 : Nat) ({ cls := "Sharedair", name := "throughput", desc := "(II)D" } : Jvm.MethodName) ∈ TBg := tb_in 1232 (by decide +kernel) (by decide +kernel)
theorem tw_1233 : Jvm.Cond.instanceMethod ({ cls := "Sharedair", name := "throughput", desc := "(II)D" } : Jvm.MethodName) ∈ TBg := tb_in 1233 (by decide +kernel) (by decide +kernel)
theorem tw_1234 : Jvm.Cond.selects "Sharedair" ({ cls := "Sharedair", name := "throughput", desc := "(II)D" } : Jvm.MethodName) ({ cls := "Sharedair", name := "throughput", desc := "(II)D" } : Jvm.MethodName) ∈ TBg := tb_in 1234 (by decide +kernel) (by decide +kernel)
theorem tw_1235 : Jvm.Cond.code ({ cls := "Sharedair", name := "throughput", desc := "(II)D" } : Jvm.MethodName) prog_1_method_20_code (3 : Nat) (Option.some Jvm.ClassFile.FieldType.double) ∈ TBg := tb_in 1235 (by decide +kernel) (by decide +kernel)
theorem tw_1237 : Jvm.Cond.methodLink "Sharedair" (317 : Nat) ({ cls := "Sharedair", name := "chanceOfOne", desc := "(II)D" } : Jvm.MethodName) ∈ TBg := tb_in 1237 (by decide +kernel) (by decide +kernel)
theorem tw_1238 : Jvm.Cond.static ({ cls := "Sharedair", name := "chanceOfOne", desc := "(II)D" } : Jvm.MethodName) ∈ TBg := tb_in 1238 (by decide +kernel) (by decide +kernel)
theorem tw_1239 : Jvm.Cond.code ({ cls := "Sharedair", name := "chanceOfOne", desc := "(II)D" } : Jvm.MethodName) prog_1_method_35_code (7 : Nat) (Option.some Jvm.ClassFile.FieldType.double) ∈ TBg := tb_in 1239 (by decide +kernel) (by decide +kernel)
theorem tw_1240 : Jvm.Cond.constantDouble "Sharedair" (400 : Nat) (4636737291354636288 : UInt64) ∈ TBg := tb_in 1240 (by decide +kernel) (by decide +kernel)
theorem tw_1241 : Jvm.Cond.methodLink "SharedairLaw" (162 : Nat) ({ cls := "SharedairLaw", name := "bestChance", desc := "(LSharedair;ILSharedairLaw$Out;)I" } : Jvm.MethodName) ∈ TBg := tb_in 1241 (by decide +kernel) (by decide +kernel)
theorem tw_1242 : Jvm.Cond.static ({ cls := "SharedairLaw", name := "bestChance", desc := "(LSharedair;ILSharedairLaw$Out;)I" } : Jvm.MethodName) ∈ TBg := tb_in 1242 (by decide +kernel) (by decide +kernel)
theorem tw_1243 : Jvm.Cond.codeWith ({ cls := "SharedairLaw", name := "bestChance", desc := "(LSharedair;ILSharedairLaw$Out;)I" } : Jvm.MethodName) method_17_code (4 : Nat) (Option.some Jvm.ClassFile.FieldType.int) [((0 : Nat), (10 : Nat), (13 : Nat), (19 : Nat))] ∈ TBg := tb_in 1243 (by decide +kernel) (by decide +kernel)
theorem tw_1244 : Jvm.Cond.methodLink "SharedairLaw" (77 : Nat) ({ cls := "Sharedair", name := "bestChance", desc := "(I)I" } : Jvm.MethodName) ∈ TBg := tb_in 1244 (by decide +kernel) (by decide +kernel)
theorem tw_1245 : Jvm.Cond.instanceMethod ({ cls := "Sharedair", name := "bestChance", desc := "(I)I" } : Jvm.MethodName) ∈ TBg := tb_in 1245 (by decide +kernel) (by decide +kernel)
theorem tw_1246 : Jvm.Cond.selects "Sharedair" ({ cls := "Sharedair", name := "bestChance", desc := "(I)I" } : Jvm.MethodName) ({ cls := "Sharedair", name := "bestChance", desc := "(I)I" } : Jvm.MethodName) ∈ TBg := tb_in 1246 (by decide +kernel) (by decide +kernel)
theorem tw_1247 : Jvm.Cond.code ({ cls := "Sharedair", name := "bestChance", desc := "(I)I" } : Jvm.MethodName) prog_1_method_21_code (8 : Nat) (Option.some Jvm.ClassFile.FieldType.int) ∈ TBg := tb_in 1247 (by decide +kernel) (by decide +kernel)
theorem tw_1249 : Jvm.Cond.methodLink "SharedairLaw" (165 : Nat) ({ cls := "SharedairLaw", name := "auction", desc := "(LSharedair;ILSharedairLaw$Out;)I" } : Jvm.MethodName) ∈ TBg := tb_in 1249 (by decide +kernel) (by decide +kernel)
theorem tw_1250 : Jvm.Cond.static ({ cls := "SharedairLaw", name := "auction", desc := "(LSharedair;ILSharedairLaw$Out;)I" } : Jvm.MethodName) ∈ TBg := tb_in 1250 (by decide +kernel) (by decide +kernel)
theorem tw_1251 : Jvm.Cond.codeWith ({ cls := "SharedairLaw", name := "auction", desc := "(LSharedair;ILSharedairLaw$Out;)I" } : Jvm.MethodName) method_18_code (4 : Nat) (Option.some Jvm.ClassFile.FieldType.int) [((0 : Nat), (10 : Nat), (13 : Nat), (19 : Nat))] ∈ TBg := tb_in 1251 (by decide +kernel) (by decide +kernel)
theorem tw_1252 : Jvm.Cond.methodLink "SharedairLaw" (80 : Nat) ({ cls := "Sharedair", name := "auction", desc := "(I)I" } : Jvm.MethodName) ∈ TBg := tb_in 1252 (by decide +kernel) (by decide +kernel)
theorem tw_1253 : Jvm.Cond.classLink "SharedairLaw" (84 : Nat) "SharedairModel" ∈ TBg := tb_in 1253 (by decide +kernel) (by decide +kernel)
theorem tw_1254 : Jvm.Cond.instantiable "SharedairModel" (12 : Nat) ∈ TBg := tb_in 1254 (by decide +kernel) (by decide +kernel)
theorem tw_1255 : Jvm.Cond.methodLink "SharedairLaw" (86 : Nat) ({ cls := "SharedairModel", name := "<init>", desc := "()V" } : Jvm.MethodName) ∈ TBg := tb_in 1255 (by decide +kernel) (by decide +kernel)
theorem tw_1256 : Jvm.Cond.instanceMethod ({ cls := "SharedairModel", name := "<init>", desc := "()V" } : Jvm.MethodName) ∈ TBg := tb_in 1256 (by decide +kernel) (by decide +kernel)
theorem tw_1257 : Jvm.Cond.code ({ cls := "SharedairModel", name := "<init>", desc := "()V" } : Jvm.MethodName) prog_12_method_1_code (1 : Nat) (Option.none : Option Jvm.ClassFile.FieldType) ∈ TBg := tb_in 1257 (by decide +kernel) (by decide +kernel)
theorem tw_1258 : Jvm.Cond.methodLink "SharedairModel" (1 : Nat) ({ cls := "java/lang/Object", name := "<init>", desc := "()V" } : Jvm.MethodName) ∈ TBg := tb_in 1258 (by decide +kernel) (by decide +kernel)
theorem tw_1259 : Jvm.Cond.classLink "SharedairModel" (13 : Nat) "java/util/ArrayList" ∈ TBg := tb_in 1259 (by decide +kernel) (by decide +kernel)
theorem tw_1260 : Jvm.Cond.instantiable "java/util/ArrayList" (3 : Nat) ∈ TBg := tb_in 1260 (by decide +kernel) (by decide +kernel)
theorem tw_1261 : Jvm.Cond.methodLink "SharedairModel" (15 : Nat) ({ cls := "java/util/ArrayList", name := "<init>", desc := "()V" } : Jvm.MethodName) ∈ TBg := tb_in 1261 (by decide +kernel) (by decide +kernel)
theorem tw_1262 : Jvm.Cond.instanceMethod ({ cls := "java/util/ArrayList", name := "<init>", desc := "()V" } : Jvm.MethodName) ∈ TBg := tb_in 1262 (by decide +kernel) (by decide +kernel)
theorem tw_1263 : Jvm.Cond.code ({ cls := "java/util/ArrayList", name := "<init>", desc := "()V" } : Jvm.MethodName) prog_40_method_2_code (1 : Nat) (Option.none : Option Jvm.ClassFile.FieldType) ∈ TBg := tb_in 1263 (by decide +kernel) (by decide +kernel)
theorem tw_1264 : Jvm.Cond.methodLink "java/util/ArrayList" (1 : Nat) ({ cls := "java/util/AbstractList", name := "<init>", desc := "()V" } : Jvm.MethodName) ∈ TBg := tb_in 1264 (by decide +kernel) (by decide +kernel)
theorem tw_1265 : Jvm.Cond.instanceMethod ({ cls := "java/util/AbstractList", name := "<init>", desc := "()V" } : Jvm.MethodName) ∈ TBg := tb_in 1265 (by decide +kernel) (by decide +kernel)
theorem tw_1266 : Jvm.Cond.code ({ cls := "java/util/AbstractList", name := "<init>", desc := "()V" } : Jvm.MethodName) prog_39_method_1_code (1 : Nat) (Option.none : Option Jvm.ClassFile.FieldType) ∈ TBg := tb_in 1266 (by decide +kernel) (by decide +kernel)
theorem tw_1267 : Jvm.Cond.methodLink "java/util/AbstractList" (1 : Nat) ({ cls := "java/util/AbstractCollection", name := "<init>", desc := "()V" } : Jvm.MethodName) ∈ TBg := tb_in 1267 (by decide +kernel) (by decide +kernel)
theorem tw_1268 : Jvm.Cond.instanceMethod ({ cls := "java/util/AbstractCollection", name := "<init>", desc := "()V" } : Jvm.MethodName) ∈ TBg := tb_in 1268 (by decide +kernel) (by decide +kernel)
theorem tw_1269 : Jvm.Cond.code ({ cls := "java/util/AbstractCollection", name := "<init>", desc := "()V" } : Jvm.MethodName) prog_38_method_1_code (1 : Nat) (Option.none : Option Jvm.ClassFile.FieldType) ∈ TBg := tb_in 1269 (by decide +kernel) (by decide +kernel)
theorem tw_1270 : Jvm.Cond.methodLink "java/util/AbstractCollection" (1 : Nat) ({ cls := "java/lang/Object", name := "<init>", desc := "()V" } : Jvm.MethodName) ∈ TBg := tb_in 1270 (by decide +kernel) (by decide +kernel)
theorem tw_1271 : Jvm.Cond.fieldLink "java/util/ArrayList" (39 : Nat) "java/util/ArrayList" "DEFAULTCAPACITY_EMPTY_ELEMENTDATA" "[Ljava/lang/Object;" ∈ TBg := tb_in 1271 (by decide +kernel) (by decide +kernel)
theorem tw_1273 : Jvm.Cond.fieldLink "java/util/ArrayList" (9 : Nat) "java/util/ArrayList" "elementData" "[Ljava/lang/Object;" ∈ TBg := tb_in 1273 (by decide +kernel) (by decide +kernel)
theorem tw_1274 : Jvm.Cond.fieldLink "java/util/ArrayList$Itr" (37 : Nat) "java/util/ArrayList" "elementData" "[Ljava/lang/Object;" ∈ TBg := tb_in 1274 (by decide +kernel) (by decide +kernel)
theorem tw_1276 : Jvm.Cond.fieldLink "java/util/ArrayList" (48 : Nat) "java/util/ArrayList" "size" "I" ∈ TBg := tb_in 1276 (by decide +kernel) (by decide +kernel)
theorem tw_1277 : Jvm.Cond.fieldLink "java/util/AbstractList" (7 : Nat) "java/util/AbstractList" "modCount" "I" ∈ TBg := tb_in 1277 (by decide +kernel) (by decide +kernel)
theorem tw_1278 : Jvm.Cond.fieldLink "java/util/ArrayList$Itr" (17 : Nat) "java/util/ArrayList" "modCount" "I" ∈ TBg := tb_in 1278 (by decide +kernel) (by decide +kernel)
theorem tw_1279 : Jvm.Cond.sameField "java/util/ArrayList" "java/util/AbstractList" "modCount" "I" ∈ TBg := tb_in 1279 (by decide +kernel) (by decide +kernel)
theorem tw_1280 : Jvm.Cond.fieldLink "java/util/ArrayList" (63 : Nat) "java/util/ArrayList" "modCount" "I" ∈ TBg := tb_in 1280 (by decide +kernel) (by decide +kernel)
theorem tw_1288 : Jvm.Cond.fieldLink "SharedairModel" (26 : Nat) "SharedairModel" "thrown" "I" ∈ TBg := tb_in 1288 (by decide +kernel) (by decide +kernel)
theorem tw_1289 : Jvm.Cond.fieldLink "SharedairModel" (111 : Nat) "SharedairModel" "slot" "I" ∈ TBg := tb_in 1289 (by decide +kernel) (by decide +kernel)
theorem tw_1290 : Jvm.Cond.fieldLink "SharedairModel" (7 : Nat) "SharedairModel" "luck" "I" ∈ TBg := tb_in 1290 (by decide +kernel) (by decide +kernel)
theorem tw_1291 : Jvm.Cond.fieldLink "SharedairModel" (168 : Nat) "SharedairModel" "delivered" "I" ∈ TBg := tb_in 1291 (by decide +kernel) (by decide +kernel)
theorem tw_1292 : Jvm.Cond.fieldLink "SharedairModel" (165 : Nat) "SharedairModel" "doubles" "I" ∈ TBg := tb_in 1292 (by decide +kernel) (by decide +kernel)
theorem tw_1293 : Jvm.Cond.fieldLink "SharedairModel" (120 : Nat) "SharedairModel" "dropped" "I" ∈ TBg := tb_in 1293 (by decide +kernel) (by decide +kernel)
theorem tw_1294 : Jvm.Cond.fieldLink "SharedairModel" (218 : Nat) "SharedairModel" "exchanges" "I" ∈ TBg := tb_in 1294 (by decide +kernel) (by decide +kernel)
theorem tw_1295 : Jvm.Cond.fieldLink "SharedairModel" (240 : Nat) "SharedairModel" "paid" "I" ∈ TBg := tb_in 1295 (by decide +kernel) (by decide +kernel)
theorem tw_1296 : Jvm.Cond.fieldLink "SharedairModel" (246 : Nat) "SharedairModel" "refused" "I" ∈ TBg := tb_in 1296 (by decide +kernel) (by decide +kernel)
theorem tw_1297 : Jvm.Cond.fieldLink "SharedairModel" (16 : Nat) "SharedairModel" "nodes" "Ljava/util/ArrayList;" ∈ TBg := tb_in 1297 (by decide +kernel) (by decide +kernel)
theorem tw_1298 : Jvm.Cond.fieldLink "SharedairModel" (20 : Nat) "SharedairModel" "arrived" "Ljava/util/ArrayList;" ∈ TBg := tb_in 1298 (by decide +kernel) (by decide +kernel)
theorem tw_1299 : Jvm.Cond.fieldLink "SharedairModel" (23 : Nat) "SharedairModel" "bids" "Ljava/util/ArrayList;" ∈ TBg := tb_in 1299 (by decide +kernel) (by decide +kernel)
theorem tw_1325 : Jvm.Cond.methodLink "SharedairLaw" (94 : Nat) ({ cls := "SharedairModel", name := "thrown", desc := "()I" } : Jvm.MethodName) ∈ TBg := tb_in 1325 (by decide +kernel) (by decide +kernel)
theorem tw_1326 : Jvm.Cond.instanceMethod ({ cls := "SharedairModel", name := "thrown", desc := "()I" } : Jvm.MethodName) ∈ TBg := tb_in 1326 (by decide +kernel) (by decide +kernel)
theorem tw_1327 : Jvm.Cond.selects "SharedairModel" ({ cls := "SharedairModel", name := "thrown", desc := "()I" } : Jvm.MethodName) ({ cls := "SharedairModel", name := "thrown", desc := "()I" } : Jvm.MethodName) ∈ TBg := tb_in 1327 (by decide +kernel) (by decide +kernel)
theorem tw_1328 : Jvm.Cond.code ({ cls := "SharedairModel", name := "thrown", desc := "()I" } : Jvm.MethodName) prog_12_method_5_code (1 : Nat) (Option.some Jvm.ClassFile.FieldType.int) ∈ TBg := tb_in 1328 (by decide +kernel) (by decide +kernel)
theorem tw_1329 : Jvm.Cond.methodLink "SharedairLaw" (93 : Nat) ({ cls := "SharedairModel", name := "node", desc := "(IIIZ)I" } : Jvm.MethodName) ∈ TBg := tb_in 1329 (by decide +kernel) (by decide +kernel)
theorem tw_1330 : Jvm.Cond.instanceMethod ({ cls := "SharedairModel", name := "node", desc := "(IIIZ)I" } : Jvm.MethodName) ∈ TBg := tb_in 1330 (by decide +kernel) (by decide +kernel)
theorem tw_1331 : Jvm.Cond.selects "SharedairModel" ({ cls := "SharedairModel", name := "node", desc := "(IIIZ)I" } : Jvm.MethodName) ({ cls := "SharedairModel", name := "node", desc := "(IIIZ)I" } : Jvm.MethodName) ∈ TBg := tb_in 1331 (by decide +kernel) (by decide +kernel)
theorem tw_1332 : Jvm.Cond.code ({ cls := "SharedairModel", name := "node", desc := "(IIIZ)I" } : Jvm.MethodName) prog_12_method_14_code (5 : Nat) (Option.some Jvm.ClassFile.FieldType.int) ∈ TBg := tb_in 1332 (by decide +kernel) (by decide +kernel)
theorem tw_1333 : Jvm.Cond.methodLink "SharedairModel" (37 : Nat) ({ cls := "SharedairModel", name := "isIn", desc := "(III)Z" } : Jvm.MethodName) ∈ TBg := tb_in 1333 (by decide +kernel) (by decide +kernel)
theorem tw_1334 : Jvm.Cond.static ({ cls := "SharedairModel", name := "isIn", desc := "(III)Z" } : Jvm.MethodName) ∈ TBg := tb_in 1334 (by decide +kernel) (by decide +kernel)
theorem tw_1335 : Jvm.Cond.code ({ cls := "SharedairModel", name := "isIn", desc := "(III)Z" } : Jvm.MethodName) prog_12_method_2_code (3 : Nat) (Option.some Jvm.ClassFile.FieldType.boolean) ∈ TBg := tb_in 1335 (by decide +kernel) (by decide +kernel)
theorem tw_1336 : Jvm.Cond.methodLink "SharedairModel" (71 : Nat) ({ cls := "SharedairModel", name := "start", desc := "(ZI)Z" } : Jvm.MethodName) ∈ TBg := tb_in 1336 (by decide +kernel) (by decide +kernel)
theorem tw_1338 : Jvm.Cond.instanceMethod ({ cls := "SharedairModel", name := "start", desc := "(ZI)Z" } : Jvm.MethodName) ∈ TBg := tb_in 1338 (by decide +kernel) (by decide +kernel)
theorem tw_1339 : Jvm.Cond.code ({ cls := "SharedairModel", name := "start", desc := "(ZI)Z" } : Jvm.MethodName) prog_12_method_7_code (3 : Nat) (Option.some Jvm.ClassFile.FieldType.boolean) ∈ TBg := tb_in 1339 (by decide +kernel) (by decide +kernel)
theorem tw_1340 : Jvm.Cond.methodLink "SharedairModel" (29 : Nat) ({ cls := "SharedairModel", name := "refuse", desc := "(ZI)Z" } : Jvm.MethodName) ∈ TBg := tb_in 1340 (by decide +kernel) (by decide +kernel)
theorem tw_1342 : Jvm.Cond.instanceMethod ({ cls := "SharedairModel", name := "refuse", desc := "(ZI)Z" } : Jvm.MethodName) ∈ TBg := tb_in 1342 (by decide +kernel) (by decide +kernel)
theorem tw_1343 : Jvm.Cond.code ({ cls := "SharedairModel", name := "refuse", desc := "(ZI)Z" } : Jvm.MethodName) prog_12_method_6_code (3 : Nat) (Option.some Jvm.ClassFile.FieldType.boolean) ∈ TBg := tb_in 1343 (by decide +kernel) (by decide +kernel)
theorem tw_1344 : Jvm.Cond.methodLink "SharedairModel" (33 : Nat) ({ cls := "java/util/ArrayList", name := "size", desc := "()I" } : Jvm.MethodName) ∈ TBg := tb_in 1344 (by decide +kernel) (by decide +kernel)
theorem tw_1345 : Jvm.Cond.instanceMethod ({ cls := "java/util/ArrayList", name := "size", desc := "()I" } : Jvm.MethodName) ∈ TBg := tb_in 1345 (by decide +kernel) (by decide +kernel)
theorem tw_1346 : Jvm.Cond.selects "java/util/ArrayList" ({ cls := "java/util/ArrayList", name := "size", desc := "()I" } : Jvm.MethodName) ({ cls := "java/util/ArrayList", name := "size", desc := "()I" } : Jvm.MethodName) ∈ TBg := tb_in 1346 (by decide +kernel) (by decide +kernel)
theorem tw_1347 : Jvm.Cond.code ({ cls := "java/util/ArrayList", name := "size", desc := "()I" } : Jvm.MethodName) prog_40_method_8_code (1 : Nat) (Option.some Jvm.ClassFile.FieldType.int) ∈ TBg := tb_in 1347 (by decide +kernel) (by decide +kernel)
theorem tw_1348 : Jvm.Cond.classLink "SharedairModel" (45 : Nat) "SharedairModel$Node" ∈ TBg := tb_in 1348 (by decide +kernel) (by decide +kernel)
theorem tw_1349 : Jvm.Cond.instantiable "SharedairModel$Node" (18 : Nat) ∈ TBg := tb_in 1349 (by decide +kernel) (by decide +kernel)
theorem tw_1350 : Jvm.Cond.methodLink "SharedairModel" (74 : Nat) ({ cls := "SharedairModel$Node", name := "<init>", desc := "(IIIZ)V" } : Jvm.MethodName) ∈ TBg := tb_in 1350 (by decide +kernel) (by decide +kernel)
theorem tw_1351 : Jvm.Cond.instanceMethod ({ cls := "SharedairModel$Node", name := "<init>", desc := "(IIIZ)V" } : Jvm.MethodName) ∈ TBg := tb_in 1351 (by decide +kernel) (by decide +kernel)
theorem tw_1352 : Jvm.Cond.code ({ cls := "SharedairModel$Node", name := "<init>", desc := "(IIIZ)V" } : Jvm.MethodName) prog_13_method_1_code (6 : Nat) (Option.none : Option Jvm.ClassFile.FieldType) ∈ TBg := tb_in 1352 (by decide +kernel) (by decide +kernel)
theorem tw_1353 : Jvm.Cond.methodLink "SharedairModel$Node" (3 : Nat) ({ cls := "java/lang/Object", name := "<init>", desc := "()V" } : Jvm.MethodName) ∈ TBg := tb_in 1353 (by decide +kernel) (by decide +kernel)
theorem tw_1354 : Jvm.Cond.classLink "SharedairModel$Node" (9 : Nat) "java/util/ArrayList" ∈ TBg := tb_in 1354 (by decide +kernel) (by decide +kernel)
theorem tw_1355 : Jvm.Cond.methodLink "SharedairModel$Node" (11 : Nat) ({ cls := "java/util/ArrayList", name := "<init>", desc := "()V" } : Jvm.MethodName) ∈ TBg := tb_in 1355 (by decide +kernel) (by decide +kernel)
theorem tw_1356 : Jvm.Cond.fieldLink "SharedairModel$Node" (29 : Nat) "SharedairModel$Node" "x" "I" ∈ TBg := tb_in 1356 (by decide +kernel) (by decide +kernel)
theorem tw_1357 : Jvm.Cond.fieldLink "SharedairModel" (47 : Nat) "SharedairModel$Node" "x" "I" ∈ TBg := tb_in 1357 (by decide +kernel) (by decide +kernel)
theorem tw_1358 : Jvm.Cond.fieldLink "SharedairModel$Node" (32 : Nat) "SharedairModel$Node" "y" "I" ∈ TBg := tb_in 1358 (by decide +kernel) (by decide +kernel)
theorem tw_1359 : Jvm.Cond.fieldLink "SharedairModel" (50 : Nat) "SharedairModel$Node" "y" "I" ∈ TBg := tb_in 1359 (by decide +kernel) (by decide +kernel)
theorem tw_1360 : Jvm.Cond.fieldLink "SharedairModel$Node" (35 : Nat) "SharedairModel$Node" "reach" "I" ∈ TBg := tb_in 1360 (by decide +kernel) (by decide +kernel)
theorem tw_1361 : Jvm.Cond.fieldLink "SharedairModel" (57 : Nat) "SharedairModel$Node" "reach" "I" ∈ TBg := tb_in 1361 (by decide +kernel) (by decide +kernel)
theorem tw_1362 : Jvm.Cond.fieldLink "SharedairModel$Node" (38 : Nat) "SharedairModel$Node" "isCheat" "Z" ∈ TBg := tb_in 1362 (by decide +kernel) (by decide +kernel)
theorem tw_1363 : Jvm.Cond.fieldLink "SharedairModel" (98 : Nat) "SharedairModel$Node" "isCheat" "Z" ∈ TBg := tb_in 1363 (by decide +kernel) (by decide +kernel)
theorem tw_1364 : Jvm.Cond.fieldLink "SharedairModel$Node" (12 : Nat) "SharedairModel$Node" "queue" "Ljava/util/ArrayList;" ∈ TBg := tb_in 1364 (by decide +kernel) (by decide +kernel)
theorem tw_1365 : Jvm.Cond.fieldLink "SharedairModel" (102 : Nat) "SharedairModel$Node" "queue" "Ljava/util/ArrayList;" ∈ TBg := tb_in 1365 (by decide +kernel) (by decide +kernel)
theorem tw_1366 : Jvm.Cond.fieldLink "SharedairModel" (123 : Nat) "SharedairModel$Node" "wait" "I" ∈ TBg := tb_in 1366 (by decide +kernel) (by decide +kernel)
theorem tw_1367 : Jvm.Cond.fieldLink "SharedairModel" (117 : Nat) "SharedairModel$Node" "tries" "I" ∈ TBg := tb_in 1367 (by decide +kernel) (by decide +kernel)
theorem tw_1368 : Jvm.Cond.fieldLink "SharedairModel$Node" (42 : Nat) "SharedairModel$Node" "left" "I" ∈ TBg := tb_in 1368 (by decide +kernel) (by decide +kernel)
theorem tw_1369 : Jvm.Cond.fieldLink "SharedairModel" (138 : Nat) "SharedairModel$Node" "left" "I" ∈ TBg := tb_in 1369 (by decide +kernel) (by decide +kernel)
theorem tw_1370 : Jvm.Cond.fieldLink "SharedairModel$Node" (18 : Nat) "SharedairModel$Node" "next" "I" ∈ TBg := tb_in 1370 (by decide +kernel) (by decide +kernel)
theorem tw_1371 : Jvm.Cond.fieldLink "SharedairModel" (135 : Nat) "SharedairModel$Node" "next" "I" ∈ TBg := tb_in 1371 (by decide +kernel) (by decide +kernel)
theorem tw_1372 : Jvm.Cond.fieldLink "SharedairModel" (141 : Nat) "SharedairModel$Node" "isHeard" "Z" ∈ TBg := tb_in 1372 (by decide +kernel) (by decide +kernel)
theorem tw_1373 : Jvm.Cond.fieldLink "SharedairModel" (108 : Nat) "SharedairModel$Node" "since" "I" ∈ TBg := tb_in 1373 (by decide +kernel) (by decide +kernel)
theorem tw_1374 : Jvm.Cond.fieldLink "SharedairModel" (196 : Nat) "SharedairModel$Node" "air" "I" ∈ TBg := tb_in 1374 (by decide +kernel) (by decide +kernel)
theorem tw_1375 : Jvm.Cond.fieldLink "SharedairModel" (144 : Nat) "SharedairModel$Node" "starts" "I" ∈ TBg := tb_in 1375 (by decide +kernel) (by decide +kernel)
theorem tw_1376 : Jvm.Cond.fieldLink "SharedairModel" (178 : Nat) "SharedairModel$Node" "patience" "I" ∈ TBg := tb_in 1376 (by decide +kernel) (by decide +kernel)
theorem tw_1377 : Jvm.Cond.fieldLink "SharedairModel" (181 : Nat) "SharedairModel$Node" "repeats" "I" ∈ TBg := tb_in 1377 (by decide +kernel) (by decide +kernel)
theorem tw_1378 : Jvm.Cond.fieldLink "SharedairModel" (105 : Nat) "SharedairModel$Node" "sent" "I" ∈ TBg := tb_in 1378 (by decide +kernel) (by decide +kernel)
theorem tw_1379 : Jvm.Cond.fieldLink "SharedairModel$Node" (22 : Nat) "SharedairModel$Node" "costs" "[I" ∈ TBg := tb_in 1379 (by decide +kernel) (by decide +kernel)
theorem tw_1380 : Jvm.Cond.fieldLink "SharedairModel" (209 : Nat) "SharedairModel$Node" "costs" "[I" ∈ TBg := tb_in 1380 (by decide +kernel) (by decide +kernel)
theorem tw_1381 : Jvm.Cond.fieldLink "SharedairModel$Node" (26 : Nat) "SharedairModel$Node" "routes" "[I" ∈ TBg := tb_in 1381 (by decide +kernel) (by decide +kernel)
theorem tw_1382 : Jvm.Cond.fieldLink "SharedairModel" (126 : Nat) "SharedairModel$Node" "routes" "[I" ∈ TBg := tb_in 1382 (by decide +kernel) (by decide +kernel)
theorem tw_1420 : Jvm.Cond.methodLink "SharedairModel" (77 : Nat) ({ cls := "java/util/ArrayList", name := "add", desc := "(Ljava/lang/Object;)Z" } : Jvm.MethodName) ∈ TBg := tb_in 1420 (by decide +kernel) (by decide +kernel)
theorem tw_1421 : Jvm.Cond.instanceMethod ({ cls := "java/util/ArrayList", name := "add", desc := "(Ljava/lang/Object;)Z" } : Jvm.MethodName) ∈ TBg := tb_in 1421 (by decide +kernel) (by decide +kernel)
theorem tw_1422 : Jvm.Cond.selects "java/util/ArrayList" ({ cls := "java/util/ArrayList", name := "add", desc := "(Ljava/lang/Object;)Z" } : Jvm.MethodName) ({ cls := "java/util/ArrayList", name := "add", desc := "(Ljava/lang/Object;)Z" } : Jvm.MethodName) ∈ TBg := tb_in 1422 (by decide +kernel) (by decide +kernel)
theorem tw_1423 : Jvm.Cond.code ({ cls := "java/util/ArrayList", name := "add", desc := "(Ljava/lang/Object;)Z" } : Jvm.MethodName) prog_40_method_25_code (2 : Nat) (Option.some Jvm.ClassFile.FieldType.boolean) ∈ TBg := tb_in 1423 (by decide +kernel) (by decide +kernel)
theorem tw_1424 : Jvm.Cond.methodLink "java/util/ArrayList" (131 : Nat) ({ cls := "java/util/ArrayList", name := "add", desc := "(Ljava/lang/Object;[Ljava/lang/Object;I)V" } : Jvm.MethodName) ∈ TBg := tb_in 1424 (by decide +kernel) (by decide +kernel)
theorem tw_1426 : Jvm.Cond.instanceMethod ({ cls := "java/util/ArrayList", name := "add", desc := "(Ljava/lang/Object;[Ljava/lang/Object;I)V" } : Jvm.MethodName) ∈ TBg := tb_in 1426 (by decide +kernel) (by decide +kernel)
theorem tw_1427 : Jvm.Cond.code ({ cls := "java/util/ArrayList", name := "add", desc := "(Ljava/lang/Object;[Ljava/lang/Object;I)V" } : Jvm.MethodName) prog_40_method_24_code (4 : Nat) (Option.none : Option Jvm.ClassFile.FieldType) ∈ TBg := tb_in 1427 (by decide +kernel) (by decide +kernel)
theorem tw_1428 : Jvm.Cond.methodLink "java/util/ArrayList" (129 : Nat) ({ cls := "java/util/ArrayList", name := "grow", desc := "()[Ljava/lang/Object;" } : Jvm.MethodName) ∈ TBg := tb_in 1428 (by decide +kernel) (by decide +kernel)
theorem tw_1430 : Jvm.Cond.instanceMethod ({ cls := "java/util/ArrayList", name := "grow", desc := "()[Ljava/lang/Object;" } : Jvm.MethodName) ∈ TBg := tb_in 1430 (by decide +kernel) (by decide +kernel)
theorem tw_1431 : Jvm.Cond.code ({ cls := "java/util/ArrayList", name := "grow", desc := "()[Ljava/lang/Object;" } : Jvm.MethodName) prog_40_method_7_code (1 : Nat) (Option.some (Jvm.ClassFile.FieldType.array (Jvm.ClassFile.FieldType.object "java/lang/Object"))) ∈ TBg := tb_in 1431 (by decide +kernel) (by decide +kernel)
theorem tw_1432 : Jvm.Cond.methodLink "java/util/ArrayList" (69 : Nat) ({ cls := "java/util/ArrayList", name := "grow", desc := "(I)[Ljava/lang/Object;" } : Jvm.MethodName) ∈ TBg := tb_in 1432 (by decide +kernel) (by decide +kernel)
theorem tw_1434 : Jvm.Cond.instanceMethod ({ cls := "java/util/ArrayList", name := "grow", desc := "(I)[Ljava/lang/Object;" } : Jvm.MethodName) ∈ TBg := tb_in 1434 (by decide +kernel) (by decide +kernel)
theorem tw_1435 : Jvm.Cond.code ({ cls := "java/util/ArrayList", name := "grow", desc := "(I)[Ljava/lang/Object;" } : Jvm.MethodName) prog_40_method_6_code (4 : Nat) (Option.some (Jvm.ClassFile.FieldType.array (Jvm.ClassFile.FieldType.object "java/lang/Object"))) ∈ TBg := tb_in 1435 (by decide +kernel) (by decide +kernel)
theorem tw_1436 : Jvm.Cond.methodLink "java/util/ArrayList" (73 : Nat) ({ cls := "jdk/internal/util/ArraysSupport", name := "newLength", desc := "(III)I" } : Jvm.MethodName) ∈ TBg := tb_in 1436 (by decide +kernel) (by decide +kernel)
theorem tw_1437 : Jvm.Cond.methodLink "java/util/ArrayList" (66 : Nat) ({ cls := "java/util/Arrays", name := "copyOf", desc := "([Ljava/lang/Object;I)[Ljava/lang/Object;" } : Jvm.MethodName) ∈ TBg := tb_in 1437 (by decide +kernel) (by decide +kernel)
theorem tw_1438 : Jvm.Cond.static ({ cls := "java/util/Arrays", name := "copyOf", desc := "([Ljava/lang/Object;I)[Ljava/lang/Object;" } : Jvm.MethodName) ∈ TBg := tb_in 1438 (by decide +kernel) (by decide +kernel)
theorem tw_1439 : Jvm.Cond.code ({ cls := "java/util/Arrays", name := "copyOf", desc := "([Ljava/lang/Object;I)[Ljava/lang/Object;" } : Jvm.MethodName) prog_42_method_119_code (2 : Nat) (Option.some (Jvm.ClassFile.FieldType.array (Jvm.ClassFile.FieldType.object "java/lang/Object"))) ∈ TBg := tb_in 1439 (by decide +kernel) (by decide +kernel)
theorem tw_1440 : Jvm.Cond.methodLink "java/util/Arrays" (86 : Nat) ({ cls := "java/lang/Object", name := "getClass", desc := "()Ljava/lang/Class;" } : Jvm.MethodName) ∈ TBg := tb_in 1440 (by decide +kernel) (by decide +kernel)
theorem tw_1441 : Jvm.Cond.instanceMethod ({ cls := "java/lang/Object", name := "getClass", desc := "()Ljava/lang/Class;" } : Jvm.MethodName) ∈ TBg := tb_in 1441 (by decide +kernel) (by decide +kernel)
theorem tw_1462 : Jvm.Cond.native ({ cls := "java/lang/Object", name := "getClass", desc := "()Ljava/lang/Class;" } : Jvm.MethodName) ∈ TBg := tb_in 1462 (by decide +kernel) (by decide +kernel)
theorem tw_1463 : Jvm.Cond.methodLink "java/util/Arrays" (300 : Nat) ({ cls := "java/util/Arrays", name := "copyOf", desc := "([Ljava/lang/Object;ILjava/lang/Class;)[Ljava/lang/Object;" } : Jvm.MethodName) ∈ TBg := tb_in 1463 (by decide +kernel) (by decide +kernel)
theorem tw_1464 : Jvm.Cond.static ({ cls := "java/util/Arrays", name := "copyOf", desc := "([Ljava/lang/Object;ILjava/lang/Class;)[Ljava/lang/Object;" } : Jvm.MethodName) ∈ TBg := tb_in 1464 (by decide +kernel) (by decide +kernel)
theorem tw_1465 : Jvm.Cond.code ({ cls := "java/util/Arrays", name := "copyOf", desc := "([Ljava/lang/Object;ILjava/lang/Class;)[Ljava/lang/Object;" } : Jvm.MethodName) prog_42_method_120_code (4 : Nat) (Option.some (Jvm.ClassFile.FieldType.array (Jvm.ClassFile.FieldType.object "java/lang/Object"))) ∈ TBg := tb_in 1465 (by decide +kernel) (by decide +kernel)
theorem tw_1466 : Jvm.Cond.classLink "java/util/Arrays" (110 : Nat) "[Ljava/lang/Object;" ∈ TBg := tb_in 1466 (by decide +kernel) (by decide +kernel)
theorem tw_1468 : Jvm.Cond.classLink "java/util/Arrays" (2 : Nat) "java/lang/Object" ∈ TBg := tb_in 1468 (by decide +kernel) (by decide +kernel)
theorem tw_1469 : Jvm.Cond.methodLink "java/util/ArrayList" (79 : Nat) ({ cls := "java/lang/Math", name := "max", desc := "(II)I" } : Jvm.MethodName) ∈ TBg := tb_in 1469 (by decide +kernel) (by decide +kernel)
theorem tw_1470 : Jvm.Cond.classLink "java/util/ArrayList" (7 : Nat) "java/lang/Object" ∈ TBg := tb_in 1470 (by decide +kernel) (by decide +kernel)
theorem tw_1471 : Jvm.Cond.methodLink "SharedairLaw" (101 : Nat) ({ cls := "SharedairModel", name := "move", desc := "(III)I" } : Jvm.MethodName) ∈ TBg := tb_in 1471 (by decide +kernel) (by decide +kernel)
theorem tw_1472 : Jvm.Cond.instanceMethod ({ cls := "SharedairModel", name := "move", desc := "(III)I" } : Jvm.MethodName) ∈ TBg := tb_in 1472 (by decide +kernel) (by decide +kernel)
theorem tw_1473 : Jvm.Cond.selects "SharedairModel" ({ cls := "SharedairModel", name := "move", desc := "(III)I" } : Jvm.MethodName) ({ cls := "SharedairModel", name := "move", desc := "(III)I" } : Jvm.MethodName) ∈ TBg := tb_in 1473 (by decide +kernel) (by decide +kernel)
theorem tw_1474 : Jvm.Cond.code ({ cls := "SharedairModel", name := "move", desc := "(III)I" } : Jvm.MethodName) prog_12_method_15_code (4 : Nat) (Option.some Jvm.ClassFile.FieldType.int) ∈ TBg := tb_in 1474 (by decide +kernel) (by decide +kernel)
theorem tw_1475 : Jvm.Cond.methodLink "SharedairModel" (81 : Nat) ({ cls := "SharedairModel", name := "isNobody", desc := "(I)Z" } : Jvm.MethodName) ∈ TBg := tb_in 1475 (by decide +kernel) (by decide +kernel)
theorem tw_1477 : Jvm.Cond.instanceMethod ({ cls := "SharedairModel", name := "isNobody", desc := "(I)Z" } : Jvm.MethodName) ∈ TBg := tb_in 1477 (by decide +kernel) (by decide +kernel)
theorem tw_1478 : Jvm.Cond.code ({ cls := "SharedairModel", name := "isNobody", desc := "(I)Z" } : Jvm.MethodName) prog_12_method_8_code (2 : Nat) (Option.some Jvm.ClassFile.FieldType.boolean) ∈ TBg := tb_in 1478 (by decide +kernel) (by decide +kernel)
theorem tw_1479 : Jvm.Cond.methodLink "SharedairModel" (41 : Nat) ({ cls := "java/util/ArrayList", name := "get", desc := "(I)Ljava/lang/Object;" } : Jvm.MethodName) ∈ TBg := tb_in 1479 (by decide +kernel) (by decide +kernel)
theorem tw_1480 : Jvm.Cond.instanceMethod ({ cls := "java/util/ArrayList", name := "get", desc := "(I)Ljava/lang/Object;" } : Jvm.MethodName) ∈ TBg := tb_in 1480 (by decide +kernel) (by decide +kernel)
theorem tw_1481 : Jvm.Cond.selects "java/util/ArrayList" ({ cls := "java/util/ArrayList", name := "get", desc := "(I)Ljava/lang/Object;" } : Jvm.MethodName) ({ cls := "java/util/ArrayList", name := "get", desc := "(I)Ljava/lang/Object;" } : Jvm.MethodName) ∈ TBg := tb_in 1481 (by decide +kernel) (by decide +kernel)
theorem tw_1482 : Jvm.Cond.code ({ cls := "java/util/ArrayList", name := "get", desc := "(I)Ljava/lang/Object;" } : Jvm.MethodName) prog_40_method_20_code (2 : Nat) (Option.some (Jvm.ClassFile.FieldType.object "java/lang/Object")) ∈ TBg := tb_in 1482 (by decide +kernel) (by decide +kernel)
theorem tw_1483 : Jvm.Cond.methodLink "java/util/ArrayList" (118 : Nat) ({ cls := "java/util/Objects", name := "checkIndex", desc := "(II)I" } : Jvm.MethodName) ∈ TBg := tb_in 1483 (by decide +kernel) (by decide +kernel)
theorem tw_1484 : Jvm.Cond.static ({ cls := "java/util/Objects", name := "checkIndex", desc := "(II)I" } : Jvm.MethodName) ∈ TBg := tb_in 1484 (by decide +kernel) (by decide +kernel)
theorem tw_1485 : Jvm.Cond.code ({ cls := "java/util/Objects", name := "checkIndex", desc := "(II)I" } : Jvm.MethodName) prog_46_method_17_code (2 : Nat) (Option.some Jvm.ClassFile.FieldType.int) ∈ TBg := tb_in 1485 (by decide +kernel) (by decide +kernel)
theorem tw_1486 : Jvm.Cond.methodLink "java/util/Objects" (105 : Nat) ({ cls := "jdk/internal/util/Preconditions", name := "checkIndex", desc := "(IILjava/util/function/BiFunction;)I" } : Jvm.MethodName) ∈ TBg := tb_in 1486 (by decide +kernel) (by decide +kernel)
theorem tw_1487 : Jvm.Cond.methodLink "java/util/ArrayList" (123 : Nat) ({ cls := "java/util/ArrayList", name := "elementData", desc := "(I)Ljava/lang/Object;" } : Jvm.MethodName) ∈ TBg := tb_in 1487 (by decide +kernel) (by decide +kernel)
theorem tw_1488 : Jvm.Cond.instanceMethod ({ cls := "java/util/ArrayList", name := "elementData", desc := "(I)Ljava/lang/Object;" } : Jvm.MethodName) ∈ TBg := tb_in 1488 (by decide +kernel) (by decide +kernel)
theorem tw_1489 : Jvm.Cond.selects "java/util/ArrayList" ({ cls := "java/util/ArrayList", name := "elementData", desc := "(I)Ljava/lang/Object;" } : Jvm.MethodName) ({ cls := "java/util/ArrayList", name := "elementData", desc := "(I)Ljava/lang/Object;" } : Jvm.MethodName) ∈ TBg := tb_in 1489 (by decide +kernel) (by decide +kernel)
theorem tw_1490 : Jvm.Cond.code ({ cls := "java/util/ArrayList", name := "elementData", desc := "(I)Ljava/lang/Object;" } : Jvm.MethodName) prog_40_method_18_code (2 : Nat) (Option.some (Jvm.ClassFile.FieldType.object "java/lang/Object")) ∈ TBg := tb_in 1490 (by decide +kernel) (by decide +kernel)
theorem tw_1491 : Jvm.Cond.methodLink "SharedairModel" (85 : Nat) ({ cls := "SharedairModel$Node", name := "sends", desc := "()Z" } : Jvm.MethodName) ∈ TBg := tb_in 1491 (by decide +kernel) (by decide +kernel)
theorem tw_1492 : Jvm.Cond.instanceMethod ({ cls := "SharedairModel$Node", name := "sends", desc := "()Z" } : Jvm.MethodName) ∈ TBg := tb_in 1492 (by decide +kernel) (by decide +kernel)
theorem tw_1493 : Jvm.Cond.selects "SharedairModel$Node" ({ cls := "SharedairModel$Node", name := "sends", desc := "()Z" } : Jvm.MethodName) ({ cls := "SharedairModel$Node", name := "sends", desc := "()Z" } : Jvm.MethodName) ∈ TBg := tb_in 1493 (by decide +kernel) (by decide +kernel)
theorem tw_1494 : Jvm.Cond.code ({ cls := "SharedairModel$Node", name := "sends", desc := "()Z" } : Jvm.MethodName) prog_13_method_2_code (1 : Nat) (Option.some Jvm.ClassFile.FieldType.boolean) ∈ TBg := tb_in 1494 (by decide +kernel) (by decide +kernel)
theorem tw_1495 : Jvm.Cond.methodLink "SharedairModel" (89 : Nat) ({ cls := "SharedairModel", name := "links", desc := "(I)I" } : Jvm.MethodName) ∈ TBg := tb_in 1495 (by decide +kernel) (by decide +kernel)
theorem tw_1497 : Jvm.Cond.instanceMethod ({ cls := "SharedairModel", name := "links", desc := "(I)I" } : Jvm.MethodName) ∈ TBg := tb_in 1497 (by decide +kernel) (by decide +kernel)
theorem tw_1498 : Jvm.Cond.code ({ cls := "SharedairModel", name := "links", desc := "(I)I" } : Jvm.MethodName) prog_12_method_13_code (4 : Nat) (Option.some Jvm.ClassFile.FieldType.int) ∈ TBg := tb_in 1498 (by decide +kernel) (by decide +kernel)
theorem tw_1499 : Jvm.Cond.methodLink "SharedairModel" (64 : Nat) ({ cls := "SharedairModel", name := "areLinked", desc := "(II)Z" } : Jvm.MethodName) ∈ TBg := tb_in 1499 (by decide +kernel) (by decide +kernel)
theorem tw_1501 : Jvm.Cond.instanceMethod ({ cls := "SharedairModel", name := "areLinked", desc := "(II)Z" } : Jvm.MethodName) ∈ TBg := tb_in 1501 (by decide +kernel) (by decide +kernel)
theorem tw_1502 : Jvm.Cond.code ({ cls := "SharedairModel", name := "areLinked", desc := "(II)Z" } : Jvm.MethodName) prog_12_method_12_code (3 : Nat) (Option.some Jvm.ClassFile.FieldType.boolean) ∈ TBg := tb_in 1502 (by decide +kernel) (by decide +kernel)
theorem tw_1503 : Jvm.Cond.methodLink "SharedairModel" (60 : Nat) ({ cls := "SharedairModel", name := "hearsIt", desc := "(II)Z" } : Jvm.MethodName) ∈ TBg := tb_in 1503 (by decide +kernel) (by decide +kernel)
theorem tw_1505 : Jvm.Cond.instanceMethod ({ cls := "SharedairModel", name := "hearsIt", desc := "(II)Z" } : Jvm.MethodName) ∈ TBg := tb_in 1505 (by decide +kernel) (by decide +kernel)
theorem tw_1506 : Jvm.Cond.code ({ cls := "SharedairModel", name := "hearsIt", desc := "(II)Z" } : Jvm.MethodName) prog_12_method_11_code (3 : Nat) (Option.some Jvm.ClassFile.FieldType.boolean) ∈ TBg := tb_in 1506 (by decide +kernel) (by decide +kernel)
theorem tw_1507 : Jvm.Cond.methodLink "SharedairModel" (53 : Nat) ({ cls := "SharedairModel", name := "far", desc := "(II)I" } : Jvm.MethodName) ∈ TBg := tb_in 1507 (by decide +kernel) (by decide +kernel)
theorem tw_1509 : Jvm.Cond.instanceMethod ({ cls := "SharedairModel", name := "far", desc := "(II)I" } : Jvm.MethodName) ∈ TBg := tb_in 1509 (by decide +kernel) (by decide +kernel)
theorem tw_1510 : Jvm.Cond.code ({ cls := "SharedairModel", name := "far", desc := "(II)I" } : Jvm.MethodName) prog_12_method_10_code (5 : Nat) (Option.some Jvm.ClassFile.FieldType.int) ∈ TBg := tb_in 1510 (by decide +kernel) (by decide +kernel)
theorem tw_1511 : Jvm.Cond.methodLink "SharedairModel" (67 : Nat) ({ cls := "SharedairModel", name := "one", desc := "(Z)I" } : Jvm.MethodName) ∈ TBg := tb_in 1511 (by decide +kernel) (by decide +kernel)
theorem tw_1512 : Jvm.Cond.static ({ cls := "SharedairModel", name := "one", desc := "(Z)I" } : Jvm.MethodName) ∈ TBg := tb_in 1512 (by decide +kernel) (by decide +kernel)
theorem tw_1513 : Jvm.Cond.code ({ cls := "SharedairModel", name := "one", desc := "(Z)I" } : Jvm.MethodName) prog_12_method_3_code (1 : Nat) (Option.some Jvm.ClassFile.FieldType.int) ∈ TBg := tb_in 1513 (by decide +kernel) (by decide +kernel)
theorem tw_1514 : Jvm.Cond.methodLink "SharedairModel" (93 : Nat) ({ cls := "java/lang/Integer", name := "bitCount", desc := "(I)I" } : Jvm.MethodName) ∈ TBg := tb_in 1514 (by decide +kernel) (by decide +kernel)
theorem tw_1515 : Jvm.Cond.methodLink "SharedairLaw" (105 : Nat) ({ cls := "SharedairModel", name := "tune", desc := "(IIZ)I" } : Jvm.MethodName) ∈ TBg := tb_in 1515 (by decide +kernel) (by decide +kernel)
theorem tw_1516 : Jvm.Cond.instanceMethod ({ cls := "SharedairModel", name := "tune", desc := "(IIZ)I" } : Jvm.MethodName) ∈ TBg := tb_in 1516 (by decide +kernel) (by decide +kernel)
theorem tw_1517 : Jvm.Cond.selects "SharedairModel" ({ cls := "SharedairModel", name := "tune", desc := "(IIZ)I" } : Jvm.MethodName) ({ cls := "SharedairModel", name := "tune", desc := "(IIZ)I" } : Jvm.MethodName) ∈ TBg := tb_in 1517 (by decide +kernel) (by decide +kernel)
theorem tw_1518 : Jvm.Cond.code ({ cls := "SharedairModel", name := "tune", desc := "(IIZ)I" } : Jvm.MethodName) prog_12_method_16_code (5 : Nat) (Option.some Jvm.ClassFile.FieldType.int) ∈ TBg := tb_in 1518 (by decide +kernel) (by decide +kernel)
theorem tw_1519 : Jvm.Cond.methodLink "SharedairLaw" (108 : Nat) ({ cls := "SharedairModel", name := "send", desc := "(III)I" } : Jvm.MethodName) ∈ TBg := tb_in 1519 (by decide +kernel) (by decide +kernel)
theorem tw_1520 : Jvm.Cond.instanceMethod ({ cls := "SharedairModel", name := "send", desc := "(III)I" } : Jvm.MethodName) ∈ TBg := tb_in 1520 (by decide +kernel) (by decide +kernel)
theorem tw_1521 : Jvm.Cond.selects "SharedairModel" ({ cls := "SharedairModel", name := "send", desc := "(III)I" } : Jvm.MethodName) ({ cls := "SharedairModel", name := "send", desc := "(III)I" } : Jvm.MethodName) ∈ TBg := tb_in 1521 (by decide +kernel) (by decide +kernel)
theorem tw_1522 : Jvm.Cond.code ({ cls := "SharedairModel", name := "send", desc := "(III)I" } : Jvm.MethodName) prog_12_method_17_code (5 : Nat) (Option.some Jvm.ClassFile.FieldType.int) ∈ TBg := tb_in 1522 (by decide +kernel) (by decide +kernel)
theorem tw_1523 : Jvm.Cond.methodLink "SharedairLaw" (112 : Nat) ({ cls := "SharedairModel", name := "pass", desc := "(I)I" } : Jvm.MethodName) ∈ TBg := tb_in 1523 (by decide +kernel) (by decide +kernel)
theorem tw_1524 : Jvm.Cond.instanceMethod ({ cls := "SharedairModel", name := "pass", desc := "(I)I" } : Jvm.MethodName) ∈ TBg := tb_in 1524 (by decide +kernel) (by decide +kernel)
theorem tw_1525 : Jvm.Cond.selects "SharedairModel" ({ cls := "SharedairModel", name := "pass", desc := "(I)I" } : Jvm.MethodName) ({ cls := "SharedairModel", name := "pass", desc := "(I)I" } : Jvm.MethodName) ∈ TBg := tb_in 1525 (by decide +kernel) (by decide +kernel)
theorem tw_1526 : Jvm.Cond.code ({ cls := "SharedairModel", name := "pass", desc := "(I)I" } : Jvm.MethodName) prog_12_method_27_code (3 : Nat) (Option.some Jvm.ClassFile.FieldType.int) ∈ TBg := tb_in 1526 (by decide +kernel) (by decide +kernel)
theorem tw_1527 : Jvm.Cond.methodLink "SharedairModel" (206 : Nat) ({ cls := "SharedairModel", name := "nextSlot", desc := "()V" } : Jvm.MethodName) ∈ TBg := tb_in 1527 (by decide +kernel) (by decide +kernel)
theorem tw_1529 : Jvm.Cond.instanceMethod ({ cls := "SharedairModel", name := "nextSlot", desc := "()V" } : Jvm.MethodName) ∈ TBg := tb_in 1529 (by decide +kernel) (by decide +kernel)
theorem tw_1530 : Jvm.Cond.code ({ cls := "SharedairModel", name := "nextSlot", desc := "()V" } : Jvm.MethodName) prog_12_method_26_code (4 : Nat) (Option.none : Option Jvm.ClassFile.FieldType) ∈ TBg := tb_in 1530 (by decide +kernel) (by decide +kernel)
theorem tw_1531 : Jvm.Cond.methodLink "SharedairModel" (184 : Nat) ({ cls := "SharedairModel", name := "isBusyFor", desc := "(I)Z" } : Jvm.MethodName) ∈ TBg := tb_in 1531 (by decide +kernel) (by decide +kernel)
theorem tw_1533 : Jvm.Cond.instanceMethod ({ cls := "SharedairModel", name := "isBusyFor", desc := "(I)Z" } : Jvm.MethodName) ∈ TBg := tb_in 1533 (by decide +kernel) (by decide +kernel)
theorem tw_1534 : Jvm.Cond.code ({ cls := "SharedairModel", name := "isBusyFor", desc := "(I)Z" } : Jvm.MethodName) prog_12_method_18_code (3 : Nat) (Option.some Jvm.ClassFile.FieldType.boolean) ∈ TBg := tb_in 1534 (by decide +kernel) (by decide +kernel)
theorem tw_1535 : Jvm.Cond.methodLink "SharedairModel" (187 : Nat) ({ cls := "java/util/ArrayList", name := "isEmpty", desc := "()Z" } : Jvm.MethodName) ∈ TBg := tb_in 1535 (by decide +kernel) (by decide +kernel)
theorem tw_1536 : Jvm.Cond.instanceMethod ({ cls := "java/util/ArrayList", name := "isEmpty", desc := "()Z" } : Jvm.MethodName) ∈ TBg := tb_in 1536 (by decide +kernel) (by decide +kernel)
theorem tw_1537 : Jvm.Cond.selects "java/util/ArrayList" ({ cls := "java/util/ArrayList", name := "isEmpty", desc := "()Z" } : Jvm.MethodName) ({ cls := "java/util/ArrayList", name := "isEmpty", desc := "()Z" } : Jvm.MethodName) ∈ TBg := tb_in 1537 (by decide +kernel) (by decide +kernel)
theorem tw_1538 : Jvm.Cond.code ({ cls := "java/util/ArrayList", name := "isEmpty", desc := "()Z" } : Jvm.MethodName) prog_40_method_9_code (1 : Nat) (Option.some Jvm.ClassFile.FieldType.boolean) ∈ TBg := tb_in 1538 (by decide +kernel) (by decide +kernel)
theorem tw_1539 : Jvm.Cond.methodLink "SharedairModel" (190 : Nat) ({ cls := "SharedairModel", name := "begin", desc := "(LSharedairModel$Node;)V" } : Jvm.MethodName) ∈ TBg := tb_in 1539 (by decide +kernel) (by decide +kernel)
theorem tw_1541 : Jvm.Cond.instanceMethod ({ cls := "SharedairModel", name := "begin", desc := "(LSharedairModel$Node;)V" } : Jvm.MethodName) ∈ TBg := tb_in 1541 (by decide +kernel) (by decide +kernel)
theorem tw_1542 : Jvm.Cond.code ({ cls := "SharedairModel", name := "begin", desc := "(LSharedairModel$Node;)V" } : Jvm.MethodName) prog_12_method_20_code (3 : Nat) (Option.none : Option Jvm.ClassFile.FieldType) ∈ TBg := tb_in 1542 (by decide +kernel) (by decide +kernel)
theorem tw_1543 : Jvm.Cond.classLink "SharedairModel" (130 : Nat) "[I" ∈ TBg := tb_in 1543 (by decide +kernel) (by decide +kernel)
theorem tw_1544 : Jvm.Cond.methodLink "SharedairModel" (131 : Nat) ({ cls := "SharedairModel", name := "drop", desc := "(LSharedairModel$Node;)V" } : Jvm.MethodName) ∈ TBg := tb_in 1544 (by decide +kernel) (by decide +kernel)
theorem tw_1546 : Jvm.Cond.instanceMethod ({ cls := "SharedairModel", name := "drop", desc := "(LSharedairModel$Node;)V" } : Jvm.MethodName) ∈ TBg := tb_in 1546 (by decide +kernel) (by decide +kernel)
theorem tw_1547 : Jvm.Cond.code ({ cls := "SharedairModel", name := "drop", desc := "(LSharedairModel$Node;)V" } : Jvm.MethodName) prog_12_method_19_code (2 : Nat) (Option.none : Option Jvm.ClassFile.FieldType) ∈ TBg := tb_in 1547 (by decide +kernel) (by decide +kernel)
theorem tw_1548 : Jvm.Cond.methodLink "SharedairModel" (114 : Nat) ({ cls := "java/util/ArrayList", name := "remove", desc := "(I)Ljava/lang/Object;" } : Jvm.MethodName) ∈ TBg := tb_in 1548 (by decide +kernel) (by decide +kernel)
theorem tw_1549 : Jvm.Cond.instanceMethod ({ cls := "java/util/ArrayList", name := "remove", desc := "(I)Ljava/lang/Object;" } : Jvm.MethodName) ∈ TBg := tb_in 1549 (by decide +kernel) (by decide +kernel)
theorem tw_1550 : Jvm.Cond.selects "java/util/ArrayList" ({ cls := "java/util/ArrayList", name := "remove", desc := "(I)Ljava/lang/Object;" } : Jvm.MethodName) ({ cls := "java/util/ArrayList", name := "remove", desc := "(I)Ljava/lang/Object;" } : Jvm.MethodName) ∈ TBg := tb_in 1550 (by decide +kernel) (by decide +kernel)
theorem tw_1551 : Jvm.Cond.code ({ cls := "java/util/ArrayList", name := "remove", desc := "(I)Ljava/lang/Object;" } : Jvm.MethodName) prog_40_method_29_code (4 : Nat) (Option.some (Jvm.ClassFile.FieldType.object "java/lang/Object")) ∈ TBg := tb_in 1551 (by decide +kernel) (by decide +kernel)
theorem tw_1552 : Jvm.Cond.methodLink "java/util/ArrayList" (144 : Nat) ({ cls := "java/util/ArrayList", name := "fastRemove", desc := "([Ljava/lang/Object;I)V" } : Jvm.MethodName) ∈ TBg := tb_in 1552 (by decide +kernel) (by decide +kernel)
theorem tw_1554 : Jvm.Cond.instanceMethod ({ cls := "java/util/ArrayList", name := "fastRemove", desc := "([Ljava/lang/Object;I)V" } : Jvm.MethodName) ∈ TBg := tb_in 1554 (by decide +kernel) (by decide +kernel)
theorem tw_1555 : Jvm.Cond.code ({ cls := "java/util/ArrayList", name := "fastRemove", desc := "([Ljava/lang/Object;I)V" } : Jvm.MethodName) prog_40_method_39_code (4 : Nat) (Option.none : Option Jvm.ClassFile.FieldType) ∈ TBg := tb_in 1555 (by decide +kernel) (by decide +kernel)
theorem tw_1556 : Jvm.Cond.methodLink "java/util/ArrayList" (112 : Nat) ({ cls := "java/lang/System", name := "arraycopy", desc := "(Ljava/lang/Object;ILjava/lang/Object;II)V" } : Jvm.MethodName) ∈ TBg := tb_in 1556 (by decide +kernel) (by decide +kernel)
theorem tw_1557 : Jvm.Cond.methodLink "SharedairModel" (193 : Nat) ({ cls := "SharedairModel", name := "senders", desc := "()I" } : Jvm.MethodName) ∈ TBg := tb_in 1557 (by decide +kernel) (by decide +kernel)
theorem tw_1559 : Jvm.Cond.instanceMethod ({ cls := "SharedairModel", name := "senders", desc := "()I" } : Jvm.MethodName) ∈ TBg := tb_in 1559 (by decide +kernel) (by decide +kernel)
theorem tw_1560 : Jvm.Cond.code ({ cls := "SharedairModel", name := "senders", desc := "()I" } : Jvm.MethodName) prog_12_method_22_code (3 : Nat) (Option.some Jvm.ClassFile.FieldType.int) ∈ TBg := tb_in 1560 (by decide +kernel) (by decide +kernel)
theorem tw_1561 : Jvm.Cond.methodLink "SharedairModel" (147 : Nat) ({ cls := "SharedairModel", name := "has", desc := "(II)Z" } : Jvm.MethodName) ∈ TBg := tb_in 1561 (by decide +kernel) (by decide +kernel)
theorem tw_1562 : Jvm.Cond.static ({ cls := "SharedairModel", name := "has", desc := "(II)Z" } : Jvm.MethodName) ∈ TBg := tb_in 1562 (by decide +kernel) (by decide +kernel)
theorem tw_1563 : Jvm.Cond.code ({ cls := "SharedairModel", name := "has", desc := "(II)Z" } : Jvm.MethodName) prog_12_method_4_code (2 : Nat) (Option.some Jvm.ClassFile.FieldType.boolean) ∈ TBg := tb_in 1563 (by decide +kernel) (by decide +kernel)
theorem tw_1564 : Jvm.Cond.methodLink "SharedairModel" (199 : Nat) ({ cls := "SharedairModel", name := "gets", desc := "(III)Z" } : Jvm.MethodName) ∈ TBg := tb_in 1564 (by decide +kernel) (by decide +kernel)
theorem tw_1566 : Jvm.Cond.instanceMethod ({ cls := "SharedairModel", name := "gets", desc := "(III)Z" } : Jvm.MethodName) ∈ TBg := tb_in 1566 (by decide +kernel) (by decide +kernel)
theorem tw_1567 : Jvm.Cond.code ({ cls := "SharedairModel", name := "gets", desc := "(III)Z" } : Jvm.MethodName) prog_12_method_21_code (5 : Nat) (Option.some Jvm.ClassFile.FieldType.boolean) ∈ TBg := tb_in 1567 (by decide +kernel) (by decide +kernel)
theorem tw_1568 : Jvm.Cond.methodLink "SharedairModel" (202 : Nat) ({ cls := "SharedairModel", name := "end", desc := "(I)V" } : Jvm.MethodName) ∈ TBg := tb_in 1568 (by decide +kernel) (by decide +kernel)
theorem tw_1570 : Jvm.Cond.instanceMethod ({ cls := "SharedairModel", name := "end", desc := "(I)V" } : Jvm.MethodName) ∈ TBg := tb_in 1570 (by decide +kernel) (by decide +kernel)
theorem tw_1571 : Jvm.Cond.code ({ cls := "SharedairModel", name := "end", desc := "(I)V" } : Jvm.MethodName) prog_12_method_25_code (4 : Nat) (Option.none : Option Jvm.ClassFile.FieldType) ∈ TBg := tb_in 1571 (by decide +kernel) (by decide +kernel)
theorem tw_1572 : Jvm.Cond.methodLink "SharedairModel" (171 : Nat) ({ cls := "SharedairModel", name := "receive", desc := "(I[I)V" } : Jvm.MethodName) ∈ TBg := tb_in 1572 (by decide +kernel) (by decide +kernel)
theorem tw_1574 : Jvm.Cond.instanceMethod ({ cls := "SharedairModel", name := "receive", desc := "(I[I)V" } : Jvm.MethodName) ∈ TBg := tb_in 1574 (by decide +kernel) (by decide +kernel)
theorem tw_1575 : Jvm.Cond.code ({ cls := "SharedairModel", name := "receive", desc := "(I[I)V" } : Jvm.MethodName) prog_12_method_24_code (3 : Nat) (Option.none : Option Jvm.ClassFile.FieldType) ∈ TBg := tb_in 1575 (by decide +kernel) (by decide +kernel)
theorem tw_1576 : Jvm.Cond.methodLink "SharedairModel" (162 : Nat) ({ cls := "SharedairModel", name := "hasArrived", desc := "(II)Z" } : Jvm.MethodName) ∈ TBg := tb_in 1576 (by decide +kernel) (by decide +kernel)
theorem tw_1578 : Jvm.Cond.instanceMethod ({ cls := "SharedairModel", name := "hasArrived", desc := "(II)Z" } : Jvm.MethodName) ∈ TBg := tb_in 1578 (by decide +kernel) (by decide +kernel)
theorem tw_1579 : Jvm.Cond.code ({ cls := "SharedairModel", name := "hasArrived", desc := "(II)Z" } : Jvm.MethodName) prog_12_method_23_code (5 : Nat) (Option.some Jvm.ClassFile.FieldType.boolean) ∈ TBg := tb_in 1579 (by decide +kernel) (by decide +kernel)
theorem tw_1580 : Jvm.Cond.methodLink "SharedairModel" (150 : Nat) ({ cls := "java/util/ArrayList", name := "iterator", desc := "()Ljava/util/Iterator;" } : Jvm.MethodName) ∈ TBg := tb_in 1580 (by decide +kernel) (by decide +kernel)
theorem tw_1581 : Jvm.Cond.instanceMethod ({ cls := "java/util/ArrayList", name := "iterator", desc := "()Ljava/util/Iterator;" } : Jvm.MethodName) ∈ TBg := tb_in 1581 (by decide +kernel) (by decide +kernel)
theorem tw_1582 : Jvm.Cond.selects "java/util/ArrayList" ({ cls := "java/util/ArrayList", name := "iterator", desc := "()Ljava/util/Iterator;" } : Jvm.MethodName) ({ cls := "java/util/ArrayList", name := "iterator", desc := "()Ljava/util/Iterator;" } : Jvm.MethodName) ∈ TBg := tb_in 1582 (by decide +kernel) (by decide +kernel)
theorem tw_1583 : Jvm.Cond.code ({ cls := "java/util/ArrayList", name := "iterator", desc := "()Ljava/util/Iterator;" } : Jvm.MethodName) prog_40_method_55_code (1 : Nat) (Option.some (Jvm.ClassFile.FieldType.object "java/util/Iterator")) ∈ TBg := tb_in 1583 (by decide +kernel) (by decide +kernel)
theorem tw_1584 : Jvm.Cond.classLink "java/util/ArrayList" (267 : Nat) "java/util/ArrayList$Itr" ∈ TBg := tb_in 1584 (by decide +kernel) (by decide +kernel)
theorem tw_1585 : Jvm.Cond.instantiable "java/util/ArrayList$Itr" (4 : Nat) ∈ TBg := tb_in 1585 (by decide +kernel) (by decide +kernel)
theorem tw_1586 : Jvm.Cond.methodLink "java/util/ArrayList" (269 : Nat) ({ cls := "java/util/ArrayList$Itr", name := "<init>", desc := "(Ljava/util/ArrayList;)V" } : Jvm.MethodName) ∈ TBg := tb_in 1586 (by decide +kernel) (by decide +kernel)
theorem tw_1587 : Jvm.Cond.instanceMethod ({ cls := "java/util/ArrayList$Itr", name := "<init>", desc := "(Ljava/util/ArrayList;)V" } : Jvm.MethodName) ∈ TBg := tb_in 1587 (by decide +kernel) (by decide +kernel)
theorem tw_1588 : Jvm.Cond.code ({ cls := "java/util/ArrayList$Itr", name := "<init>", desc := "(Ljava/util/ArrayList;)V" } : Jvm.MethodName) prog_41_method_1_code (2 : Nat) (Option.none : Option Jvm.ClassFile.FieldType) ∈ TBg := tb_in 1588 (by decide +kernel) (by decide +kernel)
theorem tw_1589 : Jvm.Cond.methodLink "java/util/ArrayList$Itr" (7 : Nat) ({ cls := "java/lang/Object", name := "<init>", desc := "()V" } : Jvm.MethodName) ∈ TBg := tb_in 1589 (by decide +kernel) (by decide +kernel)
theorem tw_1590 : Jvm.Cond.fieldLink "java/util/ArrayList$Itr" (25 : Nat) "java/util/ArrayList$Itr" "cursor" "I" ∈ TBg := tb_in 1590 (by decide +kernel) (by decide +kernel)
theorem tw_1591 : Jvm.Cond.fieldLink "java/util/ArrayList$Itr" (13 : Nat) "java/util/ArrayList$Itr" "lastRet" "I" ∈ TBg := tb_in 1591 (by decide +kernel) (by decide +kernel)
theorem tw_1592 : Jvm.Cond.fieldLink "java/util/ArrayList$Itr" (22 : Nat) "java/util/ArrayList$Itr" "expectedModCount" "I" ∈ TBg := tb_in 1592 (by decide +kernel) (by decide +kernel)
theorem tw_1593 : Jvm.Cond.fieldLink "java/util/ArrayList$Itr" (1 : Nat) "java/util/ArrayList$Itr" "this$0" "Ljava/util/ArrayList;" ∈ TBg := tb_in 1593 (by decide +kernel) (by decide +kernel)
theorem tw_1603 : Jvm.Cond.arrayClass Jvm.ClassFile.FieldType.boolean ∈ TBg := tb_in 1603 (by decide +kernel) (by decide +kernel)
theorem tw_1605 : Jvm.Cond.methodLink "SharedairModel" (154 : Nat) ({ cls := "java/util/Iterator", name := "hasNext", desc := "()Z" } : Jvm.MethodName) ∈ TBg := tb_in 1605 (by decide +kernel) (by decide +kernel)
theorem tw_1609 : Jvm.Cond.selects "java/util/ArrayList$Itr" ({ cls := "java/util/Iterator", name := "hasNext", desc := "()Z" } : Jvm.MethodName) ({ cls := "java/util/ArrayList$Itr", name := "hasNext", desc := "()Z" } : Jvm.MethodName) ∈ TBg := tb_in 1609 (by decide +kernel) (by decide +kernel)
theorem tw_1611 : Jvm.Cond.instanceMethod ({ cls := "java/util/ArrayList$Itr", name := "hasNext", desc := "()Z" } : Jvm.MethodName) ∈ TBg := tb_in 1611 (by decide +kernel) (by decide +kernel)
theorem tw_1613 : Jvm.Cond.code ({ cls := "java/util/ArrayList$Itr", name := "hasNext", desc := "()Z" } : Jvm.MethodName) prog_41_method_2_code (1 : Nat) (Option.some Jvm.ClassFile.FieldType.boolean) ∈ TBg := tb_in 1613 (by decide +kernel) (by decide +kernel)
theorem tw_1615 : Jvm.Cond.methodLink "SharedairModel" (159 : Nat) ({ cls := "java/util/Iterator", name := "next", desc := "()Ljava/lang/Object;" } : Jvm.MethodName) ∈ TBg := tb_in 1615 (by decide +kernel) (by decide +kernel)
theorem tw_1618 : Jvm.Cond.selects "java/util/ArrayList$Itr" ({ cls := "java/util/Iterator", name := "next", desc := "()Ljava/lang/Object;" } : Jvm.MethodName) ({ cls := "java/util/ArrayList$Itr", name := "next", desc := "()Ljava/lang/Object;" } : Jvm.MethodName) ∈ TBg := tb_in 1618 (by decide +kernel) (by decide +kernel)
theorem tw_1620 : Jvm.Cond.instanceMethod ({ cls := "java/util/ArrayList$Itr", name := "next", desc := "()Ljava/lang/Object;" } : Jvm.MethodName) ∈ TBg := tb_in 1620 (by decide +kernel) (by decide +kernel)
theorem tw_1622 : Jvm.Cond.code ({ cls := "java/util/ArrayList$Itr", name := "next", desc := "()Ljava/lang/Object;" } : Jvm.MethodName) prog_41_method_3_code (3 : Nat) (Option.some (Jvm.ClassFile.FieldType.object "java/lang/Object")) ∈ TBg := tb_in 1622 (by decide +kernel) (by decide +kernel)
theorem tw_1623 : Jvm.Cond.methodLink "java/util/ArrayList$Itr" (31 : Nat) ({ cls := "java/util/ArrayList$Itr", name := "checkForComodification", desc := "()V" } : Jvm.MethodName) ∈ TBg := tb_in 1623 (by decide +kernel) (by decide +kernel)
theorem tw_1624 : Jvm.Cond.instanceMethod ({ cls := "java/util/ArrayList$Itr", name := "checkForComodification", desc := "()V" } : Jvm.MethodName) ∈ TBg := tb_in 1624 (by decide +kernel) (by decide +kernel)
theorem tw_1625 : Jvm.Cond.selects "java/util/ArrayList$Itr" ({ cls := "java/util/ArrayList$Itr", name := "checkForComodification", desc := "()V" } : Jvm.MethodName) ({ cls := "java/util/ArrayList$Itr", name := "checkForComodification", desc := "()V" } : Jvm.MethodName) ∈ TBg := tb_in 1625 (by decide +kernel) (by decide +kernel)
theorem tw_1626 : Jvm.Cond.code ({ cls := "java/util/ArrayList$Itr", name := "checkForComodification", desc := "()V" } : Jvm.MethodName) prog_41_method_6_code (1 : Nat) (Option.none : Option Jvm.ClassFile.FieldType) ∈ TBg := tb_in 1626 (by decide +kernel) (by decide +kernel)
theorem tw_1627 : Jvm.Cond.methodLink "SharedairModel" (175 : Nat) ({ cls := "SharedairModel", name := "draw", desc := "(I)I" } : Jvm.MethodName) ∈ TBg := tb_in 1627 (by decide +kernel) (by decide +kernel)
theorem tw_1629 : Jvm.Cond.instanceMethod ({ cls := "SharedairModel", name := "draw", desc := "(I)I" } : Jvm.MethodName) ∈ TBg := tb_in 1629 (by decide +kernel) (by decide +kernel)
theorem tw_1630 : Jvm.Cond.code ({ cls := "SharedairModel", name := "draw", desc := "(I)I" } : Jvm.MethodName) prog_12_method_9_code (2 : Nat) (Option.some Jvm.ClassFile.FieldType.int) ∈ TBg := tb_in 1630 (by decide +kernel) (by decide +kernel)
theorem tw_1631 : Jvm.Cond.methodLink "SharedairLaw" (115 : Nat) ({ cls := "SharedairModel", name := "exchange", desc := "(I)I" } : Jvm.MethodName) ∈ TBg := tb_in 1631 (by decide +kernel) (by decide +kernel)
theorem tw_1632 : Jvm.Cond.instanceMethod ({ cls := "SharedairModel", name := "exchange", desc := "(I)I" } : Jvm.MethodName) ∈ TBg := tb_in 1632 (by decide +kernel) (by decide +kernel)
theorem tw_1633 : Jvm.Cond.selects "SharedairModel" ({ cls := "SharedairModel", name := "exchange", desc := "(I)I" } : Jvm.MethodName) ({ cls := "SharedairModel", name := "exchange", desc := "(I)I" } : Jvm.MethodName) ∈ TBg := tb_in 1633 (by decide +kernel) (by decide +kernel)
theorem tw_1634 : Jvm.Cond.code ({ cls := "SharedairModel", name := "exchange", desc := "(I)I" } : Jvm.MethodName) prog_12_method_30_code (3 : Nat) (Option.some Jvm.ClassFile.FieldType.int) ∈ TBg := tb_in 1634 (by decide +kernel) (by decide +kernel)
theorem tw_1635 : Jvm.Cond.methodLink "SharedairModel" (215 : Nat) ({ cls := "SharedairModel", name := "exchangeOnce", desc := "()V" } : Jvm.MethodName) ∈ TBg := tb_in 1635 (by decide +kernel) (by decide +kernel)
theorem tw_1637 : Jvm.Cond.instanceMethod ({ cls := "SharedairModel", name := "exchangeOnce", desc := "()V" } : Jvm.MethodName) ∈ TBg := tb_in 1637 (by decide +kernel) (by decide +kernel)
theorem tw_1638 : Jvm.Cond.code ({ cls := "SharedairModel", name := "exchangeOnce", desc := "()V" } : Jvm.MethodName) prog_12_method_28_code (8 : Nat) (Option.none : Option Jvm.ClassFile.FieldType) ∈ TBg := tb_in 1638 (by decide +kernel) (by decide +kernel)
theorem tw_1639 : Jvm.Cond.methodLink "SharedairModel" (212 : Nat) ({ cls := "[I", name := "clone", desc := "()Ljava/lang/Object;" } : Jvm.MethodName) ∈ TBg := tb_in 1639 (by decide +kernel) (by decide +kernel)
theorem tw_1640 : Jvm.Cond.sameMethod "[I" "java/lang/Object" "clone" "()Ljava/lang/Object;" ∈ TBg := tb_in 1640 (by decide +kernel) (by decide +kernel)
theorem tw_1641 : Jvm.Cond.selects "[I" ({ cls := "[I", name := "clone", desc := "()Ljava/lang/Object;" } : Jvm.MethodName) ({ cls := "java/lang/Object", name := "clone", desc := "()Ljava/lang/Object;" } : Jvm.MethodName) ∈ TBg := tb_in 1641 (by decide +kernel) (by decide +kernel)
theorem tw_1643 : Jvm.Cond.methodLink "SharedairModel" (221 : Nat) ({ cls := "SharedairModel", name := "routed", desc := "()I" } : Jvm.MethodName) ∈ TBg := tb_in 1643 (by decide +kernel) (by decide +kernel)
theorem tw_1645 : Jvm.Cond.instanceMethod ({ cls := "SharedairModel", name := "routed", desc := "()I" } : Jvm.MethodName) ∈ TBg := tb_in 1645 (by decide +kernel) (by decide +kernel)
theorem tw_1646 : Jvm.Cond.code ({ cls := "SharedairModel", name := "routed", desc := "()I" } : Jvm.MethodName) prog_12_method_29_code (8 : Nat) (Option.some Jvm.ClassFile.FieldType.int) ∈ TBg := tb_in 1646 (by decide +kernel) (by decide +kernel)
theorem tw_1647 : Jvm.Cond.methodLink "SharedairLaw" (118 : Nat) ({ cls := "SharedairModel", name := "bid", desc := "(III)I" } : Jvm.MethodName) ∈ TBg := tb_in 1647 (by decide +kernel) (by decide +kernel)
theorem tw_1648 : Jvm.Cond.instanceMethod ({ cls := "SharedairModel", name := "bid", desc := "(III)I" } : Jvm.MethodName) ∈ TBg := tb_in 1648 (by decide +kernel) (by decide +kernel)
theorem tw_1649 : Jvm.Cond.selects "SharedairModel" ({ cls := "SharedairModel", name := "bid", desc := "(III)I" } : Jvm.MethodName) ({ cls := "SharedairModel", name := "bid", desc := "(III)I" } : Jvm.MethodName) ∈ TBg := tb_in 1649 (by decide +kernel) (by decide +kernel)
theorem tw_1650 : Jvm.Cond.code ({ cls := "SharedairModel", name := "bid", desc := "(III)I" } : Jvm.MethodName) prog_12_method_31_code (4 : Nat) (Option.some Jvm.ClassFile.FieldType.int) ∈ TBg := tb_in 1650 (by decide +kernel) (by decide +kernel)
theorem tw_1651 : Jvm.Cond.methodLink "SharedairLaw" (122 : Nat) ({ cls := "SharedairModel", name := "sell", desc := "()I" } : Jvm.MethodName) ∈ TBg := tb_in 1651 (by decide +kernel) (by decide +kernel)
theorem tw_1652 : Jvm.Cond.instanceMethod ({ cls := "SharedairModel", name := "sell", desc := "()I" } : Jvm.MethodName) ∈ TBg := tb_in 1652 (by decide +kernel) (by decide +kernel)
theorem tw_1653 : Jvm.Cond.selects "SharedairModel" ({ cls := "SharedairModel", name := "sell", desc := "()I" } : Jvm.MethodName) ({ cls := "SharedairModel", name := "sell", desc := "()I" } : Jvm.MethodName) ∈ TBg := tb_in 1653 (by decide +kernel) (by decide +kernel)
theorem tw_1654 : Jvm.Cond.code ({ cls := "SharedairModel", name := "sell", desc := "()I" } : Jvm.MethodName) prog_12_method_37_code (4 : Nat) (Option.some Jvm.ClassFile.FieldType.int) ∈ TBg := tb_in 1654 (by decide +kernel) (by decide +kernel)
theorem tw_1655 : Jvm.Cond.methodLink "SharedairModel" (236 : Nat) ({ cls := "SharedairModel", name := "auctionNow", desc := "()[I" } : Jvm.MethodName) ∈ TBg := tb_in 1655 (by decide +kernel) (by decide +kernel)
theorem tw_1657 : Jvm.Cond.instanceMethod ({ cls := "SharedairModel", name := "auctionNow", desc := "()[I" } : Jvm.MethodName) ∈ TBg := tb_in 1657 (by decide +kernel) (by decide +kernel)
theorem tw_1658 : Jvm.Cond.code ({ cls := "SharedairModel", name := "auctionNow", desc := "()[I" } : Jvm.MethodName) prog_12_method_36_code (4 : Nat) (Option.some (Jvm.ClassFile.FieldType.array Jvm.ClassFile.FieldType.int)) ∈ TBg := tb_in 1658 (by decide +kernel) (by decide +kernel)
theorem tw_1659 : Jvm.Cond.methodLink "SharedairModel" (230 : Nat) ({ cls := "SharedairModel", name := "winners", desc := "(I)I" } : Jvm.MethodName) ∈ TBg := tb_in 1659 (by decide +kernel) (by decide +kernel)
theorem tw_1661 : Jvm.Cond.instanceMethod ({ cls := "SharedairModel", name := "winners", desc := "(I)I" } : Jvm.MethodName) ∈ TBg := tb_in 1661 (by decide +kernel) (by decide +kernel)
theorem tw_1662 : Jvm.Cond.code ({ cls := "SharedairModel", name := "winners", desc := "(I)I" } : Jvm.MethodName) prog_12_method_34_code (4 : Nat) (Option.some Jvm.ClassFile.FieldType.int) ∈ TBg := tb_in 1662 (by decide +kernel) (by decide +kernel)
theorem tw_1663 : Jvm.Cond.methodLink "SharedairModel" (224 : Nat) ({ cls := "SharedairModel", name := "canWin", desc := "(II)Z" } : Jvm.MethodName) ∈ TBg := tb_in 1663 (by decide +kernel) (by decide +kernel)
theorem tw_1665 : Jvm.Cond.instanceMethod ({ cls := "SharedairModel", name := "canWin", desc := "(II)Z" } : Jvm.MethodName) ∈ TBg := tb_in 1665 (by decide +kernel) (by decide +kernel)
theorem tw_1666 : Jvm.Cond.code ({ cls := "SharedairModel", name := "canWin", desc := "(II)Z" } : Jvm.MethodName) prog_12_method_32_code (7 : Nat) (Option.some Jvm.ClassFile.FieldType.boolean) ∈ TBg := tb_in 1666 (by decide +kernel) (by decide +kernel)
theorem tw_1667 : Jvm.Cond.methodLink "SharedairModel" (227 : Nat) ({ cls := "SharedairModel", name := "priceOf", desc := "(II)I" } : Jvm.MethodName) ∈ TBg := tb_in 1667 (by decide +kernel) (by decide +kernel)
theorem tw_1669 : Jvm.Cond.instanceMethod ({ cls := "SharedairModel", name := "priceOf", desc := "(II)I" } : Jvm.MethodName) ∈ TBg := tb_in 1669 (by decide +kernel) (by decide +kernel)
theorem tw_1670 : Jvm.Cond.code ({ cls := "SharedairModel", name := "priceOf", desc := "(II)I" } : Jvm.MethodName) prog_12_method_33_code (5 : Nat) (Option.some Jvm.ClassFile.FieldType.int) ∈ TBg := tb_in 1670 (by decide +kernel) (by decide +kernel)
theorem tw_1671 : Jvm.Cond.methodLink "SharedairModel" (233 : Nat) ({ cls := "SharedairModel", name := "pays", desc := "(II)I" } : Jvm.MethodName) ∈ TBg := tb_in 1671 (by decide +kernel) (by decide +kernel)
theorem tw_1673 : Jvm.Cond.instanceMethod ({ cls := "SharedairModel", name := "pays", desc := "(II)I" } : Jvm.MethodName) ∈ TBg := tb_in 1673 (by decide +kernel) (by decide +kernel)
theorem tw_1674 : Jvm.Cond.code ({ cls := "SharedairModel", name := "pays", desc := "(II)I" } : Jvm.MethodName) prog_12_method_35_code (3 : Nat) (Option.some Jvm.ClassFile.FieldType.int) ∈ TBg := tb_in 1674 (by decide +kernel) (by decide +kernel)
theorem tw_1675 : Jvm.Cond.methodLink "SharedairModel" (243 : Nat) ({ cls := "java/util/ArrayList", name := "clear", desc := "()V" } : Jvm.MethodName) ∈ TBg := tb_in 1675 (by decide +kernel) (by decide +kernel)
theorem tw_1676 : Jvm.Cond.instanceMethod ({ cls := "java/util/ArrayList", name := "clear", desc := "()V" } : Jvm.MethodName) ∈ TBg := tb_in 1676 (by decide +kernel) (by decide +kernel)
theorem tw_1677 : Jvm.Cond.selects "java/util/ArrayList" ({ cls := "java/util/ArrayList", name := "clear", desc := "()V" } : Jvm.MethodName) ({ cls := "java/util/ArrayList", name := "clear", desc := "()V" } : Jvm.MethodName) ∈ TBg := tb_in 1677 (by decide +kernel) (by decide +kernel)
theorem tw_1678 : Jvm.Cond.code ({ cls := "java/util/ArrayList", name := "clear", desc := "()V" } : Jvm.MethodName) prog_40_method_40_code (4 : Nat) (Option.none : Option Jvm.ClassFile.FieldType) ∈ TBg := tb_in 1678 (by decide +kernel) (by decide +kernel)
theorem tw_1679 : Jvm.Cond.methodLink "SharedairLaw" (126 : Nat) ({ cls := "SharedairModel", name := "knock", desc := "()I" } : Jvm.MethodName) ∈ TBg := tb_in 1679 (by decide +kernel) (by decide +kernel)
theorem tw_1680 : Jvm.Cond.instanceMethod ({ cls := "SharedairModel", name := "knock", desc := "()I" } : Jvm.MethodName) ∈ TBg := tb_in 1680 (by decide +kernel) (by decide +kernel)
theorem tw_1681 : Jvm.Cond.selects "SharedairModel" ({ cls := "SharedairModel", name := "knock", desc := "()I" } : Jvm.MethodName) ({ cls := "SharedairModel", name := "knock", desc := "()I" } : Jvm.MethodName) ∈ TBg := tb_in 1681 (by decide +kernel) (by decide +kernel)
theorem tw_1682 : Jvm.Cond.code ({ cls := "SharedairModel", name := "knock", desc := "()I" } : Jvm.MethodName) prog_12_method_38_code (1 : Nat) (Option.some Jvm.ClassFile.FieldType.int) ∈ TBg := tb_in 1682 (by decide +kernel) (by decide +kernel)
theorem tw_1683 : Jvm.Cond.methodLink "SharedairLaw" (130 : Nat) ({ cls := "SharedairModel", name := "hears", desc := "(II)Z" } : Jvm.MethodName) ∈ TBg := tb_in 1683 (by decide +kernel) (by decide +kernel)
theorem tw_1684 : Jvm.Cond.instanceMethod ({ cls := "SharedairModel", name := "hears", desc := "(II)Z" } : Jvm.MethodName) ∈ TBg := tb_in 1684 (by decide +kernel) (by decide +kernel)
theorem tw_1685 : Jvm.Cond.selects "SharedairModel" ({ cls := "SharedairModel", name := "hears", desc := "(II)Z" } : Jvm.MethodName) ({ cls := "SharedairModel", name := "hears", desc := "(II)Z" } : Jvm.MethodName) ∈ TBg := tb_in 1685 (by decide +kernel) (by decide +kernel)
theorem tw_1686 : Jvm.Cond.code ({ cls := "SharedairModel", name := "hears", desc := "(II)Z" } : Jvm.MethodName) prog_12_method_39_code (3 : Nat) (Option.some Jvm.ClassFile.FieldType.boolean) ∈ TBg := tb_in 1686 (by decide +kernel) (by decide +kernel)
theorem tw_1687 : Jvm.Cond.methodLink "SharedairLaw" (133 : Nat) ({ cls := "SharedairModel", name := "ofNode", desc := "(II)I" } : Jvm.MethodName) ∈ TBg := tb_in 1687 (by decide +kernel) (by decide +kernel)
theorem tw_1688 : Jvm.Cond.instanceMethod ({ cls := "SharedairModel", name := "ofNode", desc := "(II)I" } : Jvm.MethodName) ∈ TBg := tb_in 1688 (by decide +kernel) (by decide +kernel)
theorem tw_1689 : Jvm.Cond.selects "SharedairModel" ({ cls := "SharedairModel", name := "ofNode", desc := "(II)I" } : Jvm.MethodName) ({ cls := "SharedairModel", name := "ofNode", desc := "(II)I" } : Jvm.MethodName) ∈ TBg := tb_in 1689 (by decide +kernel) (by decide +kernel)
theorem tw_1690 : Jvm.Cond.code ({ cls := "SharedairModel", name := "ofNode", desc := "(II)I" } : Jvm.MethodName) prog_12_method_42_code (3 : Nat) (Option.some Jvm.ClassFile.FieldType.int) ∈ TBg := tb_in 1690 (by decide +kernel) (by decide +kernel)
theorem tw_1691 : Jvm.Cond.methodLink "SharedairModel" (254 : Nat) ({ cls := "SharedairModel", name := "nodeTold", desc := "(II)I" } : Jvm.MethodName) ∈ TBg := tb_in 1691 (by decide +kernel) (by decide +kernel)
theorem tw_1693 : Jvm.Cond.instanceMethod ({ cls := "SharedairModel", name := "nodeTold", desc := "(II)I" } : Jvm.MethodName) ∈ TBg := tb_in 1693 (by decide +kernel) (by decide +kernel)
theorem tw_1694 : Jvm.Cond.code ({ cls := "SharedairModel", name := "nodeTold", desc := "(II)I" } : Jvm.MethodName) prog_12_method_41_code (5 : Nat) (Option.some Jvm.ClassFile.FieldType.int) ∈ TBg := tb_in 1694 (by decide +kernel) (by decide +kernel)
theorem tw_1695 : Jvm.Cond.methodLink "SharedairModel" (251 : Nat) ({ cls := "SharedairModel", name := "isSuspect", desc := "(I)Z" } : Jvm.MethodName) ∈ TBg := tb_in 1695 (by decide +kernel) (by decide +kernel)
theorem tw_1697 : Jvm.Cond.instanceMethod ({ cls := "SharedairModel", name := "isSuspect", desc := "(I)Z" } : Jvm.MethodName) ∈ TBg := tb_in 1697 (by decide +kernel) (by decide +kernel)
theorem tw_1698 : Jvm.Cond.code ({ cls := "SharedairModel", name := "isSuspect", desc := "(I)Z" } : Jvm.MethodName) prog_12_method_40_code (5 : Nat) (Option.some Jvm.ClassFile.FieldType.boolean) ∈ TBg := tb_in 1698 (by decide +kernel) (by decide +kernel)
theorem tw_1699 : Jvm.Cond.constantLong "SharedairModel" (249 : Nat) (4 : Int64) ∈ TBg := tb_in 1699 (by decide +kernel) (by decide +kernel)
theorem tw_1700 : Jvm.Cond.methodLink "SharedairLaw" (136 : Nat) ({ cls := "SharedairModel", name := "inQueue", desc := "(III)I" } : Jvm.MethodName) ∈ TBg := tb_in 1700 (by decide +kernel) (by decide +kernel)
theorem tw_1701 : Jvm.Cond.instanceMethod ({ cls := "SharedairModel", name := "inQueue", desc := "(III)I" } : Jvm.MethodName) ∈ TBg := tb_in 1701 (by decide +kernel) (by decide +kernel)
theorem tw_1702 : Jvm.Cond.selects "SharedairModel" ({ cls := "SharedairModel", name := "inQueue", desc := "(III)I" } : Jvm.MethodName) ({ cls := "SharedairModel", name := "inQueue", desc := "(III)I" } : Jvm.MethodName) ∈ TBg := tb_in 1702 (by decide +kernel) (by decide +kernel)
theorem tw_1703 : Jvm.Cond.code ({ cls := "SharedairModel", name := "inQueue", desc := "(III)I" } : Jvm.MethodName) prog_12_method_44_code (4 : Nat) (Option.some Jvm.ClassFile.FieldType.int) ∈ TBg := tb_in 1703 (by decide +kernel) (by decide +kernel)
theorem tw_1704 : Jvm.Cond.methodLink "SharedairModel" (257 : Nat) ({ cls := "SharedairModel", name := "queued", desc := "(III)I" } : Jvm.MethodName) ∈ TBg := tb_in 1704 (by decide +kernel) (by decide +kernel)
theorem tw_1706 : Jvm.Cond.instanceMethod ({ cls := "SharedairModel", name := "queued", desc := "(III)I" } : Jvm.MethodName) ∈ TBg := tb_in 1706 (by decide +kernel) (by decide +kernel)
theorem tw_1707 : Jvm.Cond.code ({ cls := "SharedairModel", name := "queued", desc := "(III)I" } : Jvm.MethodName) prog_12_method_43_code (4 : Nat) (Option.some Jvm.ClassFile.FieldType.int) ∈ TBg := tb_in 1707 (by decide +kernel) (by decide +kernel)
theorem tw_1708 : Jvm.Cond.methodLink "SharedairLaw" (139 : Nat) ({ cls := "SharedairModel", name := "route", desc := "(III)I" } : Jvm.MethodName) ∈ TBg := tb_in 1708 (by decide +kernel) (by decide +kernel)
theorem tw_1709 : Jvm.Cond.instanceMethod ({ cls := "SharedairModel", name := "route", desc := "(III)I" } : Jvm.MethodName) ∈ TBg := tb_in 1709 (by decide +kernel) (by decide +kernel)
theorem tw_1710 : Jvm.Cond.selects "SharedairModel" ({ cls := "SharedairModel", name := "route", desc := "(III)I" } : Jvm.MethodName) ({ cls := "SharedairModel", name := "route", desc := "(III)I" } : Jvm.MethodName) ∈ TBg := tb_in 1710 (by decide +kernel) (by decide +kernel)
theorem tw_1711 : Jvm.Cond.code ({ cls := "SharedairModel", name := "route", desc := "(III)I" } : Jvm.MethodName) prog_12_method_47_code (4 : Nat) (Option.some Jvm.ClassFile.FieldType.int) ∈ TBg := tb_in 1711 (by decide +kernel) (by decide +kernel)
theorem tw_1712 : Jvm.Cond.methodLink "SharedairModel" (269 : Nat) ({ cls := "SharedairModel", name := "routeTold", desc := "(III)I" } : Jvm.MethodName) ∈ TBg := tb_in 1712 (by decide +kernel) (by decide +kernel)
theorem tw_1714 : Jvm.Cond.instanceMethod ({ cls := "SharedairModel", name := "routeTold", desc := "(III)I" } : Jvm.MethodName) ∈ TBg := tb_in 1714 (by decide +kernel) (by decide +kernel)
theorem tw_1715 : Jvm.Cond.code ({ cls := "SharedairModel", name := "routeTold", desc := "(III)I" } : Jvm.MethodName) prog_12_method_46_code (6 : Nat) (Option.some Jvm.ClassFile.FieldType.int) ∈ TBg := tb_in 1715 (by decide +kernel) (by decide +kernel)
theorem tw_1716 : Jvm.Cond.methodLink "SharedairModel" (261 : Nat) ({ cls := "SharedairModel", name := "way", desc := "(II)I" } : Jvm.MethodName) ∈ TBg := tb_in 1716 (by decide +kernel) (by decide +kernel)
theorem tw_1718 : Jvm.Cond.instanceMethod ({ cls := "SharedairModel", name := "way", desc := "(II)I" } : Jvm.MethodName) ∈ TBg := tb_in 1718 (by decide +kernel) (by decide +kernel)
theorem tw_1719 : Jvm.Cond.code ({ cls := "SharedairModel", name := "way", desc := "(II)I" } : Jvm.MethodName) prog_12_method_45_code (6 : Nat) (Option.some Jvm.ClassFile.FieldType.int) ∈ TBg := tb_in 1719 (by decide +kernel) (by decide +kernel)
theorem tw_1720 : Jvm.Cond.methodLink "SharedairModel" (264 : Nat) ({ cls := "java/lang/Math", name := "max", desc := "(II)I" } : Jvm.MethodName) ∈ TBg := tb_in 1720 (by decide +kernel) (by decide +kernel)
theorem tw_1721 : Jvm.Cond.methodLink "SharedairLaw" (142 : Nat) ({ cls := "SharedairModel", name := "air", desc := "(I)I" } : Jvm.MethodName) ∈ TBg := tb_in 1721 (by decide +kernel) (by decide +kernel)
theorem tw_1722 : Jvm.Cond.instanceMethod ({ cls := "SharedairModel", name := "air", desc := "(I)I" } : Jvm.MethodName) ∈ TBg := tb_in 1722 (by decide +kernel) (by decide +kernel)
theorem tw_1723 : Jvm.Cond.selects "SharedairModel" ({ cls := "SharedairModel", name := "air", desc := "(I)I" } : Jvm.MethodName) ({ cls := "SharedairModel", name := "air", desc := "(I)I" } : Jvm.MethodName) ∈ TBg := tb_in 1723 (by decide +kernel) (by decide +kernel)
theorem tw_1724 : Jvm.Cond.code ({ cls := "SharedairModel", name := "air", desc := "(I)I" } : Jvm.MethodName) prog_12_method_50_code (2 : Nat) (Option.some Jvm.ClassFile.FieldType.int) ∈ TBg := tb_in 1724 (by decide +kernel) (by decide +kernel)
theorem tw_1725 : Jvm.Cond.methodLink "SharedairModel" (275 : Nat) ({ cls := "SharedairModel", name := "airTold", desc := "(I)I" } : Jvm.MethodName) ∈ TBg := tb_in 1725 (by decide +kernel) (by decide +kernel)
theorem tw_1727 : Jvm.Cond.instanceMethod ({ cls := "SharedairModel", name := "airTold", desc := "(I)I" } : Jvm.MethodName) ∈ TBg := tb_in 1727 (by decide +kernel) (by decide +kernel)
theorem tw_1728 : Jvm.Cond.code ({ cls := "SharedairModel", name := "airTold", desc := "(I)I" } : Jvm.MethodName) prog_12_method_49_code (5 : Nat) (Option.some Jvm.ClassFile.FieldType.int) ∈ TBg := tb_in 1728 (by decide +kernel) (by decide +kernel)
theorem tw_1729 : Jvm.Cond.methodLink "SharedairModel" (272 : Nat) ({ cls := "SharedairModel", name := "circles", desc := "()I" } : Jvm.MethodName) ∈ TBg := tb_in 1729 (by decide +kernel) (by decide +kernel)
theorem tw_1731 : Jvm.Cond.instanceMethod ({ cls := "SharedairModel", name := "circles", desc := "()I" } : Jvm.MethodName) ∈ TBg := tb_in 1731 (by decide +kernel) (by decide +kernel)
theorem tw_1732 : Jvm.Cond.code ({ cls := "SharedairModel", name := "circles", desc := "()I" } : Jvm.MethodName) prog_12_method_48_code (4 : Nat) (Option.some Jvm.ClassFile.FieldType.int) ∈ TBg := tb_in 1732 (by decide +kernel) (by decide +kernel)
theorem tw_1733 : Jvm.Cond.methodLink "SharedairLaw" (145 : Nat) ({ cls := "SharedairModel", name := "delivered", desc := "(II)Z" } : Jvm.MethodName) ∈ TBg := tb_in 1733 (by decide +kernel) (by decide +kernel)
theorem tw_1734 : Jvm.Cond.instanceMethod ({ cls := "SharedairModel", name := "delivered", desc := "(II)Z" } : Jvm.MethodName) ∈ TBg := tb_in 1734 (by decide +kernel) (by decide +kernel)
theorem tw_1735 : Jvm.Cond.selects "SharedairModel" ({ cls := "SharedairModel", name := "delivered", desc := "(II)Z" } : Jvm.MethodName) ({ cls := "SharedairModel", name := "delivered", desc := "(II)Z" } : Jvm.MethodName) ∈ TBg := tb_in 1735 (by decide +kernel) (by decide +kernel)
theorem tw_1736 : Jvm.Cond.code ({ cls := "SharedairModel", name := "delivered", desc := "(II)Z" } : Jvm.MethodName) prog_12_method_51_code (3 : Nat) (Option.some Jvm.ClassFile.FieldType.boolean) ∈ TBg := tb_in 1736 (by decide +kernel) (by decide +kernel)
theorem tw_1737 : Jvm.Cond.methodLink "SharedairLaw" (150 : Nat) ({ cls := "SharedairModel", name := "fairness", desc := "()D" } : Jvm.MethodName) ∈ TBg := tb_in 1737 (by decide +kernel) (by decide +kernel)
theorem tw_1738 : Jvm.Cond.instanceMethod ({ cls := "SharedairModel", name := "fairness", desc := "()D" } : Jvm.MethodName) ∈ TBg := tb_in 1738 (by decide +kernel) (by decide +kernel)
theorem tw_1739 : Jvm.Cond.selects "SharedairModel" ({ cls := "SharedairModel", name := "fairness", desc := "()D" } : Jvm.MethodName) ({ cls := "SharedairModel", name := "fairness", desc := "()D" } : Jvm.MethodName) ∈ TBg := tb_in 1739 (by decide +kernel) (by decide +kernel)
theorem tw_1740 : Jvm.Cond.code ({ cls := "SharedairModel", name := "fairness", desc := "()D" } : Jvm.MethodName) prog_12_method_53_code (1 : Nat) (Option.some Jvm.ClassFile.FieldType.double) ∈ TBg := tb_in 1740 (by decide +kernel) (by decide +kernel)
theorem tw_1741 : Jvm.Cond.methodLink "SharedairModel" (278 : Nat) ({ cls := "SharedairModel", name := "fairnessNow", desc := "()D" } : Jvm.MethodName) ∈ TBg := tb_in 1741 (by decide +kernel) (by decide +kernel)
theorem tw_1743 : Jvm.Cond.instanceMethod ({ cls := "SharedairModel", name := "fairnessNow", desc := "()D" } : Jvm.MethodName) ∈ TBg := tb_in 1743 (by decide +kernel) (by decide +kernel)
theorem tw_1744 : Jvm.Cond.code ({ cls := "SharedairModel", name := "fairnessNow", desc := "()D" } : Jvm.MethodName) prog_12_method_52_code (7 : Nat) (Option.some Jvm.ClassFile.FieldType.double) ∈ TBg := tb_in 1744 (by decide +kernel) (by decide +kernel)
theorem tw_1745 : Jvm.Cond.methodLink "SharedairLaw" (155 : Nat) ({ cls := "SharedairModel", name := "row", desc := "()Ljava/lang/String;" } : Jvm.MethodName) ∈ TBg := tb_in 1745 (by decide +kernel) (by decide +kernel)
theorem tw_1746 : Jvm.Cond.instanceMethod ({ cls := "SharedairModel", name := "row", desc := "()Ljava/lang/String;" } : Jvm.MethodName) ∈ TBg := tb_in 1746 (by decide +kernel) (by decide +kernel)
theorem tw_1747 : Jvm.Cond.selects "SharedairModel" ({ cls := "SharedairModel", name := "row", desc := "()Ljava/lang/String;" } : Jvm.MethodName) ({ cls := "SharedairModel", name := "row", desc := "()Ljava/lang/String;" } : Jvm.MethodName) ∈ TBg := tb_in 1747 (by decide +kernel) (by decide +kernel)
theorem tw_1748 : Jvm.Cond.code ({ cls := "SharedairModel", name := "row", desc := "()Ljava/lang/String;" } : Jvm.MethodName) prog_12_method_54_code (4 : Nat) (Option.some (Jvm.ClassFile.FieldType.object "java/lang/String")) ∈ TBg := tb_in 1748 (by decide +kernel) (by decide +kernel)
theorem tw_1749 : Jvm.Cond.classLink "SharedairModel" (282 : Nat) "java/lang/StringBuilder" ∈ TBg := tb_in 1749 (by decide +kernel) (by decide +kernel)
theorem tw_1750 : Jvm.Cond.methodLink "SharedairModel" (284 : Nat) ({ cls := "java/lang/StringBuilder", name := "<init>", desc := "()V" } : Jvm.MethodName) ∈ TBg := tb_in 1750 (by decide +kernel) (by decide +kernel)
theorem tw_1751 : Jvm.Cond.methodLink "SharedairModel" (285 : Nat) ({ cls := "java/lang/StringBuilder", name := "append", desc := "(C)Ljava/lang/StringBuilder;" } : Jvm.MethodName) ∈ TBg := tb_in 1751 (by decide +kernel) (by decide +kernel)
theorem tw_1752 : Jvm.Cond.methodLink "SharedairModel" (289 : Nat) ({ cls := "java/lang/StringBuilder", name := "toString", desc := "()Ljava/lang/String;" } : Jvm.MethodName) ∈ TBg := tb_in 1752 (by decide +kernel) (by decide +kernel)
theorem tw_1753 : Jvm.Cond.methodLink "SharedairLaw" (158 : Nat) ({ cls := "SharedairModel", name := "would", desc := "(II)I" } : Jvm.MethodName) ∈ TBg := tb_in 1753 (by decide +kernel) (by decide +kernel)
theorem tw_1754 : Jvm.Cond.instanceMethod ({ cls := "SharedairModel", name := "would", desc := "(II)I" } : Jvm.MethodName) ∈ TBg := tb_in 1754 (by decide +kernel) (by decide +kernel)
theorem tw_1755 : Jvm.Cond.selects "SharedairModel" ({ cls := "SharedairModel", name := "would", desc := "(II)I" } : Jvm.MethodName) ({ cls := "SharedairModel", name := "would", desc := "(II)I" } : Jvm.MethodName) ∈ TBg := tb_in 1755 (by decide +kernel) (by decide +kernel)
theorem tw_1756 : Jvm.Cond.code ({ cls := "SharedairModel", name := "would", desc := "(II)I" } : Jvm.MethodName) prog_12_method_55_code (4 : Nat) (Option.some Jvm.ClassFile.FieldType.int) ∈ TBg := tb_in 1756 (by decide +kernel) (by decide +kernel)
theorem tw_1757 : Jvm.Cond.methodLink "SharedairLaw" (161 : Nat) ({ cls := "SharedairModel", name := "throughput", desc := "(II)D" } : Jvm.MethodName) ∈ TBg := tb_in 1757 (by decide +kernel) (by decide +kernel)
theorem tw_1758 : Jvm.Cond.instanceMethod ({ cls := "SharedairModel", name := "throughput", desc := "(II)D" } : Jvm.MethodName) ∈ TBg := tb_in 1758 (by decide +kernel) (by decide +kernel)
theorem tw_1759 : Jvm.Cond.selects "SharedairModel" ({ cls := "SharedairModel", name := "throughput", desc := "(II)D" } : Jvm.MethodName) ({ cls := "SharedairModel", name := "throughput", desc := "(II)D" } : Jvm.MethodName) ∈ TBg := tb_in 1759 (by decide +kernel) (by decide +kernel)
theorem tw_1760 : Jvm.Cond.code ({ cls := "SharedairModel", name := "throughput", desc := "(II)D" } : Jvm.MethodName) prog_12_method_57_code (3 : Nat) (Option.some Jvm.ClassFile.FieldType.double) ∈ TBg := tb_in 1760 (by decide +kernel) (by decide +kernel)
theorem tw_1761 : Jvm.Cond.methodLink "SharedairModel" (295 : Nat) ({ cls := "SharedairModel", name := "throughputOf", desc := "(II)D" } : Jvm.MethodName) ∈ TBg := tb_in 1761 (by decide +kernel) (by decide +kernel)
theorem tw_1762 : Jvm.Cond.static ({ cls := "SharedairModel", name := "throughputOf", desc := "(II)D" } : Jvm.MethodName) ∈ TBg := tb_in 1762 (by decide +kernel) (by decide +kernel)
theorem tw_1763 : Jvm.Cond.code ({ cls := "SharedairModel", name := "throughputOf", desc := "(II)D" } : Jvm.MethodName) prog_12_method_56_code (5 : Nat) (Option.some Jvm.ClassFile.FieldType.double) ∈ TBg := tb_in 1763 (by decide +kernel) (by decide +kernel)
theorem tw_1764 : Jvm.Cond.constantDouble "SharedairModel" (293 : Nat) (4636737291354636288 : UInt64) ∈ TBg := tb_in 1764 (by decide +kernel) (by decide +kernel)
theorem tw_1765 : Jvm.Cond.methodLink "SharedairLaw" (164 : Nat) ({ cls := "SharedairModel", name := "bestChance", desc := "(I)I" } : Jvm.MethodName) ∈ TBg := tb_in 1765 (by decide +kernel) (by decide +kernel)
theorem tw_1766 : Jvm.Cond.instanceMethod ({ cls := "SharedairModel", name := "bestChance", desc := "(I)I" } : Jvm.MethodName) ∈ TBg := tb_in 1766 (by decide +kernel) (by decide +kernel)
theorem tw_1767 : Jvm.Cond.selects "SharedairModel" ({ cls := "SharedairModel", name := "bestChance", desc := "(I)I" } : Jvm.MethodName) ({ cls := "SharedairModel", name := "bestChance", desc := "(I)I" } : Jvm.MethodName) ∈ TBg := tb_in 1767 (by decide +kernel) (by decide +kernel)
theorem tw_1768 : Jvm.Cond.code ({ cls := "SharedairModel", name := "bestChance", desc := "(I)I" } : Jvm.MethodName) prog_12_method_58_code (4 : Nat) (Option.some Jvm.ClassFile.FieldType.int) ∈ TBg := tb_in 1768 (by decide +kernel) (by decide +kernel)
theorem tw_1769 : Jvm.Cond.methodLink "SharedairLaw" (167 : Nat) ({ cls := "SharedairModel", name := "auction", desc := "(I)I" } : Jvm.MethodName) ∈ TBg := tb_in 1769 (by decide +kernel) (by decide +kernel)
theorem tw_1770 : Jvm.Cond.instanceMethod ({ cls := "SharedairModel", name := "auction", desc := "(I)I" } : Jvm.MethodName) ∈ TBg := tb_in 1770 (by decide +kernel) (by decide +kernel)
theorem tw_1771 : Jvm.Cond.selects "SharedairModel" ({ cls := "SharedairModel", name := "auction", desc := "(I)I" } : Jvm.MethodName) ({ cls := "SharedairModel", name := "auction", desc := "(I)I" } : Jvm.MethodName) ∈ TBg := tb_in 1771 (by decide +kernel) (by decide +kernel)
theorem tw_1772 : Jvm.Cond.code ({ cls := "SharedairModel", name := "auction", desc := "(I)I" } : Jvm.MethodName) prog_12_method_59_code (2 : Nat) (Option.some Jvm.ClassFile.FieldType.int) ∈ TBg := tb_in 1772 (by decide +kernel) (by decide +kernel)
theorem tw_1773 : Jvm.Cond.methodLink "SharedairLaw" (171 : Nat) ({ cls := "SharedairModel", name := "cover", desc := "()I" } : Jvm.MethodName) ∈ TBg := tb_in 1773 (by decide +kernel) (by decide +kernel)
theorem tw_1774 : Jvm.Cond.instanceMethod ({ cls := "SharedairModel", name := "cover", desc := "()I" } : Jvm.MethodName) ∈ TBg := tb_in 1774 (by decide +kernel) (by decide +kernel)
theorem tw_1775 : Jvm.Cond.selects "SharedairModel" ({ cls := "SharedairModel", name := "cover", desc := "()I" } : Jvm.MethodName) ({ cls := "SharedairModel", name := "cover", desc := "()I" } : Jvm.MethodName) ∈ TBg := tb_in 1775 (by decide +kernel) (by decide +kernel)
theorem tw_1776 : Jvm.Cond.code ({ cls := "SharedairModel", name := "cover", desc := "()I" } : Jvm.MethodName) prog_12_method_62_code (1 : Nat) (Option.some Jvm.ClassFile.FieldType.int) ∈ TBg := tb_in 1776 (by decide +kernel) (by decide +kernel)
theorem tw_1777 : Jvm.Cond.methodLink "SharedairModel" (302 : Nat) ({ cls := "SharedairModel", name := "coverNow", desc := "()I" } : Jvm.MethodName) ∈ TBg := tb_in 1777 (by decide +kernel) (by decide +kernel)
theorem tw_1779 : Jvm.Cond.instanceMethod ({ cls := "SharedairModel", name := "coverNow", desc := "()I" } : Jvm.MethodName) ∈ TBg := tb_in 1779 (by decide +kernel) (by decide +kernel)
theorem tw_1780 : Jvm.Cond.code ({ cls := "SharedairModel", name := "coverNow", desc := "()I" } : Jvm.MethodName) prog_12_method_61_code (3 : Nat) (Option.some Jvm.ClassFile.FieldType.int) ∈ TBg := tb_in 1780 (by decide +kernel) (by decide +kernel)
theorem tw_1781 : Jvm.Cond.methodLink "SharedairModel" (299 : Nat) ({ cls := "SharedairModel", name := "isCover", desc := "(I)Z" } : Jvm.MethodName) ∈ TBg := tb_in 1781 (by decide +kernel) (by decide +kernel)
theorem tw_1783 : Jvm.Cond.instanceMethod ({ cls := "SharedairModel", name := "isCover", desc := "(I)Z" } : Jvm.MethodName) ∈ TBg := tb_in 1783 (by decide +kernel) (by decide +kernel)
theorem tw_1784 : Jvm.Cond.code ({ cls := "SharedairModel", name := "isCover", desc := "(I)Z" } : Jvm.MethodName) prog_12_method_60_code (5 : Nat) (Option.some Jvm.ClassFile.FieldType.boolean) ∈ TBg := tb_in 1784 (by decide +kernel) (by decide +kernel)
theorem tw_1785 : Jvm.Cond.methodLink "SharedairLaw" (176 : Nat) ({ cls := "SharedairModel", name := "isSound", desc := "()Z" } : Jvm.MethodName) ∈ TBg := tb_in 1785 (by decide +kernel) (by decide +kernel)
theorem tw_1786 : Jvm.Cond.instanceMethod ({ cls := "SharedairModel", name := "isSound", desc := "()Z" } : Jvm.MethodName) ∈ TBg := tb_in 1786 (by decide +kernel) (by decide +kernel)
theorem tw_1787 : Jvm.Cond.selects "SharedairModel" ({ cls := "SharedairModel", name := "isSound", desc := "()Z" } : Jvm.MethodName) ({ cls := "SharedairModel", name := "isSound", desc := "()Z" } : Jvm.MethodName) ∈ TBg := tb_in 1787 (by decide +kernel) (by decide +kernel)
theorem tw_1788 : Jvm.Cond.code ({ cls := "SharedairModel", name := "isSound", desc := "()Z" } : Jvm.MethodName) prog_12_method_64_code (1 : Nat) (Option.some Jvm.ClassFile.FieldType.boolean) ∈ TBg := tb_in 1788 (by decide +kernel) (by decide +kernel)
theorem tw_1789 : Jvm.Cond.methodLink "SharedairModel" (305 : Nat) ({ cls := "SharedairModel", name := "isWhole", desc := "()Z" } : Jvm.MethodName) ∈ TBg := tb_in 1789 (by decide +kernel) (by decide +kernel)
theorem tw_1791 : Jvm.Cond.instanceMethod ({ cls := "SharedairModel", name := "isWhole", desc := "()Z" } : Jvm.MethodName) ∈ TBg := tb_in 1791 (by decide +kernel) (by decide +kernel)
theorem tw_1792 : Jvm.Cond.code ({ cls := "SharedairModel", name := "isWhole", desc := "()Z" } : Jvm.MethodName) prog_12_method_63_code (4 : Nat) (Option.some Jvm.ClassFile.FieldType.boolean) ∈ TBg := tb_in 1792 (by decide +kernel) (by decide +kernel)
theorem tw_1793 : Jvm.Cond.methodLink "SharedairLaw" (181 : Nat) ({ cls := "SharedairModel", name := "digest", desc := "()J" } : Jvm.MethodName) ∈ TBg := tb_in 1793 (by decide +kernel) (by decide +kernel)
theorem tw_1794 : Jvm.Cond.instanceMethod ({ cls := "SharedairModel", name := "digest", desc := "()J" } : Jvm.MethodName) ∈ TBg := tb_in 1794 (by decide +kernel) (by decide +kernel)
theorem tw_1795 : Jvm.Cond.selects "SharedairModel" ({ cls := "SharedairModel", name := "digest", desc := "()J" } : Jvm.MethodName) ({ cls := "SharedairModel", name := "digest", desc := "()J" } : Jvm.MethodName) ∈ TBg := tb_in 1795 (by decide +kernel) (by decide +kernel)
theorem tw_1796 : Jvm.Cond.code ({ cls := "SharedairModel", name := "digest", desc := "()J" } : Jvm.MethodName) prog_12_method_66_code (7 : Nat) (Option.some Jvm.ClassFile.FieldType.long) ∈ TBg := tb_in 1796 (by decide +kernel) (by decide +kernel)
theorem tw_1797 : Jvm.Cond.constantLong "SharedairModel" (310 : Nat) (7603 : Int64) ∈ TBg := tb_in 1797 (by decide +kernel) (by decide +kernel)
theorem tw_1798 : Jvm.Cond.methodLink "SharedairModel" (312 : Nat) ({ cls := "SharedairModel", name := "add", desc := "(JJ)J" } : Jvm.MethodName) ∈ TBg := tb_in 1798 (by decide +kernel) (by decide +kernel)
theorem tw_1799 : Jvm.Cond.static ({ cls := "SharedairModel", name := "add", desc := "(JJ)J" } : Jvm.MethodName) ∈ TBg := tb_in 1799 (by decide +kernel) (by decide +kernel)
theorem tw_1800 : Jvm.Cond.code ({ cls := "SharedairModel", name := "add", desc := "(JJ)J" } : Jvm.MethodName) prog_12_method_65_code (4 : Nat) (Option.some Jvm.ClassFile.FieldType.long) ∈ TBg := tb_in 1800 (by decide +kernel) (by decide +kernel)
theorem tw_1801 : Jvm.Cond.constantLong "SharedairModel" (308 : Nat) (31 : Int64) ∈ TBg := tb_in 1801 (by decide +kernel) (by decide +kernel)
theorem tw_1802 : Jvm.Cond.constantDouble "SharedairModel" (315 : Nat) (4661225614328463360 : UInt64) ∈ TBg := tb_in 1802 (by decide +kernel) (by decide +kernel)
theorem tw_1803 : Jvm.Cond.sameMethod "java/lang/AbstractStringBuilder" "java/lang/AbstractStringBuilder" "append" "(C)Ljava/lang/AbstractStringBuilder;" ∈ TBg := tb_in 1803 (by decide +kernel) (by decide +kernel)
theorem tw_1804 : Jvm.Cond.sameMethod "java/lang/AbstractStringBuilder" "java/lang/AbstractStringBuilder" "ensureCapacityInternal" "(I)V" ∈ TBg := tb_in 1804 (by decide +kernel) (by decide +kernel)
theorem tw_1834 : Jvm.Cond.selects "[Ljava/lang/Object;" ({ cls := "java/lang/Object", name := "getClass", desc := "()Ljava/lang/Class;" } : Jvm.MethodName) ({ cls := "java/lang/Object", name := "getClass", desc := "()Ljava/lang/Class;" } : Jvm.MethodName) ∈ TBg := tb_in 1834 (by decide +kernel) (by decide +kernel)
theorem kin_0 : ∀ w ∈ u_ws RX0 TX0 5, w ∈ TBg := tb_sub _ [151, 153, 155, 157, 159] (by decide +kernel) (by decide +kernel)
theorem kdf_0 : ∀ k, k < 5 → (kF 0 k = 0 ∧ defaultValue (tyX0 k) = .int 0) ∨ (kF 0 k = 1 ∧ defaultValue (tyX0 k) = .null) ∨ (kF 0 k = 2 ∧ defaultValue (tyX0 k) = .long 0) ∨ (kF 0 k = 3 ∧ defaultValue (tyX0 k) = .double 0) := by decide +kernel
theorem kin_1 : ∀ w ∈ u_ws RX1 TX1 2, w ∈ TBg := tb_sub _ [168, 170] (by decide +kernel) (by decide +kernel)
theorem kdf_1 : ∀ k, k < 2 → (kF 1 k = 0 ∧ defaultValue (tyX1 k) = .int 0) ∨ (kF 1 k = 1 ∧ defaultValue (tyX1 k) = .null) ∨ (kF 1 k = 2 ∧ defaultValue (tyX1 k) = .long 0) ∨ (kF 1 k = 3 ∧ defaultValue (tyX1 k) = .double 0) := by decide +kernel
theorem kin_2 : ∀ w ∈ u_ws RX2 TX2 3, w ∈ TBg := tb_sub _ [272, 274, 276] (by decide +kernel) (by decide +kernel)
theorem kdf_2 : ∀ k, k < 3 → (kF 2 k = 0 ∧ defaultValue (tyX2 k) = .int 0) ∨ (kF 2 k = 1 ∧ defaultValue (tyX2 k) = .null) ∨ (kF 2 k = 2 ∧ defaultValue (tyX2 k) = .long 0) ∨ (kF 2 k = 3 ∧ defaultValue (tyX2 k) = .double 0) := by decide +kernel
theorem kin_3 : ∀ w ∈ u_ws RX3 TX3 9, w ∈ TBg := tb_sub _ [359, 361, 363, 365, 367, 369, 371, 373, 375] (by decide +kernel) (by decide +kernel)
theorem kdf_3 : ∀ k, k < 9 → (kF 3 k = 0 ∧ defaultValue (tyX3 k) = .int 0) ∨ (kF 3 k = 1 ∧ defaultValue (tyX3 k) = .null) ∨ (kF 3 k = 2 ∧ defaultValue (tyX3 k) = .long 0) ∨ (kF 3 k = 3 ∧ defaultValue (tyX3 k) = .double 0) := by decide +kernel
theorem kin_4 : ∀ w ∈ u_ws RX4 TX4 16, w ∈ TBg := tb_sub _ [231, 233, 235, 237, 239, 241, 243, 245, 247, 249, 251, 253, 255, 257, 259, 261] (by decide +kernel) (by decide +kernel)
theorem kdf_4 : ∀ k, k < 16 → (kF 4 k = 0 ∧ defaultValue (tyX4 k) = .int 0) ∨ (kF 4 k = 1 ∧ defaultValue (tyX4 k) = .null) ∨ (kF 4 k = 2 ∧ defaultValue (tyX4 k) = .long 0) ∨ (kF 4 k = 3 ∧ defaultValue (tyX4 k) = .double 0) := by decide +kernel
theorem kin_5 : ∀ w ∈ u_ws RX5 TX5 1, w ∈ TBg := tb_sub _ [180] (by decide +kernel) (by decide +kernel)
theorem kdf_5 : ∀ k, k < 1 → (kF 5 k = 0 ∧ defaultValue (tyX5 k) = .int 0) ∨ (kF 5 k = 1 ∧ defaultValue (tyX5 k) = .null) ∨ (kF 5 k = 2 ∧ defaultValue (tyX5 k) = .long 0) ∨ (kF 5 k = 3 ∧ defaultValue (tyX5 k) = .double 0) := by decide +kernel
theorem kin_6 : ∀ w ∈ u_ws RX6 TX6 6, w ∈ TBg := tb_sub _ [294, 296, 298, 300, 302, 304] (by decide +kernel) (by decide +kernel)
theorem kdf_6 : ∀ k, k < 6 → (kF 6 k = 0 ∧ defaultValue (tyX6 k) = .int 0) ∨ (kF 6 k = 1 ∧ defaultValue (tyX6 k) = .null) ∨ (kF 6 k = 2 ∧ defaultValue (tyX6 k) = .long 0) ∨ (kF 6 k = 3 ∧ defaultValue (tyX6 k) = .double 0) := by decide +kernel
theorem kin_7 : ∀ w ∈ u_ws RX7 TX7 7, w ∈ TBg := tb_sub _ [325, 327, 329, 331, 333, 335, 337] (by decide +kernel) (by decide +kernel)
theorem kdf_7 : ∀ k, k < 7 → (kF 7 k = 0 ∧ defaultValue (tyX7 k) = .int 0) ∨ (kF 7 k = 1 ∧ defaultValue (tyX7 k) = .null) ∨ (kF 7 k = 2 ∧ defaultValue (tyX7 k) = .long 0) ∨ (kF 7 k = 3 ∧ defaultValue (tyX7 k) = .double 0) := by decide +kernel
theorem kin_8 : ∀ w ∈ u_ws RX8 TX8 5, w ∈ TBg := tb_sub _ [383, 385, 387, 389, 391] (by decide +kernel) (by decide +kernel)
theorem kdf_8 : ∀ k, k < 5 → (kF 8 k = 0 ∧ defaultValue (tyX8 k) = .int 0) ∨ (kF 8 k = 1 ∧ defaultValue (tyX8 k) = .null) ∨ (kF 8 k = 2 ∧ defaultValue (tyX8 k) = .long 0) ∨ (kF 8 k = 3 ∧ defaultValue (tyX8 k) = .double 0) := by decide +kernel
theorem kin_9 : ∀ w ∈ u_ws RX9 TX9 2, w ∈ TBg := tb_sub _ [962, 964] (by decide +kernel) (by decide +kernel)
theorem kdf_9 : ∀ k, k < 2 → (kF 9 k = 0 ∧ defaultValue (tyX9 k) = .int 0) ∨ (kF 9 k = 1 ∧ defaultValue (tyX9 k) = .null) ∨ (kF 9 k = 2 ∧ defaultValue (tyX9 k) = .long 0) ∨ (kF 9 k = 3 ∧ defaultValue (tyX9 k) = .double 0) := by decide +kernel
theorem kin_10 : ∀ w ∈ u_ws RX10 TX10 18, w ∈ TBg := tb_sub _ [1383, 1385, 1387, 1389, 1391, 1393, 1395, 1397, 1399, 1401, 1403, 1405, 1407, 1409, 1411, 1413, 1415, 1417] (by decide +kernel) (by decide +kernel)
theorem kdf_10 : ∀ k, k < 18 → (kF 10 k = 0 ∧ defaultValue (tyX10 k) = .int 0) ∨ (kF 10 k = 1 ∧ defaultValue (tyX10 k) = .null) ∨ (kF 10 k = 2 ∧ defaultValue (tyX10 k) = .long 0) ∨ (kF 10 k = 3 ∧ defaultValue (tyX10 k) = .double 0) := by decide +kernel
theorem kin_11 : ∀ w ∈ u_ws RX11 TX11 12, w ∈ TBg := tb_sub _ [1300, 1302, 1304, 1306, 1308, 1310, 1312, 1314, 1316, 1318, 1320, 1322] (by decide +kernel) (by decide +kernel)
theorem kdf_11 : ∀ k, k < 12 → (kF 11 k = 0 ∧ defaultValue (tyX11 k) = .int 0) ∨ (kF 11 k = 1 ∧ defaultValue (tyX11 k) = .null) ∨ (kF 11 k = 2 ∧ defaultValue (tyX11 k) = .long 0) ∨ (kF 11 k = 3 ∧ defaultValue (tyX11 k) = .double 0) := by decide +kernel
theorem kin_12 : ∀ w ∈ u_ws RJ0 TJ0 4, w ∈ TBg := tb_sub _ [757, 759, 761, 763] (by decide +kernel) (by decide +kernel)
theorem kdf_12 : ∀ k, k < 4 → (kF 12 k = 0 ∧ defaultValue (tyJ0 k) = .int 0) ∨ (kF 12 k = 1 ∧ defaultValue (tyJ0 k) = .null) ∨ (kF 12 k = 2 ∧ defaultValue (tyJ0 k) = .long 0) ∨ (kF 12 k = 3 ∧ defaultValue (tyJ0 k) = .double 0) := by decide +kernel
theorem kin_13 : ∀ w ∈ u_ws RJ4 TJ4 4, w ∈ TBg := tb_sub _ [451, 453, 455, 457] (by decide +kernel) (by decide +kernel)
theorem kdf_13 : ∀ k, k < 4 → (kF 13 k = 0 ∧ defaultValue (tyJ4 k) = .int 0) ∨ (kF 13 k = 1 ∧ defaultValue (tyJ4 k) = .null) ∨ (kF 13 k = 2 ∧ defaultValue (tyJ4 k) = .long 0) ∨ (kF 13 k = 3 ∧ defaultValue (tyJ4 k) = .double 0) := by decide +kernel
theorem kin_14 : ∀ w ∈ u_ws RJx35411 TJx35411 4, w ∈ TBg := tb_sub _ [1594, 1596, 1598, 1600] (by decide +kernel) (by decide +kernel)
theorem kdf_14 : ∀ k, k < 4 → (kF 14 k = 0 ∧ defaultValue (tyJx35411 k) = .int 0) ∨ (kF 14 k = 1 ∧ defaultValue (tyJx35411 k) = .null) ∨ (kF 14 k = 2 ∧ defaultValue (tyJx35411 k) = .long 0) ∨ (kF 14 k = 3 ∧ defaultValue (tyJx35411 k) = .double 0) := by decide +kernel
theorem kin_15 : ∀ w ∈ u_ws RJx4a65c TJx4a65c 3, w ∈ TBg := tb_sub _ [1285, 1281, 1283] (by decide +kernel) (by decide +kernel)
theorem kdf_15 : ∀ k, k < 3 → (kF 15 k = 0 ∧ defaultValue (tyJx4a65c k) = .int 0) ∨ (kF 15 k = 1 ∧ defaultValue (tyJx4a65c k) = .null) ∨ (kF 15 k = 2 ∧ defaultValue (tyJx4a65c k) = .long 0) ∨ (kF 15 k = 3 ∧ defaultValue (tyJx4a65c k) = .double 0) := by decide +kernel
def kNms : List String := ["java/lang/RuntimeException", "java/lang/Exception"]
theorem kfit_n : ∀ n ∈ kNms, Bundle.fit n = true := by decide +kernel
theorem kfit_0 : Bundle.fit "java/lang/IllegalArgumentException" = true := by decide +kernel
theorem kfit_1 : Bundle.fit "java/lang/IllegalStateException" = true := by decide +kernel
theorem kfit_2 : Bundle.fit "java/lang/IndexOutOfBoundsException" = true := by decide +kernel
theorem khg_0_57 : ∀ w ∈ (vx_atS RX8 57 "java/lang/IllegalArgumentException" kNms).filter goodWord, w ∈ TBg := by decide +kernel
theorem khn_0_57 : ∀ w ∈ (vx_atS RX8 57 "java/lang/IllegalArgumentException" kNms).filter (fun w => !goodWord w), w = .castable "java/lang/IllegalArgumentException" "java/lang/IllegalArgumentException" ∨ w ∈ kDecl.map Cond.declares := by decide +kernel
theorem kho_0_57 : ∀ w ∈ vx_atS RX8 57 "java/lang/IllegalArgumentException" kNms, vx_ot w = true := by decide +kernel
theorem khg_1_67 : ∀ w ∈ (vx_atS RX8 67 "java/lang/IllegalStateException" kNms).filter goodWord, w ∈ TBg := by decide +kernel
theorem khn_1_67 : ∀ w ∈ (vx_atS RX8 67 "java/lang/IllegalStateException" kNms).filter (fun w => !goodWord w), w = .castable "java/lang/IllegalStateException" "java/lang/IllegalStateException" ∨ w ∈ kDecl.map Cond.declares := by decide +kernel
theorem kho_1_67 : ∀ w ∈ vx_atS RX8 67 "java/lang/IllegalStateException" kNms, vx_ot w = true := by decide +kernel
theorem khg_2_279 : ∀ w ∈ (vx_atS RX8 279 "java/lang/IndexOutOfBoundsException" kNms).filter goodWord, w ∈ TBg := by decide +kernel
theorem khn_2_279 : ∀ w ∈ (vx_atS RX8 279 "java/lang/IndexOutOfBoundsException" kNms).filter (fun w => !goodWord w), w = .castable "java/lang/IndexOutOfBoundsException" "java/lang/IndexOutOfBoundsException" ∨ w ∈ kDecl.map Cond.declares := by decide +kernel
theorem kho_2_279 : ∀ w ∈ vx_atS RX8 279 "java/lang/IndexOutOfBoundsException" kNms, vx_ot w = true := by decide +kernel
theorem mok_AbstractCollection_init : MOK j_AbstractCollection_init := ⟨by decide +kernel, rfl, tw_1269⟩
theorem cal_AbstractList_init_AbstractCollection_init : CalOK j_AbstractList_init j_AbstractCollection_init 0 := ⟨mok_AbstractCollection_init, by decide, by decide, tw_71, ⟨by decide, by decide⟩, by decide +kernel⟩
theorem mok_AbstractStringBuilder_ensureCapacityInternal : MOK j_AbstractStringBuilder_ensureCapacityInternal := ⟨by decide +kernel, rfl, tw_479⟩
theorem cal_AbstractStringBuilder_append_AbstractStringBuilder_ensureCapacityInternal : CalOK j_AbstractStringBuilder_append j_AbstractStringBuilder_ensureCapacityInternal 1 := ⟨mok_AbstractStringBuilder_ensureCapacityInternal, by decide, by decide, tw_91, ⟨by decide, by decide⟩, by decide +kernel⟩
theorem mok_AbstractStringBuilder_isLatin1 : MOK j_AbstractStringBuilder_isLatin1 := ⟨by decide +kernel, rfl, tw_515⟩
theorem cal_AbstractStringBuilder_append_AbstractStringBuilder_isLatin1 : CalOK j_AbstractStringBuilder_append j_AbstractStringBuilder_isLatin1 0 := ⟨mok_AbstractStringBuilder_isLatin1, by decide, by decide, tw_91, ⟨by decide, by decide⟩, by decide +kernel⟩
theorem mok_StringLatin1_canEncode : MOK j_StringLatin1_canEncode := ⟨by decide +kernel, rfl, tw_518⟩
theorem cal_AbstractStringBuilder_append_StringLatin1_canEncode : CalOK j_AbstractStringBuilder_append j_StringLatin1_canEncode 1 := ⟨mok_StringLatin1_canEncode, by decide, by decide, tw_95, ⟨by decide, by decide⟩, by decide +kernel⟩
theorem mok_ArrayList_grow_LjavalangObject : MOK j_ArrayList_grow_LjavalangObject := ⟨by decide +kernel, rfl, tw_1431⟩
theorem cal_ArrayList_add_LjavalangObjectLjavalangObjectIV_ArrayList_grow_LjavalangObject : CalOK j_ArrayList_add_LjavalangObjectLjavalangObjectIV j_ArrayList_grow_LjavalangObject 0 := ⟨mok_ArrayList_grow_LjavalangObject, by decide, by decide, tw_73, ⟨by decide, by decide⟩, by decide +kernel⟩
theorem mok_ArrayList_add_LjavalangObjectLjavalangObjectIV : MOK j_ArrayList_add_LjavalangObjectLjavalangObjectIV := ⟨by decide +kernel, rfl, tw_1427⟩
theorem cal_ArrayList_add_LjavalangObjectZ_ArrayList_add_LjavalangObjectLjavalangObjectIV : CalOK j_ArrayList_add_LjavalangObjectZ j_ArrayList_add_LjavalangObjectLjavalangObjectIV 3 := ⟨mok_ArrayList_add_LjavalangObjectLjavalangObjectIV, by decide, by decide, tw_73, ⟨by decide, by decide⟩, by decide +kernel⟩
theorem mok_ArrayList_elementData : MOK j_ArrayList_elementData := ⟨by decide +kernel, rfl, tw_1490⟩
theorem cal_ArrayList_get_ArrayList_elementData : CalOK j_ArrayList_get j_ArrayList_elementData 1 := ⟨mok_ArrayList_elementData, by decide, by decide, tw_73, ⟨by decide, by decide⟩, by decide +kernel⟩
theorem mok_Objects_checkIndex : MOK j_Objects_checkIndex := ⟨by decide +kernel, rfl, tw_1485⟩
theorem cal_ArrayList_get_Objects_checkIndex : CalOK j_ArrayList_get j_Objects_checkIndex 2 := ⟨mok_Objects_checkIndex, by decide, by decide, tw_88, ⟨by decide, by decide⟩, by decide +kernel⟩
theorem mok_ArraysSupport_newLength : MOK j_ArraysSupport_newLength := ⟨by decide +kernel, rfl, tw_486⟩
theorem cal_ArrayList_grow_ILjavalangObject_ArraysSupport_newLength : CalOK j_ArrayList_grow_ILjavalangObject j_ArraysSupport_newLength 3 := ⟨mok_ArraysSupport_newLength, by decide, by decide, tw_81, ⟨by decide, by decide⟩, by decide +kernel⟩
theorem mok_Arrays_copyOf_LjavalangObjectILjavalangObject : MOK j_Arrays_copyOf_LjavalangObjectILjavalangObject := ⟨by decide +kernel, rfl, tw_1439⟩
theorem cal_ArrayList_grow_ILjavalangObject_Arrays_copyOf_LjavalangObjectILjavalangObject : CalOK j_ArrayList_grow_ILjavalangObject j_Arrays_copyOf_LjavalangObjectILjavalangObject 2 := ⟨mok_Arrays_copyOf_LjavalangObjectILjavalangObject, by decide, by decide, tw_83, ⟨by decide, by decide⟩, by decide +kernel⟩
theorem mok_Math_max : MOK j_Math_max := ⟨by decide +kernel, rfl, tw_489⟩
theorem cal_ArrayList_grow_ILjavalangObject_Math_max : CalOK j_ArrayList_grow_ILjavalangObject j_Math_max 2 := ⟨mok_Math_max, by decide, by decide, tw_82, ⟨by decide, by decide⟩, by decide +kernel⟩
theorem mok_ArrayList_grow_ILjavalangObject : MOK j_ArrayList_grow_ILjavalangObject := ⟨by decide +kernel, rfl, tw_1435⟩
theorem cal_ArrayList_grow_LjavalangObject_ArrayList_grow_ILjavalangObject : CalOK j_ArrayList_grow_LjavalangObject j_ArrayList_grow_ILjavalangObject 1 := ⟨mok_ArrayList_grow_ILjavalangObject, by decide, by decide, tw_73, ⟨by decide, by decide⟩, by decide +kernel⟩
theorem mok_AbstractList_init : MOK j_AbstractList_init := ⟨by decide +kernel, rfl, tw_1266⟩
theorem cal_ArrayList_init_AbstractList_init : CalOK j_ArrayList_init j_AbstractList_init 0 := ⟨mok_AbstractList_init, by decide, by decide, tw_72, ⟨by decide, by decide⟩, by decide +kernel⟩
theorem mok_Itr_init : MOK j_Itr_init := ⟨by decide +kernel, rfl, tw_1588⟩
theorem cal_ArrayList_iterator_Itr_init : CalOK j_ArrayList_iterator j_Itr_init 1 := ⟨mok_Itr_init, by decide, by decide, tw_90, ⟨by decide, by decide⟩, by decide +kernel⟩
theorem mok_ArrayList_fastRemove : MOK j_ArrayList_fastRemove := ⟨by decide +kernel, rfl, tw_1555⟩
theorem cal_ArrayList_remove_ArrayList_fastRemove : CalOK j_ArrayList_remove j_ArrayList_fastRemove 2 := ⟨mok_ArrayList_fastRemove, by decide, by decide, tw_73, ⟨by decide, by decide⟩, by decide +kernel⟩
theorem cal_ArrayList_remove_Objects_checkIndex : CalOK j_ArrayList_remove j_Objects_checkIndex 2 := ⟨mok_Objects_checkIndex, by decide, by decide, tw_88, ⟨by decide, by decide⟩, by decide +kernel⟩
theorem cal_ArraysSupport_newLength_Math_max : CalOK j_ArraysSupport_newLength j_Math_max 2 := ⟨mok_Math_max, by decide, by decide, tw_82, ⟨by decide, by decide⟩, by decide +kernel⟩
theorem mok_Arrays_copyOfRangeByte : MOK j_Arrays_copyOfRangeByte := ⟨by decide +kernel, rfl, tw_596⟩
theorem cal_Arrays_copyOfRange_Arrays_copyOfRangeByte : CalOK j_Arrays_copyOfRange j_Arrays_copyOfRangeByte 3 := ⟨mok_Arrays_copyOfRangeByte, by decide, by decide, tw_83, ⟨by decide, by decide⟩, by decide +kernel⟩
theorem mok_Arrays_checkLength : MOK j_Arrays_checkLength := ⟨by decide +kernel, rfl, tw_599⟩
theorem cal_Arrays_copyOfRangeByte_Arrays_checkLength : CalOK j_Arrays_copyOfRangeByte j_Arrays_checkLength 2 := ⟨mok_Arrays_checkLength, by decide, by decide, tw_83, ⟨by decide, by decide⟩, by decide +kernel⟩
theorem mok_Math_min : MOK j_Math_min := ⟨by decide +kernel, rfl, tw_507⟩
theorem cal_Arrays_copyOfRangeByte_Math_min : CalOK j_Arrays_copyOfRangeByte j_Math_min 2 := ⟨mok_Math_min, by decide, by decide, tw_82, ⟨by decide, by decide⟩, by decide +kernel⟩
theorem cal_Arrays_copyOf_LjavalangObjectILjavalangClassLjavalangObject_Math_min : CalOK j_Arrays_copyOf_LjavalangObjectILjavalangClassLjavalangObject j_Math_min 2 := ⟨mok_Math_min, by decide, by decide, tw_82, ⟨by decide, by decide⟩, by decide +kernel⟩
theorem mok_Arrays_copyOf_LjavalangObjectILjavalangClassLjavalangObject : MOK j_Arrays_copyOf_LjavalangObjectILjavalangClassLjavalangObject := ⟨by decide +kernel, rfl, tw_1465⟩
theorem cal_Arrays_copyOf_LjavalangObjectILjavalangObject_Arrays_copyOf_LjavalangObjectILjavalangClassLjavalangObject : CalOK j_Arrays_copyOf_LjavalangObjectILjavalangObject j_Arrays_copyOf_LjavalangObjectILjavalangClassLjavalangObject 3 := ⟨mok_Arrays_copyOf_LjavalangObjectILjavalangClassLjavalangObject, by decide, by decide, tw_83, ⟨by decide, by decide⟩, by decide +kernel⟩
theorem mok_Frame_init : MOK j_Frame_init := ⟨by decide +kernel, rfl, tw_129⟩
theorem cal_FrameQueue_init_Frame_init : CalOK j_FrameQueue_init j_Frame_init 0 := ⟨mok_Frame_init, by decide, by decide, tw_65, ⟨by decide, by decide⟩, by decide +kernel⟩
theorem mok_Itr_checkForComodification : MOK j_Itr_checkForComodification := ⟨by decide +kernel, rfl, tw_1626⟩
theorem cal_Itr_next_Itr_checkForComodification : CalOK j_Itr_next j_Itr_checkForComodification 0 := ⟨mok_Itr_checkForComodification, by decide, by decide, tw_90, ⟨by decide, by decide⟩, by decide +kernel⟩
theorem mok_Land_adjust : MOK j_Land_adjust := ⟨by decide +kernel, rfl, tw_1006⟩
theorem cal_Land_add_Land_adjust : CalOK j_Land_add j_Land_adjust 3 := ⟨mok_Land_adjust, by decide, by decide, tw_62, ⟨by decide, by decide⟩, by decide +kernel⟩
theorem mok_Land_findHearers : MOK j_Land_findHearers := ⟨by decide +kernel, rfl, tw_1010⟩
theorem cal_Land_adjust_Land_findHearers : CalOK j_Land_adjust j_Land_findHearers 0 := ⟨mok_Land_findHearers, by decide, by decide, tw_62, ⟨by decide, by decide⟩, by decide +kernel⟩
theorem mok_Land_canHear : MOK j_Land_canHear := ⟨by decide +kernel, rfl, tw_912⟩
theorem cal_Land_areLinked_Land_canHear : CalOK j_Land_areLinked j_Land_canHear 2 := ⟨mok_Land_canHear, by decide, by decide, tw_62, ⟨by decide, by decide⟩, by decide +kernel⟩
theorem mok_Land_isNode : MOK j_Land_isNode := ⟨by decide +kernel, rfl, tw_807⟩
theorem cal_Land_canHear_Land_isNode : CalOK j_Land_canHear j_Land_isNode 1 := ⟨mok_Land_isNode, by decide, by decide, tw_62, ⟨by decide, by decide⟩, by decide +kernel⟩
theorem mok_S_isIn : MOK j_S_isIn := ⟨by decide +kernel, rfl, tw_412⟩
theorem cal_Land_canHear_S_isIn : CalOK j_Land_canHear j_S_isIn 2 := ⟨mok_S_isIn, by decide, by decide, tw_61, ⟨by decide, by decide⟩, by decide +kernel⟩
theorem mok_Integer_bitCount : MOK j_Integer_bitCount := ⟨by decide +kernel, rfl, tw_780⟩
theorem cal_Land_fewestCovering_Integer_bitCount : CalOK j_Land_fewestCovering j_Integer_bitCount 1 := ⟨mok_Integer_bitCount, by decide, by decide, tw_87, ⟨by decide, by decide⟩, by decide +kernel⟩
theorem mok_Land_everyone : MOK j_Land_everyone := ⟨by decide +kernel, rfl, tw_777⟩
theorem cal_Land_fewestCovering_Land_everyone : CalOK j_Land_fewestCovering j_Land_everyone 0 := ⟨mok_Land_everyone, by decide, by decide, tw_62, ⟨by decide, by decide⟩, by decide +kernel⟩
theorem mok_Land_isCovering : MOK j_Land_isCovering := ⟨by decide +kernel, rfl, tw_787⟩
theorem cal_Land_fewestCovering_Land_isCovering : CalOK j_Land_fewestCovering j_Land_isCovering 1 := ⟨mok_Land_isCovering, by decide, by decide, tw_62, ⟨by decide, by decide⟩, by decide +kernel⟩
theorem mok_Land_far : MOK j_Land_far := ⟨by decide +kernel, rfl, tw_1014⟩
theorem cal_Land_findHearers_Land_far : CalOK j_Land_findHearers j_Land_far 2 := ⟨mok_Land_far, by decide, by decide, tw_62, ⟨by decide, by decide⟩, by decide +kernel⟩
theorem cal_Land_gets_Land_canHear : CalOK j_Land_gets j_Land_canHear 2 := ⟨mok_Land_canHear, by decide, by decide, tw_62, ⟨by decide, by decide⟩, by decide +kernel⟩
theorem cal_Land_gets_Land_far : CalOK j_Land_gets j_Land_far 2 := ⟨mok_Land_far, by decide, by decide, tw_62, ⟨by decide, by decide⟩, by decide +kernel⟩
theorem cal_Land_gets_S_isIn : CalOK j_Land_gets j_S_isIn 2 := ⟨mok_S_isIn, by decide, by decide, tw_61, ⟨by decide, by decide⟩, by decide +kernel⟩
theorem cal_Land_hearsOneOf_Land_canHear : CalOK j_Land_hearsOneOf j_Land_canHear 2 := ⟨mok_Land_canHear, by decide, by decide, tw_62, ⟨by decide, by decide⟩, by decide +kernel⟩
theorem cal_Land_hearsOneOf_S_isIn : CalOK j_Land_hearsOneOf j_S_isIn 2 := ⟨mok_S_isIn, by decide, by decide, tw_61, ⟨by decide, by decide⟩, by decide +kernel⟩
theorem mok_Node_init : MOK j_Node_init := ⟨by decide +kernel, rfl, tw_116⟩
theorem cal_Land_init_Node_init : CalOK j_Land_init j_Node_init 0 := ⟨mok_Node_init, by decide, by decide, tw_63, ⟨by decide, by decide⟩, by decide +kernel⟩
theorem cal_Land_isCovering_Land_everyone : CalOK j_Land_isCovering j_Land_everyone 0 := ⟨mok_Land_everyone, by decide, by decide, tw_62, ⟨by decide, by decide⟩, by decide +kernel⟩
theorem cal_Land_isCovering_S_isIn : CalOK j_Land_isCovering j_S_isIn 2 := ⟨mok_S_isIn, by decide, by decide, tw_61, ⟨by decide, by decide⟩, by decide +kernel⟩
theorem mok_Land_areLinked : MOK j_Land_areLinked := ⟨by decide +kernel, rfl, tw_908⟩
theorem cal_Land_linkedWith_Land_areLinked : CalOK j_Land_linkedWith j_Land_areLinked 2 := ⟨mok_Land_areLinked, by decide, by decide, tw_62, ⟨by decide, by decide⟩, by decide +kernel⟩
theorem cal_Land_put_Land_findHearers : CalOK j_Land_put j_Land_findHearers 0 := ⟨mok_Land_findHearers, by decide, by decide, tw_62, ⟨by decide, by decide⟩, by decide +kernel⟩
theorem mok_S_air : MOK j_S_air := ⟨by decide +kernel, rfl, tw_832⟩
theorem cal_Law_air_S_air : CalOK j_Law_air j_S_air 1 := ⟨mok_S_air, by decide, by decide, tw_61, ⟨by decide, by decide⟩, by decide +kernel⟩
theorem mok_S_auction : MOK j_S_auction := ⟨by decide +kernel, rfl, tw_949⟩
theorem cal_Law_auction_S_auction : CalOK j_Law_auction j_S_auction 1 := ⟨mok_S_auction, by decide, by decide, tw_61, ⟨by decide, by decide⟩, by decide +kernel⟩
theorem mok_S_bestChance : MOK j_S_bestChance := ⟨by decide +kernel, rfl, tw_1247⟩
theorem cal_Law_bestChance_S_bestChance : CalOK j_Law_bestChance j_S_bestChance 1 := ⟨mok_S_bestChance, by decide, by decide, tw_61, ⟨by decide, by decide⟩, by decide +kernel⟩
theorem mok_S_bid : MOK j_S_bid := ⟨by decide +kernel, rfl, tw_1174⟩
theorem cal_Law_bid_S_bid : CalOK j_Law_bid j_S_bid 3 := ⟨mok_S_bid, by decide, by decide, tw_61, ⟨by decide, by decide⟩, by decide +kernel⟩
theorem mok_S_delivered : MOK j_S_delivered := ⟨by decide +kernel, rfl, tw_1215⟩
theorem cal_Law_delivered_S_delivered : CalOK j_Law_delivered j_S_delivered 2 := ⟨mok_S_delivered, by decide, by decide, tw_61, ⟨by decide, by decide⟩, by decide +kernel⟩
theorem mok_S_exchange : MOK j_S_exchange := ⟨by decide +kernel, rfl, tw_1149⟩
theorem cal_Law_exchange_S_exchange : CalOK j_Law_exchange j_S_exchange 1 := ⟨mok_S_exchange, by decide, by decide, tw_61, ⟨by decide, by decide⟩, by decide +kernel⟩
theorem mok_S_hears : MOK j_S_hears := ⟨by decide +kernel, rfl, tw_1191⟩
theorem cal_Law_hears_S_hears : CalOK j_Law_hears j_S_hears 2 := ⟨mok_S_hears, by decide, by decide, tw_61, ⟨by decide, by decide⟩, by decide +kernel⟩
theorem mok_S_inQueue : MOK j_S_inQueue := ⟨by decide +kernel, rfl, tw_918⟩
theorem cal_Law_inQueue_S_inQueue : CalOK j_Law_inQueue j_S_inQueue 3 := ⟨mok_S_inQueue, by decide, by decide, tw_61, ⟨by decide, by decide⟩, by decide +kernel⟩
theorem mok_Law_air : MOK j_Law_air := ⟨by decide +kernel, rfl, tw_1207⟩
theorem cal_Law_law_Law_air : CalOK j_Law_law j_Law_air 3 := ⟨mok_Law_air, by decide, by decide, tw_60, ⟨by decide, by decide⟩, by decide +kernel⟩
theorem mok_Law_auction : MOK j_Law_auction := ⟨by decide +kernel, rfl, tw_1251⟩
theorem cal_Law_law_Law_auction : CalOK j_Law_law j_Law_auction 3 := ⟨mok_Law_auction, by decide, by decide, tw_60, ⟨by decide, by decide⟩, by decide +kernel⟩
theorem mok_Law_bestChance : MOK j_Law_bestChance := ⟨by decide +kernel, rfl, tw_1243⟩
theorem cal_Law_law_Law_bestChance : CalOK j_Law_law j_Law_bestChance 3 := ⟨mok_Law_bestChance, by decide, by decide, tw_60, ⟨by decide, by decide⟩, by decide +kernel⟩
theorem mok_Law_bid : MOK j_Law_bid := ⟨by decide +kernel, rfl, tw_1170⟩
theorem cal_Law_law_Law_bid : CalOK j_Law_law j_Law_bid 5 := ⟨mok_Law_bid, by decide, by decide, tw_60, ⟨by decide, by decide⟩, by decide +kernel⟩
theorem mok_Law_delivered : MOK j_Law_delivered := ⟨by decide +kernel, rfl, tw_1211⟩
theorem cal_Law_law_Law_delivered : CalOK j_Law_law j_Law_delivered 4 := ⟨mok_Law_delivered, by decide, by decide, tw_60, ⟨by decide, by decide⟩, by decide +kernel⟩
theorem mok_Law_exchange : MOK j_Law_exchange := ⟨by decide +kernel, rfl, tw_1145⟩
theorem cal_Law_law_Law_exchange : CalOK j_Law_law j_Law_exchange 3 := ⟨mok_Law_exchange, by decide, by decide, tw_60, ⟨by decide, by decide⟩, by decide +kernel⟩
theorem mok_Law_hears : MOK j_Law_hears := ⟨by decide +kernel, rfl, tw_1187⟩
theorem cal_Law_law_Law_hears : CalOK j_Law_law j_Law_hears 4 := ⟨mok_Law_hears, by decide, by decide, tw_60, ⟨by decide, by decide⟩, by decide +kernel⟩
theorem mok_Law_inQueue : MOK j_Law_inQueue := ⟨by decide +kernel, rfl, tw_1199⟩
theorem cal_Law_law_Law_inQueue : CalOK j_Law_law j_Law_inQueue 5 := ⟨mok_Law_inQueue, by decide, by decide, tw_60, ⟨by decide, by decide⟩, by decide +kernel⟩
theorem mok_Law_move : MOK j_Law_move := ⟨by decide +kernel, rfl, tw_1017⟩
theorem cal_Law_law_Law_move : CalOK j_Law_law j_Law_move 5 := ⟨mok_Law_move, by decide, by decide, tw_60, ⟨by decide, by decide⟩, by decide +kernel⟩
theorem mok_Law_node : MOK j_Law_node := ⟨by decide +kernel, rfl, tw_969⟩
theorem cal_Law_law_Law_node : CalOK j_Law_law j_Law_node 6 := ⟨mok_Law_node, by decide, by decide, tw_60, ⟨by decide, by decide⟩, by decide +kernel⟩
theorem mok_Law_ofNode : MOK j_Law_ofNode := ⟨by decide +kernel, rfl, tw_1195⟩
theorem cal_Law_law_Law_ofNode : CalOK j_Law_law j_Law_ofNode 4 := ⟨mok_Law_ofNode, by decide, by decide, tw_60, ⟨by decide, by decide⟩, by decide +kernel⟩
theorem mok_Law_pass : MOK j_Law_pass := ⟨by decide +kernel, rfl, tw_1058⟩
theorem cal_Law_law_Law_pass : CalOK j_Law_law j_Law_pass 3 := ⟨mok_Law_pass, by decide, by decide, tw_60, ⟨by decide, by decide⟩, by decide +kernel⟩
theorem mok_Law_route : MOK j_Law_route := ⟨by decide +kernel, rfl, tw_1203⟩
theorem cal_Law_law_Law_route : CalOK j_Law_law j_Law_route 5 := ⟨mok_Law_route, by decide, by decide, tw_60, ⟨by decide, by decide⟩, by decide +kernel⟩
theorem mok_Law_send : MOK j_Law_send := ⟨by decide +kernel, rfl, tw_1045⟩
theorem cal_Law_law_Law_send : CalOK j_Law_law j_Law_send 5 := ⟨mok_Law_send, by decide, by decide, tw_60, ⟨by decide, by decide⟩, by decide +kernel⟩
theorem mok_Law_throughput : MOK j_Law_throughput := ⟨by decide +kernel, rfl, tw_1231⟩
theorem cal_Law_law_Law_throughput : CalOK j_Law_law j_Law_throughput 4 := ⟨mok_Law_throughput, by decide, by decide, tw_60, ⟨by decide, by decide⟩, by decide +kernel⟩
theorem mok_Law_tune : MOK j_Law_tune := ⟨by decide +kernel, rfl, tw_1036⟩
theorem cal_Law_law_Law_tune : CalOK j_Law_law j_Law_tune 5 := ⟨mok_Law_tune, by decide, by decide, tw_60, ⟨by decide, by decide⟩, by decide +kernel⟩
theorem mok_Law_would : MOK j_Law_would := ⟨by decide +kernel, rfl, tw_1220⟩
theorem cal_Law_law_Law_would : CalOK j_Law_law j_Law_would 4 := ⟨mok_Law_would, by decide, by decide, tw_60, ⟨by decide, by decide⟩, by decide +kernel⟩
theorem mok_Mdl_air : MOK j_Mdl_air := ⟨by decide +kernel, rfl, tw_1724⟩
theorem cal_Law_law_Mdl_air : CalOK j_Law_law j_Mdl_air 1 := ⟨mok_Mdl_air, by decide, by decide, tw_70, ⟨by decide, by decide⟩, by decide +kernel⟩
theorem mok_Mdl_auction : MOK j_Mdl_auction := ⟨by decide +kernel, rfl, tw_1772⟩
theorem cal_Law_law_Mdl_auction : CalOK j_Law_law j_Mdl_auction 1 := ⟨mok_Mdl_auction, by decide, by decide, tw_70, ⟨by decide, by decide⟩, by decide +kernel⟩
theorem mok_Mdl_bestChance : MOK j_Mdl_bestChance := ⟨by decide +kernel, rfl, tw_1768⟩
theorem cal_Law_law_Mdl_bestChance : CalOK j_Law_law j_Mdl_bestChance 1 := ⟨mok_Mdl_bestChance, by decide, by decide, tw_70, ⟨by decide, by decide⟩, by decide +kernel⟩
theorem mok_Mdl_bid : MOK j_Mdl_bid := ⟨by decide +kernel, rfl, tw_1650⟩
theorem cal_Law_law_Mdl_bid : CalOK j_Law_law j_Mdl_bid 3 := ⟨mok_Mdl_bid, by decide, by decide, tw_70, ⟨by decide, by decide⟩, by decide +kernel⟩
theorem mok_Mdl_cover : MOK j_Mdl_cover := ⟨by decide +kernel, rfl, tw_1776⟩
theorem cal_Law_law_Mdl_cover : CalOK j_Law_law j_Mdl_cover 0 := ⟨mok_Mdl_cover, by decide, by decide, tw_70, ⟨by decide, by decide⟩, by decide +kernel⟩
theorem mok_Mdl_delivered : MOK j_Mdl_delivered := ⟨by decide +kernel, rfl, tw_1736⟩
theorem cal_Law_law_Mdl_delivered : CalOK j_Law_law j_Mdl_delivered 2 := ⟨mok_Mdl_delivered, by decide, by decide, tw_70, ⟨by decide, by decide⟩, by decide +kernel⟩
theorem mok_Mdl_digest : MOK j_Mdl_digest := ⟨by decide +kernel, rfl, tw_1796⟩
theorem cal_Law_law_Mdl_digest : CalOK j_Law_law j_Mdl_digest 0 := ⟨mok_Mdl_digest, by decide, by decide, tw_70, ⟨by decide, by decide⟩, by decide +kernel⟩
theorem mok_Mdl_exchange : MOK j_Mdl_exchange := ⟨by decide +kernel, rfl, tw_1634⟩
theorem cal_Law_law_Mdl_exchange : CalOK j_Law_law j_Mdl_exchange 1 := ⟨mok_Mdl_exchange, by decide, by decide, tw_70, ⟨by decide, by decide⟩, by decide +kernel⟩
theorem mok_Mdl_fairness : MOK j_Mdl_fairness := ⟨by decide +kernel, rfl, tw_1740⟩
theorem cal_Law_law_Mdl_fairness : CalOK j_Law_law j_Mdl_fairness 0 := ⟨mok_Mdl_fairness, by decide, by decide, tw_70, ⟨by decide, by decide⟩, by decide +kernel⟩
theorem mok_Mdl_hears : MOK j_Mdl_hears := ⟨by decide +kernel, rfl, tw_1686⟩
theorem cal_Law_law_Mdl_hears : CalOK j_Law_law j_Mdl_hears 2 := ⟨mok_Mdl_hears, by decide, by decide, tw_70, ⟨by decide, by decide⟩, by decide +kernel⟩
theorem mok_Mdl_inQueue : MOK j_Mdl_inQueue := ⟨by decide +kernel, rfl, tw_1703⟩
theorem cal_Law_law_Mdl_inQueue : CalOK j_Law_law j_Mdl_inQueue 3 := ⟨mok_Mdl_inQueue, by decide, by decide, tw_70, ⟨by decide, by decide⟩, by decide +kernel⟩
theorem mok_Mdl_init : MOK j_Mdl_init := ⟨by decide +kernel, rfl, tw_1257⟩
theorem cal_Law_law_Mdl_init : CalOK j_Law_law j_Mdl_init 0 := ⟨mok_Mdl_init, by decide, by decide, tw_70, ⟨by decide, by decide⟩, by decide +kernel⟩
theorem mok_Mdl_isSound : MOK j_Mdl_isSound := ⟨by decide +kernel, rfl, tw_1788⟩
theorem cal_Law_law_Mdl_isSound : CalOK j_Law_law j_Mdl_isSound 0 := ⟨mok_Mdl_isSound, by decide, by decide, tw_70, ⟨by decide, by decide⟩, by decide +kernel⟩
theorem mok_Mdl_knock : MOK j_Mdl_knock := ⟨by decide +kernel, rfl, tw_1682⟩
theorem cal_Law_law_Mdl_knock : CalOK j_Law_law j_Mdl_knock 0 := ⟨mok_Mdl_knock, by decide, by decide, tw_70, ⟨by decide, by decide⟩, by decide +kernel⟩
theorem mok_Mdl_move : MOK j_Mdl_move := ⟨by decide +kernel, rfl, tw_1474⟩
theorem cal_Law_law_Mdl_move : CalOK j_Law_law j_Mdl_move 3 := ⟨mok_Mdl_move, by decide, by decide, tw_70, ⟨by decide, by decide⟩, by decide +kernel⟩
theorem mok_Mdl_node : MOK j_Mdl_node := ⟨by decide +kernel, rfl, tw_1332⟩
theorem cal_Law_law_Mdl_node : CalOK j_Law_law j_Mdl_node 4 := ⟨mok_Mdl_node, by decide, by decide, tw_70, ⟨by decide, by decide⟩, by decide +kernel⟩
theorem mok_Mdl_ofNode : MOK j_Mdl_ofNode := ⟨by decide +kernel, rfl, tw_1690⟩
theorem cal_Law_law_Mdl_ofNode : CalOK j_Law_law j_Mdl_ofNode 2 := ⟨mok_Mdl_ofNode, by decide, by decide, tw_70, ⟨by decide, by decide⟩, by decide +kernel⟩
theorem mok_Mdl_pass : MOK j_Mdl_pass := ⟨by decide +kernel, rfl, tw_1526⟩
theorem cal_Law_law_Mdl_pass : CalOK j_Law_law j_Mdl_pass 1 := ⟨mok_Mdl_pass, by decide, by decide, tw_70, ⟨by decide, by decide⟩, by decide +kernel⟩
theorem mok_Mdl_route : MOK j_Mdl_route := ⟨by decide +kernel, rfl, tw_1711⟩
theorem cal_Law_law_Mdl_route : CalOK j_Law_law j_Mdl_route 3 := ⟨mok_Mdl_route, by decide, by decide, tw_70, ⟨by decide, by decide⟩, by decide +kernel⟩
theorem mok_Mdl_row : MOK j_Mdl_row := ⟨by decide +kernel, rfl, tw_1748⟩
theorem cal_Law_law_Mdl_row : CalOK j_Law_law j_Mdl_row 0 := ⟨mok_Mdl_row, by decide, by decide, tw_70, ⟨by decide, by decide⟩, by decide +kernel⟩
theorem mok_Mdl_sell : MOK j_Mdl_sell := ⟨by decide +kernel, rfl, tw_1654⟩
theorem cal_Law_law_Mdl_sell : CalOK j_Law_law j_Mdl_sell 0 := ⟨mok_Mdl_sell, by decide, by decide, tw_70, ⟨by decide, by decide⟩, by decide +kernel⟩
theorem mok_Mdl_send : MOK j_Mdl_send := ⟨by decide +kernel, rfl, tw_1522⟩
theorem cal_Law_law_Mdl_send : CalOK j_Law_law j_Mdl_send 3 := ⟨mok_Mdl_send, by decide, by decide, tw_70, ⟨by decide, by decide⟩, by decide +kernel⟩
theorem mok_Mdl_throughput : MOK j_Mdl_throughput := ⟨by decide +kernel, rfl, tw_1760⟩
theorem cal_Law_law_Mdl_throughput : CalOK j_Law_law j_Mdl_throughput 2 := ⟨mok_Mdl_throughput, by decide, by decide, tw_70, ⟨by decide, by decide⟩, by decide +kernel⟩
theorem mok_Mdl_thrown : MOK j_Mdl_thrown := ⟨by decide +kernel, rfl, tw_1328⟩
theorem cal_Law_law_Mdl_thrown : CalOK j_Law_law j_Mdl_thrown 0 := ⟨mok_Mdl_thrown, by decide, by decide, tw_70, ⟨by decide, by decide⟩, by decide +kernel⟩
theorem mok_Mdl_tune : MOK j_Mdl_tune := ⟨by decide +kernel, rfl, tw_1518⟩
theorem cal_Law_law_Mdl_tune : CalOK j_Law_law j_Mdl_tune 3 := ⟨mok_Mdl_tune, by decide, by decide, tw_70, ⟨by decide, by decide⟩, by decide +kernel⟩
theorem mok_Mdl_would : MOK j_Mdl_would := ⟨by decide +kernel, rfl, tw_1756⟩
theorem cal_Law_law_Mdl_would : CalOK j_Law_law j_Mdl_would 2 := ⟨mok_Mdl_would, by decide, by decide, tw_70, ⟨by decide, by decide⟩, by decide +kernel⟩
theorem mok_Out_init : MOK j_Out_init := ⟨by decide +kernel, rfl, tw_958⟩
theorem cal_Law_law_Out_init : CalOK j_Law_law j_Out_init 0 := ⟨mok_Out_init, by decide, by decide, tw_74, ⟨by decide, by decide⟩, by decide +kernel⟩
theorem mok_S_cover : MOK j_S_cover := ⟨by decide +kernel, rfl, tw_769⟩
theorem cal_Law_law_S_cover : CalOK j_Law_law j_S_cover 0 := ⟨mok_S_cover, by decide, by decide, tw_61, ⟨by decide, by decide⟩, by decide +kernel⟩
theorem mok_S_digest : MOK j_S_digest := ⟨by decide +kernel, rfl, tw_827⟩
theorem cal_Law_law_S_digest : CalOK j_Law_law j_S_digest 0 := ⟨mok_S_digest, by decide, by decide, tw_61, ⟨by decide, by decide⟩, by decide +kernel⟩
theorem mok_S_fairness : MOK j_S_fairness := ⟨by decide +kernel, rfl, tw_424⟩
theorem cal_Law_law_S_fairness : CalOK j_Law_law j_S_fairness 0 := ⟨mok_S_fairness, by decide, by decide, tw_61, ⟨by decide, by decide⟩, by decide +kernel⟩
theorem mok_S_init : MOK j_S_init := ⟨by decide +kernel, rfl, tw_101⟩
theorem cal_Law_law_S_init : CalOK j_Law_law j_S_init 0 := ⟨mok_S_init, by decide, by decide, tw_61, ⟨by decide, by decide⟩, by decide +kernel⟩
theorem mok_S_isSound : MOK j_S_isSound := ⟨by decide +kernel, rfl, tw_792⟩
theorem cal_Law_law_S_isSound : CalOK j_Law_law j_S_isSound 0 := ⟨mok_S_isSound, by decide, by decide, tw_61, ⟨by decide, by decide⟩, by decide +kernel⟩
theorem mok_S_knock : MOK j_S_knock := ⟨by decide +kernel, rfl, tw_420⟩
theorem cal_Law_law_S_knock : CalOK j_Law_law j_S_knock 0 := ⟨mok_S_knock, by decide, by decide, tw_61, ⟨by decide, by decide⟩, by decide +kernel⟩
theorem mok_S_row : MOK j_S_row := ⟨by decide +kernel, rfl, tw_428⟩
theorem cal_Law_law_S_row : CalOK j_Law_law j_S_row 0 := ⟨mok_S_row, by decide, by decide, tw_61, ⟨by decide, by decide⟩, by decide +kernel⟩
theorem mok_S_sell : MOK j_S_sell := ⟨by decide +kernel, rfl, tw_397⟩
theorem cal_Law_law_S_sell : CalOK j_Law_law j_S_sell 0 := ⟨mok_S_sell, by decide, by decide, tw_61, ⟨by decide, by decide⟩, by decide +kernel⟩
theorem mok_S_move : MOK j_S_move := ⟨by decide +kernel, rfl, tw_1022⟩
theorem cal_Law_move_S_move : CalOK j_Law_move j_S_move 3 := ⟨mok_S_move, by decide, by decide, tw_61, ⟨by decide, by decide⟩, by decide +kernel⟩
theorem mok_S_node : MOK j_S_node := ⟨by decide +kernel, rfl, tw_975⟩
theorem cal_Law_node_S_node : CalOK j_Law_node j_S_node 4 := ⟨mok_S_node, by decide, by decide, tw_61, ⟨by decide, by decide⟩, by decide +kernel⟩
theorem mok_S_ofNode : MOK j_S_ofNode := ⟨by decide +kernel, rfl, tw_873⟩
theorem cal_Law_ofNode_S_ofNode : CalOK j_Law_ofNode j_S_ofNode 2 := ⟨mok_S_ofNode, by decide, by decide, tw_61, ⟨by decide, by decide⟩, by decide +kernel⟩
theorem mok_S_pass : MOK j_S_pass := ⟨by decide +kernel, rfl, tw_1062⟩
theorem cal_Law_pass_S_pass : CalOK j_Law_pass j_S_pass 1 := ⟨mok_S_pass, by decide, by decide, tw_61, ⟨by decide, by decide⟩, by decide +kernel⟩
theorem mok_S_route : MOK j_S_route := ⟨by decide +kernel, rfl, tw_928⟩
theorem cal_Law_route_S_route : CalOK j_Law_route j_S_route 3 := ⟨mok_S_route, by decide, by decide, tw_61, ⟨by decide, by decide⟩, by decide +kernel⟩
theorem mok_S_send : MOK j_S_send := ⟨by decide +kernel, rfl, tw_1049⟩
theorem cal_Law_send_S_send : CalOK j_Law_send j_S_send 3 := ⟨mok_S_send, by decide, by decide, tw_61, ⟨by decide, by decide⟩, by decide +kernel⟩
theorem mok_S_throughput : MOK j_S_throughput := ⟨by decide +kernel, rfl, tw_1235⟩
theorem cal_Law_throughput_S_throughput : CalOK j_Law_throughput j_S_throughput 2 := ⟨mok_S_throughput, by decide, by decide, tw_61, ⟨by decide, by decide⟩, by decide +kernel⟩
theorem mok_S_tune : MOK j_S_tune := ⟨by decide +kernel, rfl, tw_1040⟩
theorem cal_Law_tune_S_tune : CalOK j_Law_tune j_S_tune 3 := ⟨mok_S_tune, by decide, by decide, tw_61, ⟨by decide, by decide⟩, by decide +kernel⟩
theorem mok_S_would : MOK j_S_would := ⟨by decide +kernel, rfl, tw_1224⟩
theorem cal_Law_would_S_would : CalOK j_Law_would j_S_would 2 := ⟨mok_S_would, by decide, by decide, tw_61, ⟨by decide, by decide⟩, by decide +kernel⟩
theorem mok_ArrayList_init : MOK j_ArrayList_init := ⟨by decide +kernel, rfl, tw_1263⟩
theorem cal_MNode_init_ArrayList_init : CalOK j_MNode_init j_ArrayList_init 0 := ⟨mok_ArrayList_init, by decide, by decide, tw_73, ⟨by decide, by decide⟩, by decide +kernel⟩
theorem mok_Market_weigh : MOK j_Market_weigh := ⟨by decide +kernel, rfl, tw_1184⟩
theorem cal_Market_add_Market_weigh : CalOK j_Market_add j_Market_weigh 1 := ⟨mok_Market_weigh, by decide, by decide, tw_69, ⟨by decide, by decide⟩, by decide +kernel⟩
theorem mok_Market_paidBy : MOK j_Market_paidBy := ⟨by decide +kernel, rfl, tw_405⟩
theorem cal_Market_nobodyOverpays_Market_paidBy : CalOK j_Market_nobodyOverpays j_Market_paidBy 1 := ⟨mok_Market_paidBy, by decide, by decide, tw_69, ⟨by decide, by decide⟩, by decide +kernel⟩
theorem mok_Market_winningPrice : MOK j_Market_winningPrice := ⟨by decide +kernel, rfl, tw_409⟩
theorem cal_Market_nobodyOverpays_Market_winningPrice : CalOK j_Market_nobodyOverpays j_Market_winningPrice 1 := ⟨mok_Market_winningPrice, by decide, by decide, tw_69, ⟨by decide, by decide⟩, by decide +kernel⟩
theorem cal_Market_paidBy_Market_winningPrice : CalOK j_Market_paidBy j_Market_winningPrice 1 := ⟨mok_Market_winningPrice, by decide, by decide, tw_69, ⟨by decide, by decide⟩, by decide +kernel⟩
theorem mok_Market_forgetBids : MOK j_Market_forgetBids := ⟨by decide +kernel, rfl, tw_416⟩
theorem cal_Market_sellAll_Market_forgetBids : CalOK j_Market_sellAll j_Market_forgetBids 0 := ⟨mok_Market_forgetBids, by decide, by decide, tw_69, ⟨by decide, by decide⟩, by decide +kernel⟩
theorem cal_Market_sellAll_Market_paidBy : CalOK j_Market_sellAll j_Market_paidBy 1 := ⟨mok_Market_paidBy, by decide, by decide, tw_69, ⟨by decide, by decide⟩, by decide +kernel⟩
theorem cal_Market_weigh_S_isIn : CalOK j_Market_weigh j_S_isIn 2 := ⟨mok_S_isIn, by decide, by decide, tw_61, ⟨by decide, by decide⟩, by decide +kernel⟩
theorem cal_Market_winningPrice_S_isIn : CalOK j_Market_winningPrice j_S_isIn 2 := ⟨mok_S_isIn, by decide, by decide, tw_61, ⟨by decide, by decide⟩, by decide +kernel⟩
theorem mok_Mdl_airTold : MOK j_Mdl_airTold := ⟨by decide +kernel, rfl, tw_1728⟩
theorem cal_Mdl_air_Mdl_airTold : CalOK j_Mdl_air j_Mdl_airTold 1 := ⟨mok_Mdl_airTold, by decide, by decide, tw_70, ⟨by decide, by decide⟩, by decide +kernel⟩
theorem mok_Mdl_isIn : MOK j_Mdl_isIn := ⟨by decide +kernel, rfl, tw_1335⟩
theorem cal_Mdl_air_Mdl_isIn : CalOK j_Mdl_air j_Mdl_isIn 3 := ⟨mok_Mdl_isIn, by decide, by decide, tw_70, ⟨by decide, by decide⟩, by decide +kernel⟩
theorem mok_Mdl_start : MOK j_Mdl_start := ⟨by decide +kernel, rfl, tw_1339⟩
theorem cal_Mdl_air_Mdl_start : CalOK j_Mdl_air j_Mdl_start 2 := ⟨mok_Mdl_start, by decide, by decide, tw_70, ⟨by decide, by decide⟩, by decide +kernel⟩
theorem mok_ArrayList_iterator : MOK j_ArrayList_iterator := ⟨by decide +kernel, rfl, tw_1583⟩
theorem cal_Mdl_airTold_ArrayList_iterator : CalOK j_Mdl_airTold j_ArrayList_iterator 0 := ⟨mok_ArrayList_iterator, by decide, by decide, tw_73, ⟨by decide, by decide⟩, by decide +kernel⟩
theorem mok_ArrayList_size : MOK j_ArrayList_size := ⟨by decide +kernel, rfl, tw_1347⟩
theorem cal_Mdl_airTold_ArrayList_size : CalOK j_Mdl_airTold j_ArrayList_size 0 := ⟨mok_ArrayList_size, by decide, by decide, tw_73, ⟨by decide, by decide⟩, by decide +kernel⟩
theorem cal_Mdl_airTold_Integer_bitCount : CalOK j_Mdl_airTold j_Integer_bitCount 1 := ⟨mok_Integer_bitCount, by decide, by decide, tw_87, ⟨by decide, by decide⟩, by decide +kernel⟩
theorem mok_Itr_hasNext : MOK j_Itr_hasNext := ⟨by decide +kernel, rfl, tw_1613⟩
theorem cal_Mdl_airTold_Itr_hasNext : CalOK j_Mdl_airTold j_Itr_hasNext 0 := ⟨mok_Itr_hasNext, by decide, by decide, tw_90, ⟨by decide, by decide⟩, by decide +kernel⟩
theorem mok_Itr_next : MOK j_Itr_next := ⟨by decide +kernel, rfl, tw_1622⟩
theorem cal_Mdl_airTold_Itr_next : CalOK j_Mdl_airTold j_Itr_next 0 := ⟨mok_Itr_next, by decide, by decide, tw_90, ⟨by decide, by decide⟩, by decide +kernel⟩
theorem mok_Mdl_circles : MOK j_Mdl_circles := ⟨by decide +kernel, rfl, tw_1732⟩
theorem cal_Mdl_airTold_Mdl_circles : CalOK j_Mdl_airTold j_Mdl_circles 0 := ⟨mok_Mdl_circles, by decide, by decide, tw_70, ⟨by decide, by decide⟩, by decide +kernel⟩
theorem mok_Mdl_senders : MOK j_Mdl_senders := ⟨by decide +kernel, rfl, tw_1560⟩
theorem cal_Mdl_airTold_Mdl_senders : CalOK j_Mdl_airTold j_Mdl_senders 0 := ⟨mok_Mdl_senders, by decide, by decide, tw_70, ⟨by decide, by decide⟩, by decide +kernel⟩
theorem mok_Mdl_hearsIt : MOK j_Mdl_hearsIt := ⟨by decide +kernel, rfl, tw_1506⟩
theorem cal_Mdl_areLinked_Mdl_hearsIt : CalOK j_Mdl_areLinked j_Mdl_hearsIt 2 := ⟨mok_Mdl_hearsIt, by decide, by decide, tw_70, ⟨by decide, by decide⟩, by decide +kernel⟩
theorem mok_Mdl_auctionNow : MOK j_Mdl_auctionNow := ⟨by decide +kernel, rfl, tw_1658⟩
theorem cal_Mdl_auction_Mdl_auctionNow : CalOK j_Mdl_auction j_Mdl_auctionNow 0 := ⟨mok_Mdl_auctionNow, by decide, by decide, tw_70, ⟨by decide, by decide⟩, by decide +kernel⟩
theorem cal_Mdl_auction_Mdl_isIn : CalOK j_Mdl_auction j_Mdl_isIn 3 := ⟨mok_Mdl_isIn, by decide, by decide, tw_70, ⟨by decide, by decide⟩, by decide +kernel⟩
theorem cal_Mdl_auction_Mdl_start : CalOK j_Mdl_auction j_Mdl_start 2 := ⟨mok_Mdl_start, by decide, by decide, tw_70, ⟨by decide, by decide⟩, by decide +kernel⟩
theorem mok_Mdl_pays : MOK j_Mdl_pays := ⟨by decide +kernel, rfl, tw_1674⟩
theorem cal_Mdl_auctionNow_Mdl_pays : CalOK j_Mdl_auctionNow j_Mdl_pays 2 := ⟨mok_Mdl_pays, by decide, by decide, tw_70, ⟨by decide, by decide⟩, by decide +kernel⟩
theorem mok_Mdl_priceOf : MOK j_Mdl_priceOf := ⟨by decide +kernel, rfl, tw_1670⟩
theorem cal_Mdl_auctionNow_Mdl_priceOf : CalOK j_Mdl_auctionNow j_Mdl_priceOf 2 := ⟨mok_Mdl_priceOf, by decide, by decide, tw_70, ⟨by decide, by decide⟩, by decide +kernel⟩
theorem mok_Mdl_winners : MOK j_Mdl_winners := ⟨by decide +kernel, rfl, tw_1662⟩
theorem cal_Mdl_auctionNow_Mdl_winners : CalOK j_Mdl_auctionNow j_Mdl_winners 1 := ⟨mok_Mdl_winners, by decide, by decide, tw_70, ⟨by decide, by decide⟩, by decide +kernel⟩
theorem mok_ArrayList_get : MOK j_ArrayList_get := ⟨by decide +kernel, rfl, tw_1482⟩
theorem cal_Mdl_begin_ArrayList_get : CalOK j_Mdl_begin j_ArrayList_get 1 := ⟨mok_ArrayList_get, by decide, by decide, tw_73, ⟨by decide, by decide⟩, by decide +kernel⟩
theorem mok_Mdl_drop : MOK j_Mdl_drop := ⟨by decide +kernel, rfl, tw_1547⟩
theorem cal_Mdl_begin_Mdl_drop : CalOK j_Mdl_begin j_Mdl_drop 1 := ⟨mok_Mdl_drop, by decide, by decide, tw_70, ⟨by decide, by decide⟩, by decide +kernel⟩
theorem cal_Mdl_bestChance_Mdl_isIn : CalOK j_Mdl_bestChance j_Mdl_isIn 3 := ⟨mok_Mdl_isIn, by decide, by decide, tw_70, ⟨by decide, by decide⟩, by decide +kernel⟩
theorem cal_Mdl_bestChance_Mdl_start : CalOK j_Mdl_bestChance j_Mdl_start 2 := ⟨mok_Mdl_start, by decide, by decide, tw_70, ⟨by decide, by decide⟩, by decide +kernel⟩
theorem mok_Mdl_throughputOf : MOK j_Mdl_throughputOf := ⟨by decide +kernel, rfl, tw_1763⟩
theorem cal_Mdl_bestChance_Mdl_throughputOf : CalOK j_Mdl_bestChance j_Mdl_throughputOf 2 := ⟨mok_Mdl_throughputOf, by decide, by decide, tw_70, ⟨by decide, by decide⟩, by decide +kernel⟩
theorem mok_ArrayList_add_LjavalangObjectZ : MOK j_ArrayList_add_LjavalangObjectZ := ⟨by decide +kernel, rfl, tw_1423⟩
theorem cal_Mdl_bid_ArrayList_add_LjavalangObjectZ : CalOK j_Mdl_bid j_ArrayList_add_LjavalangObjectZ 1 := ⟨mok_ArrayList_add_LjavalangObjectZ, by decide, by decide, tw_73, ⟨by decide, by decide⟩, by decide +kernel⟩
theorem cal_Mdl_bid_ArrayList_size : CalOK j_Mdl_bid j_ArrayList_size 0 := ⟨mok_ArrayList_size, by decide, by decide, tw_73, ⟨by decide, by decide⟩, by decide +kernel⟩
theorem cal_Mdl_bid_Mdl_isIn : CalOK j_Mdl_bid j_Mdl_isIn 3 := ⟨mok_Mdl_isIn, by decide, by decide, tw_70, ⟨by decide, by decide⟩, by decide +kernel⟩
theorem mok_Mdl_refuse : MOK j_Mdl_refuse := ⟨by decide +kernel, rfl, tw_1343⟩
theorem cal_Mdl_bid_Mdl_refuse : CalOK j_Mdl_bid j_Mdl_refuse 2 := ⟨mok_Mdl_refuse, by decide, by decide, tw_70, ⟨by decide, by decide⟩, by decide +kernel⟩
theorem cal_Mdl_bid_Mdl_start : CalOK j_Mdl_bid j_Mdl_start 2 := ⟨mok_Mdl_start, by decide, by decide, tw_70, ⟨by decide, by decide⟩, by decide +kernel⟩
theorem cal_Mdl_canWin_ArrayList_get : CalOK j_Mdl_canWin j_ArrayList_get 1 := ⟨mok_ArrayList_get, by decide, by decide, tw_73, ⟨by decide, by decide⟩, by decide +kernel⟩
theorem cal_Mdl_canWin_ArrayList_size : CalOK j_Mdl_canWin j_ArrayList_size 0 := ⟨mok_ArrayList_size, by decide, by decide, tw_73, ⟨by decide, by decide⟩, by decide +kernel⟩
theorem mok_Mdl_has : MOK j_Mdl_has := ⟨by decide +kernel, rfl, tw_1563⟩
theorem cal_Mdl_canWin_Mdl_has : CalOK j_Mdl_canWin j_Mdl_has 2 := ⟨mok_Mdl_has, by decide, by decide, tw_70, ⟨by decide, by decide⟩, by decide +kernel⟩
theorem cal_Mdl_circles_ArrayList_size : CalOK j_Mdl_circles j_ArrayList_size 0 := ⟨mok_ArrayList_size, by decide, by decide, tw_73, ⟨by decide, by decide⟩, by decide +kernel⟩
theorem mok_Mdl_one : MOK j_Mdl_one := ⟨by decide +kernel, rfl, tw_1513⟩
theorem cal_Mdl_circles_Mdl_one : CalOK j_Mdl_circles j_Mdl_one 1 := ⟨mok_Mdl_one, by decide, by decide, tw_70, ⟨by decide, by decide⟩, by decide +kernel⟩
theorem mok_Mdl_way : MOK j_Mdl_way := ⟨by decide +kernel, rfl, tw_1719⟩
theorem cal_Mdl_circles_Mdl_way : CalOK j_Mdl_circles j_Mdl_way 2 := ⟨mok_Mdl_way, by decide, by decide, tw_70, ⟨by decide, by decide⟩, by decide +kernel⟩
theorem mok_Mdl_coverNow : MOK j_Mdl_coverNow := ⟨by decide +kernel, rfl, tw_1780⟩
theorem cal_Mdl_cover_Mdl_coverNow : CalOK j_Mdl_cover j_Mdl_coverNow 0 := ⟨mok_Mdl_coverNow, by decide, by decide, tw_70, ⟨by decide, by decide⟩, by decide +kernel⟩
theorem cal_Mdl_coverNow_ArrayList_size : CalOK j_Mdl_coverNow j_ArrayList_size 0 := ⟨mok_ArrayList_size, by decide, by decide, tw_73, ⟨by decide, by decide⟩, by decide +kernel⟩
theorem cal_Mdl_coverNow_Integer_bitCount : CalOK j_Mdl_coverNow j_Integer_bitCount 1 := ⟨mok_Integer_bitCount, by decide, by decide, tw_87, ⟨by decide, by decide⟩, by decide +kernel⟩
theorem mok_Mdl_isCover : MOK j_Mdl_isCover := ⟨by decide +kernel, rfl, tw_1784⟩
theorem cal_Mdl_coverNow_Mdl_isCover : CalOK j_Mdl_coverNow j_Mdl_isCover 1 := ⟨mok_Mdl_isCover, by decide, by decide, tw_70, ⟨by decide, by decide⟩, by decide +kernel⟩
theorem cal_Mdl_delivered_ArrayList_get : CalOK j_Mdl_delivered j_ArrayList_get 1 := ⟨mok_ArrayList_get, by decide, by decide, tw_73, ⟨by decide, by decide⟩, by decide +kernel⟩
theorem mok_Mdl_hasArrived : MOK j_Mdl_hasArrived := ⟨by decide +kernel, rfl, tw_1579⟩
theorem cal_Mdl_delivered_Mdl_hasArrived : CalOK j_Mdl_delivered j_Mdl_hasArrived 2 := ⟨mok_Mdl_hasArrived, by decide, by decide, tw_70, ⟨by decide, by decide⟩, by decide +kernel⟩
theorem cal_Mdl_delivered_Mdl_isIn : CalOK j_Mdl_delivered j_Mdl_isIn 3 := ⟨mok_Mdl_isIn, by decide, by decide, tw_70, ⟨by decide, by decide⟩, by decide +kernel⟩
theorem mok_Mdl_isNobody : MOK j_Mdl_isNobody := ⟨by decide +kernel, rfl, tw_1478⟩
theorem cal_Mdl_delivered_Mdl_isNobody : CalOK j_Mdl_delivered j_Mdl_isNobody 1 := ⟨mok_Mdl_isNobody, by decide, by decide, tw_70, ⟨by decide, by decide⟩, by decide +kernel⟩
theorem cal_Mdl_delivered_Mdl_start : CalOK j_Mdl_delivered j_Mdl_start 2 := ⟨mok_Mdl_start, by decide, by decide, tw_70, ⟨by decide, by decide⟩, by decide +kernel⟩
theorem cal_Mdl_digest_ArrayList_size : CalOK j_Mdl_digest j_ArrayList_size 0 := ⟨mok_ArrayList_size, by decide, by decide, tw_73, ⟨by decide, by decide⟩, by decide +kernel⟩
theorem mok_Mdl_add : MOK j_Mdl_add := ⟨by decide +kernel, rfl, tw_1800⟩
theorem cal_Mdl_digest_Mdl_add : CalOK j_Mdl_digest j_Mdl_add 2 := ⟨mok_Mdl_add, by decide, by decide, tw_70, ⟨by decide, by decide⟩, by decide +kernel⟩
theorem cal_Mdl_digest_Mdl_airTold : CalOK j_Mdl_digest j_Mdl_airTold 1 := ⟨mok_Mdl_airTold, by decide, by decide, tw_70, ⟨by decide, by decide⟩, by decide +kernel⟩
theorem cal_Mdl_digest_Mdl_auctionNow : CalOK j_Mdl_digest j_Mdl_auctionNow 0 := ⟨mok_Mdl_auctionNow, by decide, by decide, tw_70, ⟨by decide, by decide⟩, by decide +kernel⟩
theorem cal_Mdl_digest_Mdl_coverNow : CalOK j_Mdl_digest j_Mdl_coverNow 0 := ⟨mok_Mdl_coverNow, by decide, by decide, tw_70, ⟨by decide, by decide⟩, by decide +kernel⟩
theorem mok_Mdl_fairnessNow : MOK j_Mdl_fairnessNow := ⟨by decide +kernel, rfl, tw_1744⟩
theorem cal_Mdl_digest_Mdl_fairnessNow : CalOK j_Mdl_digest j_Mdl_fairnessNow 0 := ⟨mok_Mdl_fairnessNow, by decide, by decide, tw_70, ⟨by decide, by decide⟩, by decide +kernel⟩
theorem mok_Mdl_isWhole : MOK j_Mdl_isWhole := ⟨by decide +kernel, rfl, tw_1792⟩
theorem cal_Mdl_digest_Mdl_isWhole : CalOK j_Mdl_digest j_Mdl_isWhole 0 := ⟨mok_Mdl_isWhole, by decide, by decide, tw_70, ⟨by decide, by decide⟩, by decide +kernel⟩
theorem mok_Mdl_nodeTold : MOK j_Mdl_nodeTold := ⟨by decide +kernel, rfl, tw_1694⟩
theorem cal_Mdl_digest_Mdl_nodeTold : CalOK j_Mdl_digest j_Mdl_nodeTold 2 := ⟨mok_Mdl_nodeTold, by decide, by decide, tw_70, ⟨by decide, by decide⟩, by decide +kernel⟩
theorem cal_Mdl_digest_Mdl_one : CalOK j_Mdl_digest j_Mdl_one 1 := ⟨mok_Mdl_one, by decide, by decide, tw_70, ⟨by decide, by decide⟩, by decide +kernel⟩
theorem mok_Mdl_queued : MOK j_Mdl_queued := ⟨by decide +kernel, rfl, tw_1707⟩
theorem cal_Mdl_digest_Mdl_queued : CalOK j_Mdl_digest j_Mdl_queued 3 := ⟨mok_Mdl_queued, by decide, by decide, tw_70, ⟨by decide, by decide⟩, by decide +kernel⟩
theorem mok_Mdl_routeTold : MOK j_Mdl_routeTold := ⟨by decide +kernel, rfl, tw_1715⟩
theorem cal_Mdl_digest_Mdl_routeTold : CalOK j_Mdl_digest j_Mdl_routeTold 3 := ⟨mok_Mdl_routeTold, by decide, by decide, tw_70, ⟨by decide, by decide⟩, by decide +kernel⟩
theorem mok_ArrayList_remove : MOK j_ArrayList_remove := ⟨by decide +kernel, rfl, tw_1551⟩
theorem cal_Mdl_drop_ArrayList_remove : CalOK j_Mdl_drop j_ArrayList_remove 1 := ⟨mok_ArrayList_remove, by decide, by decide, tw_73, ⟨by decide, by decide⟩, by decide +kernel⟩
theorem cal_Mdl_end_ArrayList_get : CalOK j_Mdl_end j_ArrayList_get 1 := ⟨mok_ArrayList_get, by decide, by decide, tw_73, ⟨by decide, by decide⟩, by decide +kernel⟩
theorem cal_Mdl_end_ArrayList_remove : CalOK j_Mdl_end j_ArrayList_remove 1 := ⟨mok_ArrayList_remove, by decide, by decide, tw_73, ⟨by decide, by decide⟩, by decide +kernel⟩
theorem mok_Mdl_draw : MOK j_Mdl_draw := ⟨by decide +kernel, rfl, tw_1630⟩
theorem cal_Mdl_end_Mdl_draw : CalOK j_Mdl_end j_Mdl_draw 1 := ⟨mok_Mdl_draw, by decide, by decide, tw_70, ⟨by decide, by decide⟩, by decide +kernel⟩
theorem cal_Mdl_end_Mdl_drop : CalOK j_Mdl_end j_Mdl_drop 1 := ⟨mok_Mdl_drop, by decide, by decide, tw_70, ⟨by decide, by decide⟩, by decide +kernel⟩
theorem cal_Mdl_end_Mdl_hearsIt : CalOK j_Mdl_end j_Mdl_hearsIt 2 := ⟨mok_Mdl_hearsIt, by decide, by decide, tw_70, ⟨by decide, by decide⟩, by decide +kernel⟩
theorem mok_Mdl_receive : MOK j_Mdl_receive := ⟨by decide +kernel, rfl, tw_1575⟩
theorem cal_Mdl_end_Mdl_receive : CalOK j_Mdl_end j_Mdl_receive 2 := ⟨mok_Mdl_receive, by decide, by decide, tw_70, ⟨by decide, by decide⟩, by decide +kernel⟩
theorem mok_Mdl_exchangeOnce : MOK j_Mdl_exchangeOnce := ⟨by decide +kernel, rfl, tw_1638⟩
theorem cal_Mdl_exchange_Mdl_exchangeOnce : CalOK j_Mdl_exchange j_Mdl_exchangeOnce 0 := ⟨mok_Mdl_exchangeOnce, by decide, by decide, tw_70, ⟨by decide, by decide⟩, by decide +kernel⟩
theorem cal_Mdl_exchange_Mdl_isIn : CalOK j_Mdl_exchange j_Mdl_isIn 3 := ⟨mok_Mdl_isIn, by decide, by decide, tw_70, ⟨by decide, by decide⟩, by decide +kernel⟩
theorem mok_Mdl_routed : MOK j_Mdl_routed := ⟨by decide +kernel, rfl, tw_1646⟩
theorem cal_Mdl_exchange_Mdl_routed : CalOK j_Mdl_exchange j_Mdl_routed 0 := ⟨mok_Mdl_routed, by decide, by decide, tw_70, ⟨by decide, by decide⟩, by decide +kernel⟩
theorem cal_Mdl_exchange_Mdl_start : CalOK j_Mdl_exchange j_Mdl_start 2 := ⟨mok_Mdl_start, by decide, by decide, tw_70, ⟨by decide, by decide⟩, by decide +kernel⟩
theorem cal_Mdl_exchangeOnce_ArrayList_get : CalOK j_Mdl_exchangeOnce j_ArrayList_get 1 := ⟨mok_ArrayList_get, by decide, by decide, tw_73, ⟨by decide, by decide⟩, by decide +kernel⟩
theorem cal_Mdl_exchangeOnce_ArrayList_size : CalOK j_Mdl_exchangeOnce j_ArrayList_size 0 := ⟨mok_ArrayList_size, by decide, by decide, tw_73, ⟨by decide, by decide⟩, by decide +kernel⟩
theorem mok_Mdl_areLinked : MOK j_Mdl_areLinked := ⟨by decide +kernel, rfl, tw_1502⟩
theorem cal_Mdl_exchangeOnce_Mdl_areLinked : CalOK j_Mdl_exchangeOnce j_Mdl_areLinked 2 := ⟨mok_Mdl_areLinked, by decide, by decide, tw_70, ⟨by decide, by decide⟩, by decide +kernel⟩
theorem cal_Mdl_fairness_Mdl_fairnessNow : CalOK j_Mdl_fairness j_Mdl_fairnessNow 0 := ⟨mok_Mdl_fairnessNow, by decide, by decide, tw_70, ⟨by decide, by decide⟩, by decide +kernel⟩
theorem cal_Mdl_fairnessNow_ArrayList_iterator : CalOK j_Mdl_fairnessNow j_ArrayList_iterator 0 := ⟨mok_ArrayList_iterator, by decide, by decide, tw_73, ⟨by decide, by decide⟩, by decide +kernel⟩
theorem cal_Mdl_fairnessNow_ArrayList_size : CalOK j_Mdl_fairnessNow j_ArrayList_size 0 := ⟨mok_ArrayList_size, by decide, by decide, tw_73, ⟨by decide, by decide⟩, by decide +kernel⟩
theorem cal_Mdl_fairnessNow_Itr_hasNext : CalOK j_Mdl_fairnessNow j_Itr_hasNext 0 := ⟨mok_Itr_hasNext, by decide, by decide, tw_90, ⟨by decide, by decide⟩, by decide +kernel⟩
theorem cal_Mdl_fairnessNow_Itr_next : CalOK j_Mdl_fairnessNow j_Itr_next 0 := ⟨mok_Itr_next, by decide, by decide, tw_90, ⟨by decide, by decide⟩, by decide +kernel⟩
theorem cal_Mdl_far_ArrayList_get : CalOK j_Mdl_far j_ArrayList_get 1 := ⟨mok_ArrayList_get, by decide, by decide, tw_73, ⟨by decide, by decide⟩, by decide +kernel⟩
theorem cal_Mdl_gets_ArrayList_size : CalOK j_Mdl_gets j_ArrayList_size 0 := ⟨mok_ArrayList_size, by decide, by decide, tw_73, ⟨by decide, by decide⟩, by decide +kernel⟩
theorem mok_Mdl_far : MOK j_Mdl_far := ⟨by decide +kernel, rfl, tw_1510⟩
theorem cal_Mdl_gets_Mdl_far : CalOK j_Mdl_gets j_Mdl_far 2 := ⟨mok_Mdl_far, by decide, by decide, tw_70, ⟨by decide, by decide⟩, by decide +kernel⟩
theorem cal_Mdl_gets_Mdl_has : CalOK j_Mdl_gets j_Mdl_has 2 := ⟨mok_Mdl_has, by decide, by decide, tw_70, ⟨by decide, by decide⟩, by decide +kernel⟩
theorem cal_Mdl_gets_Mdl_hearsIt : CalOK j_Mdl_gets j_Mdl_hearsIt 2 := ⟨mok_Mdl_hearsIt, by decide, by decide, tw_70, ⟨by decide, by decide⟩, by decide +kernel⟩
theorem cal_Mdl_hasArrived_ArrayList_iterator : CalOK j_Mdl_hasArrived j_ArrayList_iterator 0 := ⟨mok_ArrayList_iterator, by decide, by decide, tw_73, ⟨by decide, by decide⟩, by decide +kernel⟩
theorem cal_Mdl_hasArrived_Itr_hasNext : CalOK j_Mdl_hasArrived j_Itr_hasNext 0 := ⟨mok_Itr_hasNext, by decide, by decide, tw_90, ⟨by decide, by decide⟩, by decide +kernel⟩
theorem cal_Mdl_hasArrived_Itr_next : CalOK j_Mdl_hasArrived j_Itr_next 0 := ⟨mok_Itr_next, by decide, by decide, tw_90, ⟨by decide, by decide⟩, by decide +kernel⟩
theorem cal_Mdl_hears_Mdl_hearsIt : CalOK j_Mdl_hears j_Mdl_hearsIt 2 := ⟨mok_Mdl_hearsIt, by decide, by decide, tw_70, ⟨by decide, by decide⟩, by decide +kernel⟩
theorem cal_Mdl_hears_Mdl_isNobody : CalOK j_Mdl_hears j_Mdl_isNobody 1 := ⟨mok_Mdl_isNobody, by decide, by decide, tw_70, ⟨by decide, by decide⟩, by decide +kernel⟩
theorem cal_Mdl_hears_Mdl_refuse : CalOK j_Mdl_hears j_Mdl_refuse 2 := ⟨mok_Mdl_refuse, by decide, by decide, tw_70, ⟨by decide, by decide⟩, by decide +kernel⟩
theorem cal_Mdl_hears_Mdl_start : CalOK j_Mdl_hears j_Mdl_start 2 := ⟨mok_Mdl_start, by decide, by decide, tw_70, ⟨by decide, by decide⟩, by decide +kernel⟩
theorem cal_Mdl_hearsIt_ArrayList_get : CalOK j_Mdl_hearsIt j_ArrayList_get 1 := ⟨mok_ArrayList_get, by decide, by decide, tw_73, ⟨by decide, by decide⟩, by decide +kernel⟩
theorem cal_Mdl_hearsIt_Mdl_far : CalOK j_Mdl_hearsIt j_Mdl_far 2 := ⟨mok_Mdl_far, by decide, by decide, tw_70, ⟨by decide, by decide⟩, by decide +kernel⟩
theorem cal_Mdl_inQueue_Mdl_isIn : CalOK j_Mdl_inQueue j_Mdl_isIn 3 := ⟨mok_Mdl_isIn, by decide, by decide, tw_70, ⟨by decide, by decide⟩, by decide +kernel⟩
theorem cal_Mdl_inQueue_Mdl_isNobody : CalOK j_Mdl_inQueue j_Mdl_isNobody 1 := ⟨mok_Mdl_isNobody, by decide, by decide, tw_70, ⟨by decide, by decide⟩, by decide +kernel⟩
theorem cal_Mdl_inQueue_Mdl_queued : CalOK j_Mdl_inQueue j_Mdl_queued 3 := ⟨mok_Mdl_queued, by decide, by decide, tw_70, ⟨by decide, by decide⟩, by decide +kernel⟩
theorem cal_Mdl_inQueue_Mdl_refuse : CalOK j_Mdl_inQueue j_Mdl_refuse 2 := ⟨mok_Mdl_refuse, by decide, by decide, tw_70, ⟨by decide, by decide⟩, by decide +kernel⟩
theorem cal_Mdl_inQueue_Mdl_start : CalOK j_Mdl_inQueue j_Mdl_start 2 := ⟨mok_Mdl_start, by decide, by decide, tw_70, ⟨by decide, by decide⟩, by decide +kernel⟩
theorem cal_Mdl_init_ArrayList_init : CalOK j_Mdl_init j_ArrayList_init 0 := ⟨mok_ArrayList_init, by decide, by decide, tw_73, ⟨by decide, by decide⟩, by decide +kernel⟩
theorem cal_Mdl_isBusyFor_ArrayList_get : CalOK j_Mdl_isBusyFor j_ArrayList_get 1 := ⟨mok_ArrayList_get, by decide, by decide, tw_73, ⟨by decide, by decide⟩, by decide +kernel⟩
theorem cal_Mdl_isBusyFor_ArrayList_size : CalOK j_Mdl_isBusyFor j_ArrayList_size 0 := ⟨mok_ArrayList_size, by decide, by decide, tw_73, ⟨by decide, by decide⟩, by decide +kernel⟩
theorem mok_MNode_sends : MOK j_MNode_sends := ⟨by decide +kernel, rfl, tw_1494⟩
theorem cal_Mdl_isBusyFor_MNode_sends : CalOK j_Mdl_isBusyFor j_MNode_sends 0 := ⟨mok_MNode_sends, by decide, by decide, tw_80, ⟨by decide, by decide⟩, by decide +kernel⟩
theorem cal_Mdl_isBusyFor_Mdl_hearsIt : CalOK j_Mdl_isBusyFor j_Mdl_hearsIt 2 := ⟨mok_Mdl_hearsIt, by decide, by decide, tw_70, ⟨by decide, by decide⟩, by decide +kernel⟩
theorem cal_Mdl_isCover_ArrayList_size : CalOK j_Mdl_isCover j_ArrayList_size 0 := ⟨mok_ArrayList_size, by decide, by decide, tw_73, ⟨by decide, by decide⟩, by decide +kernel⟩
theorem cal_Mdl_isCover_Mdl_has : CalOK j_Mdl_isCover j_Mdl_has 2 := ⟨mok_Mdl_has, by decide, by decide, tw_70, ⟨by decide, by decide⟩, by decide +kernel⟩
theorem cal_Mdl_isCover_Mdl_hearsIt : CalOK j_Mdl_isCover j_Mdl_hearsIt 2 := ⟨mok_Mdl_hearsIt, by decide, by decide, tw_70, ⟨by decide, by decide⟩, by decide +kernel⟩
theorem cal_Mdl_isNobody_ArrayList_size : CalOK j_Mdl_isNobody j_ArrayList_size 0 := ⟨mok_ArrayList_size, by decide, by decide, tw_73, ⟨by decide, by decide⟩, by decide +kernel⟩
theorem cal_Mdl_isNobody_Mdl_isIn : CalOK j_Mdl_isNobody j_Mdl_isIn 3 := ⟨mok_Mdl_isIn, by decide, by decide, tw_70, ⟨by decide, by decide⟩, by decide +kernel⟩
theorem cal_Mdl_isSound_Mdl_isWhole : CalOK j_Mdl_isSound j_Mdl_isWhole 0 := ⟨mok_Mdl_isWhole, by decide, by decide, tw_70, ⟨by decide, by decide⟩, by decide +kernel⟩
theorem cal_Mdl_isSuspect_ArrayList_get : CalOK j_Mdl_isSuspect j_ArrayList_get 1 := ⟨mok_ArrayList_get, by decide, by decide, tw_73, ⟨by decide, by decide⟩, by decide +kernel⟩
theorem cal_Mdl_isSuspect_ArrayList_size : CalOK j_Mdl_isSuspect j_ArrayList_size 0 := ⟨mok_ArrayList_size, by decide, by decide, tw_73, ⟨by decide, by decide⟩, by decide +kernel⟩
theorem cal_Mdl_isWhole_ArrayList_get : CalOK j_Mdl_isWhole j_ArrayList_get 1 := ⟨mok_ArrayList_get, by decide, by decide, tw_73, ⟨by decide, by decide⟩, by decide +kernel⟩
theorem mok_ArrayList_isEmpty : MOK j_ArrayList_isEmpty := ⟨by decide +kernel, rfl, tw_1538⟩
theorem cal_Mdl_isWhole_ArrayList_isEmpty : CalOK j_Mdl_isWhole j_ArrayList_isEmpty 0 := ⟨mok_ArrayList_isEmpty, by decide, by decide, tw_73, ⟨by decide, by decide⟩, by decide +kernel⟩
theorem cal_Mdl_isWhole_ArrayList_size : CalOK j_Mdl_isWhole j_ArrayList_size 0 := ⟨mok_ArrayList_size, by decide, by decide, tw_73, ⟨by decide, by decide⟩, by decide +kernel⟩
theorem cal_Mdl_isWhole_MNode_sends : CalOK j_Mdl_isWhole j_MNode_sends 0 := ⟨mok_MNode_sends, by decide, by decide, tw_80, ⟨by decide, by decide⟩, by decide +kernel⟩
theorem cal_Mdl_isWhole_Mdl_auctionNow : CalOK j_Mdl_isWhole j_Mdl_auctionNow 0 := ⟨mok_Mdl_auctionNow, by decide, by decide, tw_70, ⟨by decide, by decide⟩, by decide +kernel⟩
theorem cal_Mdl_isWhole_Mdl_fairnessNow : CalOK j_Mdl_isWhole j_Mdl_fairnessNow 0 := ⟨mok_Mdl_fairnessNow, by decide, by decide, tw_70, ⟨by decide, by decide⟩, by decide +kernel⟩
theorem cal_Mdl_isWhole_Mdl_has : CalOK j_Mdl_isWhole j_Mdl_has 2 := ⟨mok_Mdl_has, by decide, by decide, tw_70, ⟨by decide, by decide⟩, by decide +kernel⟩
theorem cal_Mdl_isWhole_Mdl_isIn : CalOK j_Mdl_isWhole j_Mdl_isIn 3 := ⟨mok_Mdl_isIn, by decide, by decide, tw_70, ⟨by decide, by decide⟩, by decide +kernel⟩
theorem cal_Mdl_links_ArrayList_size : CalOK j_Mdl_links j_ArrayList_size 0 := ⟨mok_ArrayList_size, by decide, by decide, tw_73, ⟨by decide, by decide⟩, by decide +kernel⟩
theorem cal_Mdl_links_Mdl_areLinked : CalOK j_Mdl_links j_Mdl_areLinked 2 := ⟨mok_Mdl_areLinked, by decide, by decide, tw_70, ⟨by decide, by decide⟩, by decide +kernel⟩
theorem cal_Mdl_links_Mdl_one : CalOK j_Mdl_links j_Mdl_one 1 := ⟨mok_Mdl_one, by decide, by decide, tw_70, ⟨by decide, by decide⟩, by decide +kernel⟩
theorem cal_Mdl_move_ArrayList_get : CalOK j_Mdl_move j_ArrayList_get 1 := ⟨mok_ArrayList_get, by decide, by decide, tw_73, ⟨by decide, by decide⟩, by decide +kernel⟩
theorem cal_Mdl_move_Integer_bitCount : CalOK j_Mdl_move j_Integer_bitCount 1 := ⟨mok_Integer_bitCount, by decide, by decide, tw_87, ⟨by decide, by decide⟩, by decide +kernel⟩
theorem cal_Mdl_move_MNode_sends : CalOK j_Mdl_move j_MNode_sends 0 := ⟨mok_MNode_sends, by decide, by decide, tw_80, ⟨by decide, by decide⟩, by decide +kernel⟩
theorem cal_Mdl_move_Mdl_isIn : CalOK j_Mdl_move j_Mdl_isIn 3 := ⟨mok_Mdl_isIn, by decide, by decide, tw_70, ⟨by decide, by decide⟩, by decide +kernel⟩
theorem cal_Mdl_move_Mdl_isNobody : CalOK j_Mdl_move j_Mdl_isNobody 1 := ⟨mok_Mdl_isNobody, by decide, by decide, tw_70, ⟨by decide, by decide⟩, by decide +kernel⟩
theorem mok_Mdl_links : MOK j_Mdl_links := ⟨by decide +kernel, rfl, tw_1498⟩
theorem cal_Mdl_move_Mdl_links : CalOK j_Mdl_move j_Mdl_links 1 := ⟨mok_Mdl_links, by decide, by decide, tw_70, ⟨by decide, by decide⟩, by decide +kernel⟩
theorem cal_Mdl_move_Mdl_refuse : CalOK j_Mdl_move j_Mdl_refuse 2 := ⟨mok_Mdl_refuse, by decide, by decide, tw_70, ⟨by decide, by decide⟩, by decide +kernel⟩
theorem cal_Mdl_move_Mdl_start : CalOK j_Mdl_move j_Mdl_start 2 := ⟨mok_Mdl_start, by decide, by decide, tw_70, ⟨by decide, by decide⟩, by decide +kernel⟩
theorem cal_Mdl_nextSlot_ArrayList_get : CalOK j_Mdl_nextSlot j_ArrayList_get 1 := ⟨mok_ArrayList_get, by decide, by decide, tw_73, ⟨by decide, by decide⟩, by decide +kernel⟩
theorem cal_Mdl_nextSlot_ArrayList_isEmpty : CalOK j_Mdl_nextSlot j_ArrayList_isEmpty 0 := ⟨mok_ArrayList_isEmpty, by decide, by decide, tw_73, ⟨by decide, by decide⟩, by decide +kernel⟩
theorem cal_Mdl_nextSlot_ArrayList_size : CalOK j_Mdl_nextSlot j_ArrayList_size 0 := ⟨mok_ArrayList_size, by decide, by decide, tw_73, ⟨by decide, by decide⟩, by decide +kernel⟩
theorem cal_Mdl_nextSlot_MNode_sends : CalOK j_Mdl_nextSlot j_MNode_sends 0 := ⟨mok_MNode_sends, by decide, by decide, tw_80, ⟨by decide, by decide⟩, by decide +kernel⟩
theorem mok_Mdl_begin : MOK j_Mdl_begin := ⟨by decide +kernel, rfl, tw_1542⟩
theorem cal_Mdl_nextSlot_Mdl_begin : CalOK j_Mdl_nextSlot j_Mdl_begin 1 := ⟨mok_Mdl_begin, by decide, by decide, tw_70, ⟨by decide, by decide⟩, by decide +kernel⟩
theorem mok_Mdl_end : MOK j_Mdl_end := ⟨by decide +kernel, rfl, tw_1571⟩
theorem cal_Mdl_nextSlot_Mdl_end : CalOK j_Mdl_nextSlot j_Mdl_end 1 := ⟨mok_Mdl_end, by decide, by decide, tw_70, ⟨by decide, by decide⟩, by decide +kernel⟩
theorem mok_Mdl_gets : MOK j_Mdl_gets := ⟨by decide +kernel, rfl, tw_1567⟩
theorem cal_Mdl_nextSlot_Mdl_gets : CalOK j_Mdl_nextSlot j_Mdl_gets 3 := ⟨mok_Mdl_gets, by decide, by decide, tw_70, ⟨by decide, by decide⟩, by decide +kernel⟩
theorem cal_Mdl_nextSlot_Mdl_has : CalOK j_Mdl_nextSlot j_Mdl_has 2 := ⟨mok_Mdl_has, by decide, by decide, tw_70, ⟨by decide, by decide⟩, by decide +kernel⟩
theorem mok_Mdl_isBusyFor : MOK j_Mdl_isBusyFor := ⟨by decide +kernel, rfl, tw_1534⟩
theorem cal_Mdl_nextSlot_Mdl_isBusyFor : CalOK j_Mdl_nextSlot j_Mdl_isBusyFor 1 := ⟨mok_Mdl_isBusyFor, by decide, by decide, tw_70, ⟨by decide, by decide⟩, by decide +kernel⟩
theorem cal_Mdl_nextSlot_Mdl_senders : CalOK j_Mdl_nextSlot j_Mdl_senders 0 := ⟨mok_Mdl_senders, by decide, by decide, tw_70, ⟨by decide, by decide⟩, by decide +kernel⟩
theorem cal_Mdl_node_ArrayList_add_LjavalangObjectZ : CalOK j_Mdl_node j_ArrayList_add_LjavalangObjectZ 1 := ⟨mok_ArrayList_add_LjavalangObjectZ, by decide, by decide, tw_73, ⟨by decide, by decide⟩, by decide +kernel⟩
theorem cal_Mdl_node_ArrayList_size : CalOK j_Mdl_node j_ArrayList_size 0 := ⟨mok_ArrayList_size, by decide, by decide, tw_73, ⟨by decide, by decide⟩, by decide +kernel⟩
theorem mok_MNode_init : MOK j_MNode_init := ⟨by decide +kernel, rfl, tw_1352⟩
theorem cal_Mdl_node_MNode_init : CalOK j_Mdl_node j_MNode_init 4 := ⟨mok_MNode_init, by decide, by decide, tw_80, ⟨by decide, by decide⟩, by decide +kernel⟩
theorem cal_Mdl_node_Mdl_isIn : CalOK j_Mdl_node j_Mdl_isIn 3 := ⟨mok_Mdl_isIn, by decide, by decide, tw_70, ⟨by decide, by decide⟩, by decide +kernel⟩
theorem cal_Mdl_node_Mdl_refuse : CalOK j_Mdl_node j_Mdl_refuse 2 := ⟨mok_Mdl_refuse, by decide, by decide, tw_70, ⟨by decide, by decide⟩, by decide +kernel⟩
theorem cal_Mdl_node_Mdl_start : CalOK j_Mdl_node j_Mdl_start 2 := ⟨mok_Mdl_start, by decide, by decide, tw_70, ⟨by decide, by decide⟩, by decide +kernel⟩
theorem cal_Mdl_nodeTold_ArrayList_get : CalOK j_Mdl_nodeTold j_ArrayList_get 1 := ⟨mok_ArrayList_get, by decide, by decide, tw_73, ⟨by decide, by decide⟩, by decide +kernel⟩
theorem cal_Mdl_nodeTold_ArrayList_size : CalOK j_Mdl_nodeTold j_ArrayList_size 0 := ⟨mok_ArrayList_size, by decide, by decide, tw_73, ⟨by decide, by decide⟩, by decide +kernel⟩
theorem mok_Mdl_isSuspect : MOK j_Mdl_isSuspect := ⟨by decide +kernel, rfl, tw_1698⟩
theorem cal_Mdl_nodeTold_Mdl_isSuspect : CalOK j_Mdl_nodeTold j_Mdl_isSuspect 1 := ⟨mok_Mdl_isSuspect, by decide, by decide, tw_70, ⟨by decide, by decide⟩, by decide +kernel⟩
theorem cal_Mdl_nodeTold_Mdl_links : CalOK j_Mdl_nodeTold j_Mdl_links 1 := ⟨mok_Mdl_links, by decide, by decide, tw_70, ⟨by decide, by decide⟩, by decide +kernel⟩
theorem cal_Mdl_nodeTold_Mdl_one : CalOK j_Mdl_nodeTold j_Mdl_one 1 := ⟨mok_Mdl_one, by decide, by decide, tw_70, ⟨by decide, by decide⟩, by decide +kernel⟩
theorem cal_Mdl_ofNode_Mdl_isIn : CalOK j_Mdl_ofNode j_Mdl_isIn 3 := ⟨mok_Mdl_isIn, by decide, by decide, tw_70, ⟨by decide, by decide⟩, by decide +kernel⟩
theorem cal_Mdl_ofNode_Mdl_isNobody : CalOK j_Mdl_ofNode j_Mdl_isNobody 1 := ⟨mok_Mdl_isNobody, by decide, by decide, tw_70, ⟨by decide, by decide⟩, by decide +kernel⟩
theorem cal_Mdl_ofNode_Mdl_nodeTold : CalOK j_Mdl_ofNode j_Mdl_nodeTold 2 := ⟨mok_Mdl_nodeTold, by decide, by decide, tw_70, ⟨by decide, by decide⟩, by decide +kernel⟩
theorem cal_Mdl_ofNode_Mdl_refuse : CalOK j_Mdl_ofNode j_Mdl_refuse 2 := ⟨mok_Mdl_refuse, by decide, by decide, tw_70, ⟨by decide, by decide⟩, by decide +kernel⟩
theorem cal_Mdl_ofNode_Mdl_start : CalOK j_Mdl_ofNode j_Mdl_start 2 := ⟨mok_Mdl_start, by decide, by decide, tw_70, ⟨by decide, by decide⟩, by decide +kernel⟩
theorem cal_Mdl_pass_Mdl_isIn : CalOK j_Mdl_pass j_Mdl_isIn 3 := ⟨mok_Mdl_isIn, by decide, by decide, tw_70, ⟨by decide, by decide⟩, by decide +kernel⟩
theorem mok_Mdl_nextSlot : MOK j_Mdl_nextSlot := ⟨by decide +kernel, rfl, tw_1530⟩
theorem cal_Mdl_pass_Mdl_nextSlot : CalOK j_Mdl_pass j_Mdl_nextSlot 0 := ⟨mok_Mdl_nextSlot, by decide, by decide, tw_70, ⟨by decide, by decide⟩, by decide +kernel⟩
theorem cal_Mdl_pass_Mdl_refuse : CalOK j_Mdl_pass j_Mdl_refuse 2 := ⟨mok_Mdl_refuse, by decide, by decide, tw_70, ⟨by decide, by decide⟩, by decide +kernel⟩
theorem cal_Mdl_pass_Mdl_start : CalOK j_Mdl_pass j_Mdl_start 2 := ⟨mok_Mdl_start, by decide, by decide, tw_70, ⟨by decide, by decide⟩, by decide +kernel⟩
theorem cal_Mdl_pays_Mdl_priceOf : CalOK j_Mdl_pays j_Mdl_priceOf 2 := ⟨mok_Mdl_priceOf, by decide, by decide, tw_70, ⟨by decide, by decide⟩, by decide +kernel⟩
theorem cal_Mdl_pays_Mdl_winners : CalOK j_Mdl_pays j_Mdl_winners 1 := ⟨mok_Mdl_winners, by decide, by decide, tw_70, ⟨by decide, by decide⟩, by decide +kernel⟩
theorem cal_Mdl_priceOf_ArrayList_get : CalOK j_Mdl_priceOf j_ArrayList_get 1 := ⟨mok_ArrayList_get, by decide, by decide, tw_73, ⟨by decide, by decide⟩, by decide +kernel⟩
theorem cal_Mdl_priceOf_ArrayList_size : CalOK j_Mdl_priceOf j_ArrayList_size 0 := ⟨mok_ArrayList_size, by decide, by decide, tw_73, ⟨by decide, by decide⟩, by decide +kernel⟩
theorem cal_Mdl_priceOf_Mdl_has : CalOK j_Mdl_priceOf j_Mdl_has 2 := ⟨mok_Mdl_has, by decide, by decide, tw_70, ⟨by decide, by decide⟩, by decide +kernel⟩
theorem cal_Mdl_queued_ArrayList_get : CalOK j_Mdl_queued j_ArrayList_get 1 := ⟨mok_ArrayList_get, by decide, by decide, tw_73, ⟨by decide, by decide⟩, by decide +kernel⟩
theorem cal_Mdl_queued_ArrayList_size : CalOK j_Mdl_queued j_ArrayList_size 0 := ⟨mok_ArrayList_size, by decide, by decide, tw_73, ⟨by decide, by decide⟩, by decide +kernel⟩
theorem cal_Mdl_receive_ArrayList_add_LjavalangObjectZ : CalOK j_Mdl_receive j_ArrayList_add_LjavalangObjectZ 1 := ⟨mok_ArrayList_add_LjavalangObjectZ, by decide, by decide, tw_73, ⟨by decide, by decide⟩, by decide +kernel⟩
theorem cal_Mdl_receive_ArrayList_get : CalOK j_Mdl_receive j_ArrayList_get 1 := ⟨mok_ArrayList_get, by decide, by decide, tw_73, ⟨by decide, by decide⟩, by decide +kernel⟩
theorem cal_Mdl_receive_ArrayList_size : CalOK j_Mdl_receive j_ArrayList_size 0 := ⟨mok_ArrayList_size, by decide, by decide, tw_73, ⟨by decide, by decide⟩, by decide +kernel⟩
theorem cal_Mdl_receive_Mdl_hasArrived : CalOK j_Mdl_receive j_Mdl_hasArrived 2 := ⟨mok_Mdl_hasArrived, by decide, by decide, tw_70, ⟨by decide, by decide⟩, by decide +kernel⟩
theorem cal_Mdl_route_Mdl_isIn : CalOK j_Mdl_route j_Mdl_isIn 3 := ⟨mok_Mdl_isIn, by decide, by decide, tw_70, ⟨by decide, by decide⟩, by decide +kernel⟩
theorem cal_Mdl_route_Mdl_isNobody : CalOK j_Mdl_route j_Mdl_isNobody 1 := ⟨mok_Mdl_isNobody, by decide, by decide, tw_70, ⟨by decide, by decide⟩, by decide +kernel⟩
theorem cal_Mdl_route_Mdl_refuse : CalOK j_Mdl_route j_Mdl_refuse 2 := ⟨mok_Mdl_refuse, by decide, by decide, tw_70, ⟨by decide, by decide⟩, by decide +kernel⟩
theorem cal_Mdl_route_Mdl_routeTold : CalOK j_Mdl_route j_Mdl_routeTold 3 := ⟨mok_Mdl_routeTold, by decide, by decide, tw_70, ⟨by decide, by decide⟩, by decide +kernel⟩
theorem cal_Mdl_route_Mdl_start : CalOK j_Mdl_route j_Mdl_start 2 := ⟨mok_Mdl_start, by decide, by decide, tw_70, ⟨by decide, by decide⟩, by decide +kernel⟩
theorem cal_Mdl_routeTold_ArrayList_get : CalOK j_Mdl_routeTold j_ArrayList_get 1 := ⟨mok_ArrayList_get, by decide, by decide, tw_73, ⟨by decide, by decide⟩, by decide +kernel⟩
theorem cal_Mdl_routeTold_Math_max : CalOK j_Mdl_routeTold j_Math_max 2 := ⟨mok_Math_max, by decide, by decide, tw_82, ⟨by decide, by decide⟩, by decide +kernel⟩
theorem cal_Mdl_routeTold_Mdl_one : CalOK j_Mdl_routeTold j_Mdl_one 1 := ⟨mok_Mdl_one, by decide, by decide, tw_70, ⟨by decide, by decide⟩, by decide +kernel⟩
theorem cal_Mdl_routeTold_Mdl_way : CalOK j_Mdl_routeTold j_Mdl_way 2 := ⟨mok_Mdl_way, by decide, by decide, tw_70, ⟨by decide, by decide⟩, by decide +kernel⟩
theorem cal_Mdl_routed_ArrayList_iterator : CalOK j_Mdl_routed j_ArrayList_iterator 0 := ⟨mok_ArrayList_iterator, by decide, by decide, tw_73, ⟨by decide, by decide⟩, by decide +kernel⟩
theorem cal_Mdl_routed_Itr_hasNext : CalOK j_Mdl_routed j_Itr_hasNext 0 := ⟨mok_Itr_hasNext, by decide, by decide, tw_90, ⟨by decide, by decide⟩, by decide +kernel⟩
theorem cal_Mdl_routed_Itr_next : CalOK j_Mdl_routed j_Itr_next 0 := ⟨mok_Itr_next, by decide, by decide, tw_90, ⟨by decide, by decide⟩, by decide +kernel⟩
theorem cal_Mdl_routed_Mdl_one : CalOK j_Mdl_routed j_Mdl_one 1 := ⟨mok_Mdl_one, by decide, by decide, tw_70, ⟨by decide, by decide⟩, by decide +kernel⟩
theorem cal_Mdl_row_ArrayList_isEmpty : CalOK j_Mdl_row j_ArrayList_isEmpty 0 := ⟨mok_ArrayList_isEmpty, by decide, by decide, tw_73, ⟨by decide, by decide⟩, by decide +kernel⟩
theorem cal_Mdl_row_ArrayList_iterator : CalOK j_Mdl_row j_ArrayList_iterator 0 := ⟨mok_ArrayList_iterator, by decide, by decide, tw_73, ⟨by decide, by decide⟩, by decide +kernel⟩
theorem cal_Mdl_row_Itr_hasNext : CalOK j_Mdl_row j_Itr_hasNext 0 := ⟨mok_Itr_hasNext, by decide, by decide, tw_90, ⟨by decide, by decide⟩, by decide +kernel⟩
theorem cal_Mdl_row_Itr_next : CalOK j_Mdl_row j_Itr_next 0 := ⟨mok_Itr_next, by decide, by decide, tw_90, ⟨by decide, by decide⟩, by decide +kernel⟩
theorem cal_Mdl_row_MNode_sends : CalOK j_Mdl_row j_MNode_sends 0 := ⟨mok_MNode_sends, by decide, by decide, tw_80, ⟨by decide, by decide⟩, by decide +kernel⟩
theorem mok_StringBuilder_append : MOK j_StringBuilder_append := ⟨by decide +kernel, rfl, tw_472⟩
theorem cal_Mdl_row_StringBuilder_append : CalOK j_Mdl_row j_StringBuilder_append 1 := ⟨mok_StringBuilder_append, by decide, by decide, tw_92, ⟨by decide, by decide⟩, by decide +kernel⟩
theorem mok_StringBuilder_init : MOK j_StringBuilder_init := ⟨by decide +kernel, rfl, tw_433⟩
theorem cal_Mdl_row_StringBuilder_init : CalOK j_Mdl_row j_StringBuilder_init 0 := ⟨mok_StringBuilder_init, by decide, by decide, tw_92, ⟨by decide, by decide⟩, by decide +kernel⟩
theorem mok_StringBuilder_toString : MOK j_StringBuilder_toString := ⟨by decide +kernel, rfl, tw_567⟩
theorem cal_Mdl_row_StringBuilder_toString : CalOK j_Mdl_row j_StringBuilder_toString 0 := ⟨mok_StringBuilder_toString, by decide, by decide, tw_92, ⟨by decide, by decide⟩, by decide +kernel⟩
theorem mok_ArrayList_clear : MOK j_ArrayList_clear := ⟨by decide +kernel, rfl, tw_1678⟩
theorem cal_Mdl_sell_ArrayList_clear : CalOK j_Mdl_sell j_ArrayList_clear 0 := ⟨mok_ArrayList_clear, by decide, by decide, tw_73, ⟨by decide, by decide⟩, by decide +kernel⟩
theorem cal_Mdl_sell_Mdl_auctionNow : CalOK j_Mdl_sell j_Mdl_auctionNow 0 := ⟨mok_Mdl_auctionNow, by decide, by decide, tw_70, ⟨by decide, by decide⟩, by decide +kernel⟩
theorem cal_Mdl_send_ArrayList_add_LjavalangObjectZ : CalOK j_Mdl_send j_ArrayList_add_LjavalangObjectZ 1 := ⟨mok_ArrayList_add_LjavalangObjectZ, by decide, by decide, tw_73, ⟨by decide, by decide⟩, by decide +kernel⟩
theorem cal_Mdl_send_ArrayList_get : CalOK j_Mdl_send j_ArrayList_get 1 := ⟨mok_ArrayList_get, by decide, by decide, tw_73, ⟨by decide, by decide⟩, by decide +kernel⟩
theorem cal_Mdl_send_ArrayList_size : CalOK j_Mdl_send j_ArrayList_size 0 := ⟨mok_ArrayList_size, by decide, by decide, tw_73, ⟨by decide, by decide⟩, by decide +kernel⟩
theorem cal_Mdl_send_Mdl_isIn : CalOK j_Mdl_send j_Mdl_isIn 3 := ⟨mok_Mdl_isIn, by decide, by decide, tw_70, ⟨by decide, by decide⟩, by decide +kernel⟩
theorem cal_Mdl_send_Mdl_isNobody : CalOK j_Mdl_send j_Mdl_isNobody 1 := ⟨mok_Mdl_isNobody, by decide, by decide, tw_70, ⟨by decide, by decide⟩, by decide +kernel⟩
theorem cal_Mdl_send_Mdl_refuse : CalOK j_Mdl_send j_Mdl_refuse 2 := ⟨mok_Mdl_refuse, by decide, by decide, tw_70, ⟨by decide, by decide⟩, by decide +kernel⟩
theorem cal_Mdl_send_Mdl_start : CalOK j_Mdl_send j_Mdl_start 2 := ⟨mok_Mdl_start, by decide, by decide, tw_70, ⟨by decide, by decide⟩, by decide +kernel⟩
theorem cal_Mdl_senders_ArrayList_get : CalOK j_Mdl_senders j_ArrayList_get 1 := ⟨mok_ArrayList_get, by decide, by decide, tw_73, ⟨by decide, by decide⟩, by decide +kernel⟩
theorem cal_Mdl_senders_ArrayList_size : CalOK j_Mdl_senders j_ArrayList_size 0 := ⟨mok_ArrayList_size, by decide, by decide, tw_73, ⟨by decide, by decide⟩, by decide +kernel⟩
theorem cal_Mdl_senders_MNode_sends : CalOK j_Mdl_senders j_MNode_sends 0 := ⟨mok_MNode_sends, by decide, by decide, tw_80, ⟨by decide, by decide⟩, by decide +kernel⟩
theorem cal_Mdl_senders_Mdl_one : CalOK j_Mdl_senders j_Mdl_one 1 := ⟨mok_Mdl_one, by decide, by decide, tw_70, ⟨by decide, by decide⟩, by decide +kernel⟩
theorem cal_Mdl_start_Mdl_refuse : CalOK j_Mdl_start j_Mdl_refuse 2 := ⟨mok_Mdl_refuse, by decide, by decide, tw_70, ⟨by decide, by decide⟩, by decide +kernel⟩
theorem cal_Mdl_throughput_Mdl_isIn : CalOK j_Mdl_throughput j_Mdl_isIn 3 := ⟨mok_Mdl_isIn, by decide, by decide, tw_70, ⟨by decide, by decide⟩, by decide +kernel⟩
theorem cal_Mdl_throughput_Mdl_start : CalOK j_Mdl_throughput j_Mdl_start 2 := ⟨mok_Mdl_start, by decide, by decide, tw_70, ⟨by decide, by decide⟩, by decide +kernel⟩
theorem cal_Mdl_throughput_Mdl_throughputOf : CalOK j_Mdl_throughput j_Mdl_throughputOf 2 := ⟨mok_Mdl_throughputOf, by decide, by decide, tw_70, ⟨by decide, by decide⟩, by decide +kernel⟩
theorem cal_Mdl_tune_ArrayList_get : CalOK j_Mdl_tune j_ArrayList_get 1 := ⟨mok_ArrayList_get, by decide, by decide, tw_73, ⟨by decide, by decide⟩, by decide +kernel⟩
theorem cal_Mdl_tune_MNode_sends : CalOK j_Mdl_tune j_MNode_sends 0 := ⟨mok_MNode_sends, by decide, by decide, tw_80, ⟨by decide, by decide⟩, by decide +kernel⟩
theorem cal_Mdl_tune_Mdl_isIn : CalOK j_Mdl_tune j_Mdl_isIn 3 := ⟨mok_Mdl_isIn, by decide, by decide, tw_70, ⟨by decide, by decide⟩, by decide +kernel⟩
theorem cal_Mdl_tune_Mdl_isNobody : CalOK j_Mdl_tune j_Mdl_isNobody 1 := ⟨mok_Mdl_isNobody, by decide, by decide, tw_70, ⟨by decide, by decide⟩, by decide +kernel⟩
theorem cal_Mdl_tune_Mdl_refuse : CalOK j_Mdl_tune j_Mdl_refuse 2 := ⟨mok_Mdl_refuse, by decide, by decide, tw_70, ⟨by decide, by decide⟩, by decide +kernel⟩
theorem cal_Mdl_tune_Mdl_start : CalOK j_Mdl_tune j_Mdl_start 2 := ⟨mok_Mdl_start, by decide, by decide, tw_70, ⟨by decide, by decide⟩, by decide +kernel⟩
theorem cal_Mdl_way_ArrayList_get : CalOK j_Mdl_way j_ArrayList_get 1 := ⟨mok_ArrayList_get, by decide, by decide, tw_73, ⟨by decide, by decide⟩, by decide +kernel⟩
theorem cal_Mdl_way_Mdl_has : CalOK j_Mdl_way j_Mdl_has 2 := ⟨mok_Mdl_has, by decide, by decide, tw_70, ⟨by decide, by decide⟩, by decide +kernel⟩
theorem cal_Mdl_winners_ArrayList_size : CalOK j_Mdl_winners j_ArrayList_size 0 := ⟨mok_ArrayList_size, by decide, by decide, tw_73, ⟨by decide, by decide⟩, by decide +kernel⟩
theorem mok_Mdl_canWin : MOK j_Mdl_canWin := ⟨by decide +kernel, rfl, tw_1666⟩
theorem cal_Mdl_winners_Mdl_canWin : CalOK j_Mdl_winners j_Mdl_canWin 2 := ⟨mok_Mdl_canWin, by decide, by decide, tw_70, ⟨by decide, by decide⟩, by decide +kernel⟩
theorem cal_Mdl_winners_Mdl_priceOf : CalOK j_Mdl_winners j_Mdl_priceOf 2 := ⟨mok_Mdl_priceOf, by decide, by decide, tw_70, ⟨by decide, by decide⟩, by decide +kernel⟩
theorem cal_Mdl_would_ArrayList_size : CalOK j_Mdl_would j_ArrayList_size 0 := ⟨mok_ArrayList_size, by decide, by decide, tw_73, ⟨by decide, by decide⟩, by decide +kernel⟩
theorem cal_Mdl_would_Mdl_gets : CalOK j_Mdl_would j_Mdl_gets 3 := ⟨mok_Mdl_gets, by decide, by decide, tw_70, ⟨by decide, by decide⟩, by decide +kernel⟩
theorem cal_Mdl_would_Mdl_has : CalOK j_Mdl_would j_Mdl_has 2 := ⟨mok_Mdl_has, by decide, by decide, tw_70, ⟨by decide, by decide⟩, by decide +kernel⟩
theorem cal_Mdl_would_Mdl_isNobody : CalOK j_Mdl_would j_Mdl_isNobody 1 := ⟨mok_Mdl_isNobody, by decide, by decide, tw_70, ⟨by decide, by decide⟩, by decide +kernel⟩
theorem cal_Mdl_would_Mdl_refuse : CalOK j_Mdl_would j_Mdl_refuse 2 := ⟨mok_Mdl_refuse, by decide, by decide, tw_70, ⟨by decide, by decide⟩, by decide +kernel⟩
theorem cal_Mdl_would_Mdl_start : CalOK j_Mdl_would j_Mdl_start 2 := ⟨mok_Mdl_start, by decide, by decide, tw_70, ⟨by decide, by decide⟩, by decide +kernel⟩
theorem mok_FrameQueue_removeFirst : MOK j_FrameQueue_removeFirst := ⟨by decide +kernel, rfl, tw_1092⟩
theorem cal_Node_finishFirst_FrameQueue_removeFirst : CalOK j_Node_finishFirst j_FrameQueue_removeFirst 0 := ⟨mok_FrameQueue_removeFirst, by decide, by decide, tw_64, ⟨by decide, by decide⟩, by decide +kernel⟩
theorem mok_FrameQueue_init : MOK j_FrameQueue_init := ⟨by decide +kernel, rfl, tw_122⟩
theorem cal_Node_init_FrameQueue_init : CalOK j_Node_init j_FrameQueue_init 0 := ⟨mok_FrameQueue_init, by decide, by decide, tw_64, ⟨by decide, by decide⟩, by decide +kernel⟩
theorem mok_NumberSet_init : MOK j_NumberSet_init := ⟨by decide +kernel, rfl, tw_177⟩
theorem cal_Node_init_NumberSet_init : CalOK j_Node_init j_NumberSet_init 0 := ⟨mok_NumberSet_init, by decide, by decide, tw_66, ⟨by decide, by decide⟩, by decide +kernel⟩
theorem mok_S_isWithin : MOK j_S_isWithin := ⟨by decide +kernel, rfl, tw_799⟩
theorem cal_Node_isInOrder_S_isWithin : CalOK j_Node_isInOrder j_S_isWithin 3 := ⟨mok_S_isWithin, by decide, by decide, tw_61, ⟨by decide, by decide⟩, by decide +kernel⟩
theorem mok_Node_isSending : MOK j_Node_isSending := ⟨by decide +kernel, rfl, tw_468⟩
theorem cal_Node_sign_Node_isSending : CalOK j_Node_sign j_Node_isSending 0 := ⟨mok_Node_isSending, by decide, by decide, tw_63, ⟨by decide, by decide⟩, by decide +kernel⟩
theorem mok_Long_bitCount : MOK j_Long_bitCount := ⟨by decide +kernel, rfl, tw_815⟩
theorem cal_NumberSet_size_Long_bitCount : CalOK j_NumberSet_size j_Long_bitCount 1 := ⟨mok_Long_bitCount, by decide, by decide, tw_96, ⟨by decide, by decide⟩, by decide +kernel⟩
theorem mok_Preconditions_checkIndex : MOK j_Preconditions_checkIndex := ⟨by decide +kernel, rfl, tw_563⟩
theorem cal_Objects_checkIndex_Preconditions_checkIndex : CalOK j_Objects_checkIndex j_Preconditions_checkIndex 3 := ⟨mok_Preconditions_checkIndex, by decide, by decide, tw_89, ⟨by decide, by decide⟩, by decide +kernel⟩
theorem cal_Routes_areInOrder_Land_isNode : CalOK j_Routes_areInOrder j_Land_isNode 1 := ⟨mok_Land_isNode, by decide, by decide, tw_62, ⟨by decide, by decide⟩, by decide +kernel⟩
theorem cal_Routes_areInOrder_S_isWithin : CalOK j_Routes_areInOrder j_S_isWithin 3 := ⟨mok_S_isWithin, by decide, by decide, tw_61, ⟨by decide, by decide⟩, by decide +kernel⟩
theorem cal_Routes_cheapestNeighbour_Land_areLinked : CalOK j_Routes_cheapestNeighbour j_Land_areLinked 2 := ⟨mok_Land_areLinked, by decide, by decide, tw_62, ⟨by decide, by decide⟩, by decide +kernel⟩
theorem cal_Routes_costOf_Land_isNode : CalOK j_Routes_costOf j_Land_isNode 1 := ⟨mok_Land_isNode, by decide, by decide, tw_62, ⟨by decide, by decide⟩, by decide +kernel⟩
theorem cal_Routes_follow_Land_isNode : CalOK j_Routes_follow j_Land_isNode 1 := ⟨mok_Land_isNode, by decide, by decide, tw_62, ⟨by decide, by decide⟩, by decide +kernel⟩
theorem mok_Routes_nextOf : MOK j_Routes_nextOf := ⟨by decide +kernel, rfl, tw_858⟩
theorem cal_Routes_follow_Routes_nextOf : CalOK j_Routes_follow j_Routes_nextOf 2 := ⟨mok_Routes_nextOf, by decide, by decide, tw_67, ⟨by decide, by decide⟩, by decide +kernel⟩
theorem mok_Routes_follow : MOK j_Routes_follow := ⟨by decide +kernel, rfl, tw_854⟩
theorem cal_Routes_hasCircle_Routes_follow : CalOK j_Routes_hasCircle j_Routes_follow 2 := ⟨mok_Routes_follow, by decide, by decide, tw_67, ⟨by decide, by decide⟩, by decide +kernel⟩
theorem cal_Routes_nextOf_Land_isNode : CalOK j_Routes_nextOf j_Land_isNode 1 := ⟨mok_Land_isNode, by decide, by decide, tw_62, ⟨by decide, by decide⟩, by decide +kernel⟩
theorem mok_Routes_hasCircle : MOK j_Routes_hasCircle := ⟨by decide +kernel, rfl, tw_850⟩
theorem cal_Routes_pairsWithCircle_Routes_hasCircle : CalOK j_Routes_pairsWithCircle j_Routes_hasCircle 2 := ⟨mok_Routes_hasCircle, by decide, by decide, tw_67, ⟨by decide, by decide⟩, by decide +kernel⟩
theorem mok_Routes_renewPair : MOK j_Routes_renewPair := ⟨by decide +kernel, rfl, tw_1158⟩
theorem cal_Routes_renew_Routes_renewPair : CalOK j_Routes_renew j_Routes_renewPair 2 := ⟨mok_Routes_renewPair, by decide, by decide, tw_67, ⟨by decide, by decide⟩, by decide +kernel⟩
theorem cal_Routes_renewPair_Land_areLinked : CalOK j_Routes_renewPair j_Land_areLinked 2 := ⟨mok_Land_areLinked, by decide, by decide, tw_62, ⟨by decide, by decide⟩, by decide +kernel⟩
theorem mok_Routes_cheapestNeighbour : MOK j_Routes_cheapestNeighbour := ⟨by decide +kernel, rfl, tw_1163⟩
theorem cal_Routes_renewPair_Routes_cheapestNeighbour : CalOK j_Routes_renewPair j_Routes_cheapestNeighbour 2 := ⟨mok_Routes_cheapestNeighbour, by decide, by decide, tw_67, ⟨by decide, by decide⟩, by decide +kernel⟩
theorem cal_Routes_wayLength_Routes_follow : CalOK j_Routes_wayLength j_Routes_follow 2 := ⟨mok_Routes_follow, by decide, by decide, tw_67, ⟨by decide, by decide⟩, by decide +kernel⟩
theorem cal_S_air_Integer_bitCount : CalOK j_S_air j_Integer_bitCount 1 := ⟨mok_Integer_bitCount, by decide, by decide, tw_87, ⟨by decide, by decide⟩, by decide +kernel⟩
theorem mok_Land_framesInQueues : MOK j_Land_framesInQueues := ⟨by decide +kernel, rfl, tw_842⟩
theorem cal_S_air_Land_framesInQueues : CalOK j_S_air j_Land_framesInQueues 0 := ⟨mok_Land_framesInQueues, by decide, by decide, tw_62, ⟨by decide, by decide⟩, by decide +kernel⟩
theorem mok_Routes_pairsWithCircle : MOK j_Routes_pairsWithCircle := ⟨by decide +kernel, rfl, tw_846⟩
theorem cal_S_air_Routes_pairsWithCircle : CalOK j_S_air j_Routes_pairsWithCircle 0 := ⟨mok_Routes_pairsWithCircle, by decide, by decide, tw_67, ⟨by decide, by decide⟩, by decide +kernel⟩
theorem mok_Traffic_senders : MOK j_Traffic_senders := ⟨by decide +kernel, rfl, tw_836⟩
theorem cal_S_air_Traffic_senders : CalOK j_S_air j_Traffic_senders 0 := ⟨mok_Traffic_senders, by decide, by decide, tw_68, ⟨by decide, by decide⟩, by decide +kernel⟩
theorem cal_S_auction_Market_paidBy : CalOK j_S_auction j_Market_paidBy 1 := ⟨mok_Market_paidBy, by decide, by decide, tw_69, ⟨by decide, by decide⟩, by decide +kernel⟩
theorem cal_S_auction_S_isWithin : CalOK j_S_auction j_S_isWithin 3 := ⟨mok_S_isWithin, by decide, by decide, tw_61, ⟨by decide, by decide⟩, by decide +kernel⟩
theorem mok_S_chanceOfOne : MOK j_S_chanceOfOne := ⟨by decide +kernel, rfl, tw_1239⟩
theorem cal_S_bestChance_S_chanceOfOne : CalOK j_S_bestChance j_S_chanceOfOne 2 := ⟨mok_S_chanceOfOne, by decide, by decide, tw_61, ⟨by decide, by decide⟩, by decide +kernel⟩
theorem cal_S_bestChance_S_isWithin : CalOK j_S_bestChance j_S_isWithin 3 := ⟨mok_S_isWithin, by decide, by decide, tw_61, ⟨by decide, by decide⟩, by decide +kernel⟩
theorem mok_Market_add : MOK j_Market_add := ⟨by decide +kernel, rfl, tw_1180⟩
theorem cal_S_bid_Market_add : CalOK j_S_bid j_Market_add 3 := ⟨mok_Market_add, by decide, by decide, tw_69, ⟨by decide, by decide⟩, by decide +kernel⟩
theorem cal_S_bid_S_isWithin : CalOK j_S_bid j_S_isWithin 3 := ⟨mok_S_isWithin, by decide, by decide, tw_61, ⟨by decide, by decide⟩, by decide +kernel⟩
theorem cal_S_checkNode_Land_isNode : CalOK j_S_checkNode j_Land_isNode 1 := ⟨mok_Land_isNode, by decide, by decide, tw_62, ⟨by decide, by decide⟩, by decide +kernel⟩
theorem mok_S_checkNode : MOK j_S_checkNode := ⟨by decide +kernel, rfl, tw_877⟩
theorem cal_S_checkPair_S_checkNode : CalOK j_S_checkPair j_S_checkNode 1 := ⟨mok_S_checkNode, by decide, by decide, tw_61, ⟨by decide, by decide⟩, by decide +kernel⟩
theorem cal_S_checkSilent_Node_isSending : CalOK j_S_checkSilent j_Node_isSending 0 := ⟨mok_Node_isSending, by decide, by decide, tw_63, ⟨by decide, by decide⟩, by decide +kernel⟩
theorem mok_Land_fewestCovering : MOK j_Land_fewestCovering := ⟨by decide +kernel, rfl, tw_773⟩
theorem cal_S_cover_Land_fewestCovering : CalOK j_S_cover j_Land_fewestCovering 0 := ⟨mok_Land_fewestCovering, by decide, by decide, tw_62, ⟨by decide, by decide⟩, by decide +kernel⟩
theorem mok_NumberSet_has : MOK j_NumberSet_has := ⟨by decide +kernel, rfl, tw_1121⟩
theorem cal_S_delivered_NumberSet_has : CalOK j_S_delivered j_NumberSet_has 1 := ⟨mok_NumberSet_has, by decide, by decide, tw_66, ⟨by decide, by decide⟩, by decide +kernel⟩
theorem cal_S_delivered_S_checkNode : CalOK j_S_delivered j_S_checkNode 1 := ⟨mok_S_checkNode, by decide, by decide, tw_61, ⟨by decide, by decide⟩, by decide +kernel⟩
theorem cal_S_digest_S_air : CalOK j_S_digest j_S_air 1 := ⟨mok_S_air, by decide, by decide, tw_61, ⟨by decide, by decide⟩, by decide +kernel⟩
theorem cal_S_digest_S_auction : CalOK j_S_digest j_S_auction 1 := ⟨mok_S_auction, by decide, by decide, tw_61, ⟨by decide, by decide⟩, by decide +kernel⟩
theorem cal_S_digest_S_cover : CalOK j_S_digest j_S_cover 0 := ⟨mok_S_cover, by decide, by decide, tw_61, ⟨by decide, by decide⟩, by decide +kernel⟩
theorem cal_S_digest_S_fairness : CalOK j_S_digest j_S_fairness 0 := ⟨mok_S_fairness, by decide, by decide, tw_61, ⟨by decide, by decide⟩, by decide +kernel⟩
theorem cal_S_digest_S_isSound : CalOK j_S_digest j_S_isSound 0 := ⟨mok_S_isSound, by decide, by decide, tw_61, ⟨by decide, by decide⟩, by decide +kernel⟩
theorem mok_S_mix : MOK j_S_mix := ⟨by decide +kernel, rfl, tw_864⟩
theorem cal_S_digest_S_mix : CalOK j_S_digest j_S_mix 2 := ⟨mok_S_mix, by decide, by decide, tw_61, ⟨by decide, by decide⟩, by decide +kernel⟩
theorem mok_S_mixNode : MOK j_S_mixNode := ⟨by decide +kernel, rfl, tw_869⟩
theorem cal_S_digest_S_mixNode : CalOK j_S_digest j_S_mixNode 2 := ⟨mok_S_mixNode, by decide, by decide, tw_61, ⟨by decide, by decide⟩, by decide +kernel⟩
theorem mok_Routes_pairsWithRoute : MOK j_Routes_pairsWithRoute := ⟨by decide +kernel, rfl, tw_1167⟩
theorem cal_S_exchange_Routes_pairsWithRoute : CalOK j_S_exchange j_Routes_pairsWithRoute 0 := ⟨mok_Routes_pairsWithRoute, by decide, by decide, tw_67, ⟨by decide, by decide⟩, by decide +kernel⟩
theorem mok_Routes_renew : MOK j_Routes_renew := ⟨by decide +kernel, rfl, tw_1154⟩
theorem cal_S_exchange_Routes_renew : CalOK j_S_exchange j_Routes_renew 0 := ⟨mok_Routes_renew, by decide, by decide, tw_67, ⟨by decide, by decide⟩, by decide +kernel⟩
theorem cal_S_exchange_S_isWithin : CalOK j_S_exchange j_S_isWithin 3 := ⟨mok_S_isWithin, by decide, by decide, tw_61, ⟨by decide, by decide⟩, by decide +kernel⟩
theorem cal_S_hears_Land_canHear : CalOK j_S_hears j_Land_canHear 2 := ⟨mok_Land_canHear, by decide, by decide, tw_62, ⟨by decide, by decide⟩, by decide +kernel⟩
theorem mok_S_checkPair : MOK j_S_checkPair := ⟨by decide +kernel, rfl, tw_932⟩
theorem cal_S_hears_S_checkPair : CalOK j_S_hears j_S_checkPair 2 := ⟨mok_S_checkPair, by decide, by decide, tw_61, ⟨by decide, by decide⟩, by decide +kernel⟩
theorem mok_FrameQueue_at : MOK j_FrameQueue_at := ⟨by decide +kernel, rfl, tw_924⟩
theorem cal_S_inQueue_FrameQueue_at : CalOK j_S_inQueue j_FrameQueue_at 1 := ⟨mok_FrameQueue_at, by decide, by decide, tw_64, ⟨by decide, by decide⟩, by decide +kernel⟩
theorem cal_S_inQueue_S_checkNode : CalOK j_S_inQueue j_S_checkNode 1 := ⟨mok_S_checkNode, by decide, by decide, tw_61, ⟨by decide, by decide⟩, by decide +kernel⟩
theorem cal_S_inQueue_S_isWithin : CalOK j_S_inQueue j_S_isWithin 3 := ⟨mok_S_isWithin, by decide, by decide, tw_61, ⟨by decide, by decide⟩, by decide +kernel⟩
theorem mok_Land_init : MOK j_Land_init := ⟨by decide +kernel, rfl, tw_109⟩
theorem cal_S_init_Land_init : CalOK j_S_init j_Land_init 0 := ⟨mok_Land_init, by decide, by decide, tw_62, ⟨by decide, by decide⟩, by decide +kernel⟩
theorem mok_Market_init : MOK j_Market_init := ⟨by decide +kernel, rfl, tw_344⟩
theorem cal_S_init_Market_init : CalOK j_S_init j_Market_init 0 := ⟨mok_Market_init, by decide, by decide, tw_69, ⟨by decide, by decide⟩, by decide +kernel⟩
theorem mok_Routes_init : MOK j_Routes_init := ⟨by decide +kernel, rfl, tw_283⟩
theorem cal_S_init_Routes_init : CalOK j_S_init j_Routes_init 1 := ⟨mok_Routes_init, by decide, by decide, tw_67, ⟨by decide, by decide⟩, by decide +kernel⟩
theorem mok_Traffic_init : MOK j_Traffic_init := ⟨by decide +kernel, rfl, tw_311⟩
theorem cal_S_init_Traffic_init : CalOK j_S_init j_Traffic_init 2 := ⟨mok_Traffic_init, by decide, by decide, tw_68, ⟨by decide, by decide⟩, by decide +kernel⟩
theorem cal_S_isPlace_S_isWithin : CalOK j_S_isPlace j_S_isWithin 3 := ⟨mok_S_isWithin, by decide, by decide, tw_61, ⟨by decide, by decide⟩, by decide +kernel⟩
theorem cal_S_isReach_S_isWithin : CalOK j_S_isReach j_S_isWithin 3 := ⟨mok_S_isWithin, by decide, by decide, tw_61, ⟨by decide, by decide⟩, by decide +kernel⟩
theorem mok_Market_nobodyOverpays : MOK j_Market_nobodyOverpays := ⟨by decide +kernel, rfl, tw_823⟩
theorem cal_S_isSound_Market_nobodyOverpays : CalOK j_S_isSound j_Market_nobodyOverpays 0 := ⟨mok_Market_nobodyOverpays, by decide, by decide, tw_69, ⟨by decide, by decide⟩, by decide +kernel⟩
theorem mok_Node_isInOrder : MOK j_Node_isInOrder := ⟨by decide +kernel, rfl, tw_796⟩
theorem cal_S_isSound_Node_isInOrder : CalOK j_S_isSound j_Node_isInOrder 0 := ⟨mok_Node_isInOrder, by decide, by decide, tw_63, ⟨by decide, by decide⟩, by decide +kernel⟩
theorem mok_NumberSet_size : MOK j_NumberSet_size := ⟨by decide +kernel, rfl, tw_812⟩
theorem cal_S_isSound_NumberSet_size : CalOK j_S_isSound j_NumberSet_size 0 := ⟨mok_NumberSet_size, by decide, by decide, tw_66, ⟨by decide, by decide⟩, by decide +kernel⟩
theorem mok_Routes_areInOrder : MOK j_Routes_areInOrder := ⟨by decide +kernel, rfl, tw_803⟩
theorem cal_S_isSound_Routes_areInOrder : CalOK j_S_isSound j_Routes_areInOrder 1 := ⟨mok_Routes_areInOrder, by decide, by decide, tw_67, ⟨by decide, by decide⟩, by decide +kernel⟩
theorem cal_S_isSound_S_fairness : CalOK j_S_isSound j_S_fairness 0 := ⟨mok_S_fairness, by decide, by decide, tw_61, ⟨by decide, by decide⟩, by decide +kernel⟩
theorem cal_S_mixNode_S_inQueue : CalOK j_S_mixNode j_S_inQueue 3 := ⟨mok_S_inQueue, by decide, by decide, tw_61, ⟨by decide, by decide⟩, by decide +kernel⟩
theorem cal_S_mixNode_S_mix : CalOK j_S_mixNode j_S_mix 2 := ⟨mok_S_mix, by decide, by decide, tw_61, ⟨by decide, by decide⟩, by decide +kernel⟩
theorem cal_S_mixNode_S_ofNode : CalOK j_S_mixNode j_S_ofNode 2 := ⟨mok_S_ofNode, by decide, by decide, tw_61, ⟨by decide, by decide⟩, by decide +kernel⟩
theorem cal_S_mixNode_S_route : CalOK j_S_mixNode j_S_route 3 := ⟨mok_S_route, by decide, by decide, tw_61, ⟨by decide, by decide⟩, by decide +kernel⟩
theorem cal_S_move_Integer_bitCount : CalOK j_S_move j_Integer_bitCount 1 := ⟨mok_Integer_bitCount, by decide, by decide, tw_87, ⟨by decide, by decide⟩, by decide +kernel⟩
theorem mok_Land_linkedWith : MOK j_Land_linkedWith := ⟨by decide +kernel, rfl, tw_904⟩
theorem cal_S_move_Land_linkedWith : CalOK j_S_move j_Land_linkedWith 1 := ⟨mok_Land_linkedWith, by decide, by decide, tw_62, ⟨by decide, by decide⟩, by decide +kernel⟩
theorem mok_Land_put : MOK j_Land_put := ⟨by decide +kernel, rfl, tw_1033⟩
theorem cal_S_move_Land_put : CalOK j_S_move j_Land_put 3 := ⟨mok_Land_put, by decide, by decide, tw_62, ⟨by decide, by decide⟩, by decide +kernel⟩
theorem cal_S_move_S_checkNode : CalOK j_S_move j_S_checkNode 1 := ⟨mok_S_checkNode, by decide, by decide, tw_61, ⟨by decide, by decide⟩, by decide +kernel⟩
theorem mok_S_checkSilent : MOK j_S_checkSilent := ⟨by decide +kernel, rfl, tw_1027⟩
theorem cal_S_move_S_checkSilent : CalOK j_S_move j_S_checkSilent 1 := ⟨mok_S_checkSilent, by decide, by decide, tw_61, ⟨by decide, by decide⟩, by decide +kernel⟩
theorem mok_S_isPlace : MOK j_S_isPlace := ⟨by decide +kernel, rfl, tw_978⟩
theorem cal_S_move_S_isPlace : CalOK j_S_move j_S_isPlace 2 := ⟨mok_S_isPlace, by decide, by decide, tw_61, ⟨by decide, by decide⟩, by decide +kernel⟩
theorem mok_Land_add : MOK j_Land_add := ⟨by decide +kernel, rfl, tw_1002⟩
theorem cal_S_node_Land_add : CalOK j_S_node j_Land_add 4 := ⟨mok_Land_add, by decide, by decide, tw_62, ⟨by decide, by decide⟩, by decide +kernel⟩
theorem cal_S_node_S_isPlace : CalOK j_S_node j_S_isPlace 2 := ⟨mok_S_isPlace, by decide, by decide, tw_61, ⟨by decide, by decide⟩, by decide +kernel⟩
theorem mok_S_isReach : MOK j_S_isReach := ⟨by decide +kernel, rfl, tw_981⟩
theorem cal_S_node_S_isReach : CalOK j_S_node j_S_isReach 1 := ⟨mok_S_isReach, by decide, by decide, tw_61, ⟨by decide, by decide⟩, by decide +kernel⟩
theorem mok_Land_isSuspect : MOK j_Land_isSuspect := ⟨by decide +kernel, rfl, tw_898⟩
theorem cal_S_ofNode_Land_isSuspect : CalOK j_S_ofNode j_Land_isSuspect 1 := ⟨mok_Land_isSuspect, by decide, by decide, tw_62, ⟨by decide, by decide⟩, by decide +kernel⟩
theorem cal_S_ofNode_Land_linkedWith : CalOK j_S_ofNode j_Land_linkedWith 1 := ⟨mok_Land_linkedWith, by decide, by decide, tw_62, ⟨by decide, by decide⟩, by decide +kernel⟩
theorem cal_S_ofNode_S_checkNode : CalOK j_S_ofNode j_S_checkNode 1 := ⟨mok_S_checkNode, by decide, by decide, tw_61, ⟨by decide, by decide⟩, by decide +kernel⟩
theorem cal_S_pass_S_isWithin : CalOK j_S_pass j_S_isWithin 3 := ⟨mok_S_isWithin, by decide, by decide, tw_61, ⟨by decide, by decide⟩, by decide +kernel⟩
theorem mok_Traffic_goBy : MOK j_Traffic_goBy := ⟨by decide +kernel, rfl, tw_1068⟩
theorem cal_S_pass_Traffic_goBy : CalOK j_S_pass j_Traffic_goBy 0 := ⟨mok_Traffic_goBy, by decide, by decide, tw_68, ⟨by decide, by decide⟩, by decide +kernel⟩
theorem mok_Routes_costOf : MOK j_Routes_costOf := ⟨by decide +kernel, rfl, tw_937⟩
theorem cal_S_route_Routes_costOf : CalOK j_S_route j_Routes_costOf 2 := ⟨mok_Routes_costOf, by decide, by decide, tw_67, ⟨by decide, by decide⟩, by decide +kernel⟩
theorem cal_S_route_Routes_hasCircle : CalOK j_S_route j_Routes_hasCircle 2 := ⟨mok_Routes_hasCircle, by decide, by decide, tw_67, ⟨by decide, by decide⟩, by decide +kernel⟩
theorem cal_S_route_Routes_nextOf : CalOK j_S_route j_Routes_nextOf 2 := ⟨mok_Routes_nextOf, by decide, by decide, tw_67, ⟨by decide, by decide⟩, by decide +kernel⟩
theorem mok_Routes_wayLength : MOK j_Routes_wayLength := ⟨by decide +kernel, rfl, tw_942⟩
theorem cal_S_route_Routes_wayLength : CalOK j_S_route j_Routes_wayLength 2 := ⟨mok_Routes_wayLength, by decide, by decide, tw_67, ⟨by decide, by decide⟩, by decide +kernel⟩
theorem cal_S_route_S_checkPair : CalOK j_S_route j_S_checkPair 2 := ⟨mok_S_checkPair, by decide, by decide, tw_61, ⟨by decide, by decide⟩, by decide +kernel⟩
theorem mok_Node_sign : MOK j_Node_sign := ⟨by decide +kernel, rfl, tw_464⟩
theorem cal_S_row_Node_sign : CalOK j_S_row j_Node_sign 0 := ⟨mok_Node_sign, by decide, by decide, tw_63, ⟨by decide, by decide⟩, by decide +kernel⟩
theorem cal_S_row_StringBuilder_append : CalOK j_S_row j_StringBuilder_append 1 := ⟨mok_StringBuilder_append, by decide, by decide, tw_92, ⟨by decide, by decide⟩, by decide +kernel⟩
theorem cal_S_row_StringBuilder_init : CalOK j_S_row j_StringBuilder_init 0 := ⟨mok_StringBuilder_init, by decide, by decide, tw_92, ⟨by decide, by decide⟩, by decide +kernel⟩
theorem cal_S_row_StringBuilder_toString : CalOK j_S_row j_StringBuilder_toString 0 := ⟨mok_StringBuilder_toString, by decide, by decide, tw_92, ⟨by decide, by decide⟩, by decide +kernel⟩
theorem mok_Market_sellAll : MOK j_Market_sellAll := ⟨by decide +kernel, rfl, tw_401⟩
theorem cal_S_sell_Market_sellAll : CalOK j_S_sell j_Market_sellAll 0 := ⟨mok_Market_sellAll, by decide, by decide, tw_69, ⟨by decide, by decide⟩, by decide +kernel⟩
theorem mok_FrameQueue_add : MOK j_FrameQueue_add := ⟨by decide +kernel, rfl, tw_1054⟩
theorem cal_S_send_FrameQueue_add : CalOK j_S_send j_FrameQueue_add 5 := ⟨mok_FrameQueue_add, by decide, by decide, tw_64, ⟨by decide, by decide⟩, by decide +kernel⟩
theorem cal_S_send_S_checkNode : CalOK j_S_send j_S_checkNode 1 := ⟨mok_S_checkNode, by decide, by decide, tw_61, ⟨by decide, by decide⟩, by decide +kernel⟩
theorem cal_S_send_S_isWithin : CalOK j_S_send j_S_isWithin 3 := ⟨mok_S_isWithin, by decide, by decide, tw_61, ⟨by decide, by decide⟩, by decide +kernel⟩
theorem cal_S_throughput_S_chanceOfOne : CalOK j_S_throughput j_S_chanceOfOne 2 := ⟨mok_S_chanceOfOne, by decide, by decide, tw_61, ⟨by decide, by decide⟩, by decide +kernel⟩
theorem cal_S_throughput_S_isWithin : CalOK j_S_throughput j_S_isWithin 3 := ⟨mok_S_isWithin, by decide, by decide, tw_61, ⟨by decide, by decide⟩, by decide +kernel⟩
theorem cal_S_tune_Land_adjust : CalOK j_S_tune j_Land_adjust 3 := ⟨mok_Land_adjust, by decide, by decide, tw_62, ⟨by decide, by decide⟩, by decide +kernel⟩
theorem cal_S_tune_S_checkNode : CalOK j_S_tune j_S_checkNode 1 := ⟨mok_S_checkNode, by decide, by decide, tw_61, ⟨by decide, by decide⟩, by decide +kernel⟩
theorem cal_S_tune_S_checkSilent : CalOK j_S_tune j_S_checkSilent 1 := ⟨mok_S_checkSilent, by decide, by decide, tw_61, ⟨by decide, by decide⟩, by decide +kernel⟩
theorem cal_S_tune_S_isReach : CalOK j_S_tune j_S_isReach 1 := ⟨mok_S_isReach, by decide, by decide, tw_61, ⟨by decide, by decide⟩, by decide +kernel⟩
theorem cal_S_would_Land_everyone : CalOK j_S_would j_Land_everyone 0 := ⟨mok_Land_everyone, by decide, by decide, tw_62, ⟨by decide, by decide⟩, by decide +kernel⟩
theorem mok_Land_gets : MOK j_Land_gets := ⟨by decide +kernel, rfl, tw_1105⟩
theorem cal_S_would_Land_gets : CalOK j_S_would j_Land_gets 3 := ⟨mok_Land_gets, by decide, by decide, tw_62, ⟨by decide, by decide⟩, by decide +kernel⟩
theorem cal_S_would_S_checkNode : CalOK j_S_would j_S_checkNode 1 := ⟨mok_S_checkNode, by decide, by decide, tw_61, ⟨by decide, by decide⟩, by decide +kernel⟩
theorem cal_S_would_S_isIn : CalOK j_S_would j_S_isIn 2 := ⟨mok_S_isIn, by decide, by decide, tw_61, ⟨by decide, by decide⟩, by decide +kernel⟩
theorem cal_S_would_S_isWithin : CalOK j_S_would j_S_isWithin 3 := ⟨mok_S_isWithin, by decide, by decide, tw_61, ⟨by decide, by decide⟩, by decide +kernel⟩
theorem mok_AbstractStringBuilder_append : MOK j_AbstractStringBuilder_append := ⟨by decide +kernel, rfl, tw_475⟩
theorem cal_StringBuilder_append_AbstractStringBuilder_append : CalOK j_StringBuilder_append j_AbstractStringBuilder_append 1 := ⟨mok_AbstractStringBuilder_append, by decide, by decide, tw_91, ⟨by decide, by decide⟩, by decide +kernel⟩
theorem mok_AbstractStringBuilder_init : MOK j_AbstractStringBuilder_init := ⟨by decide +kernel, rfl, tw_436⟩
theorem cal_StringBuilder_init_AbstractStringBuilder_init : CalOK j_StringBuilder_init j_AbstractStringBuilder_init 1 := ⟨mok_AbstractStringBuilder_init, by decide, by decide, tw_91, ⟨by decide, by decide⟩, by decide +kernel⟩
theorem mok_AbstractStringBuilder_length : MOK j_AbstractStringBuilder_length := ⟨by decide +kernel, rfl, tw_589⟩
theorem cal_StringBuilder_length_AbstractStringBuilder_length : CalOK j_StringBuilder_length j_AbstractStringBuilder_length 0 := ⟨mok_AbstractStringBuilder_length, by decide, by decide, tw_91, ⟨by decide, by decide⟩, by decide +kernel⟩
theorem mok_String_init_LjavalangStringBuilderV : MOK j_String_init_LjavalangStringBuilderV := ⟨by decide +kernel, rfl, tw_572⟩
theorem cal_StringBuilder_toString_String_init_LjavalangStringBuilderV : CalOK j_StringBuilder_toString j_String_init_LjavalangStringBuilderV 1 := ⟨mok_String_init_LjavalangStringBuilderV, by decide, by decide, tw_93, ⟨by decide, by decide⟩, by decide +kernel⟩
theorem mok_AbstractStringBuilder_getValue : MOK j_AbstractStringBuilder_getValue := ⟨by decide +kernel, rfl, tw_581⟩
theorem cal_String_init_LjavalangAbstractStringBuilderLjavalangVoidV_AbstractStringBuilder_getValue : CalOK j_String_init_LjavalangAbstractStringBuilderLjavalangVoidV j_AbstractStringBuilder_getValue 0 := ⟨mok_AbstractStringBuilder_getValue, by decide, by decide, tw_91, ⟨by decide, by decide⟩, by decide +kernel⟩
theorem cal_String_init_LjavalangAbstractStringBuilderLjavalangVoidV_AbstractStringBuilder_isLatin1 : CalOK j_String_init_LjavalangAbstractStringBuilderLjavalangVoidV j_AbstractStringBuilder_isLatin1 0 := ⟨mok_AbstractStringBuilder_isLatin1, by decide, by decide, tw_91, ⟨by decide, by decide⟩, by decide +kernel⟩
theorem mok_Arrays_copyOfRange : MOK j_Arrays_copyOfRange := ⟨by decide +kernel, rfl, tw_593⟩
theorem cal_String_init_LjavalangAbstractStringBuilderLjavalangVoidV_Arrays_copyOfRange : CalOK j_String_init_LjavalangAbstractStringBuilderLjavalangVoidV j_Arrays_copyOfRange 3 := ⟨mok_Arrays_copyOfRange, by decide, by decide, tw_83, ⟨by decide, by decide⟩, by decide +kernel⟩
theorem mok_StringBuilder_length : MOK j_StringBuilder_length := ⟨by decide +kernel, rfl, tw_587⟩
theorem cal_String_init_LjavalangAbstractStringBuilderLjavalangVoidV_StringBuilder_length : CalOK j_String_init_LjavalangAbstractStringBuilderLjavalangVoidV j_StringBuilder_length 0 := ⟨mok_StringBuilder_length, by decide, by decide, tw_92, ⟨by decide, by decide⟩, by decide +kernel⟩
theorem mok_String_init_LjavalangAbstractStringBuilderLjavalangVoidV : MOK j_String_init_LjavalangAbstractStringBuilderLjavalangVoidV := ⟨by decide +kernel, rfl, tw_575⟩
theorem cal_String_init_LjavalangStringBuilderV_String_init_LjavalangAbstractStringBuilderLjavalangVoidV : CalOK j_String_init_LjavalangStringBuilderV j_String_init_LjavalangAbstractStringBuilderLjavalangVoidV 2 := ⟨mok_String_init_LjavalangAbstractStringBuilderLjavalangVoidV, by decide, by decide, tw_93, ⟨by decide, by decide⟩, by decide +kernel⟩
theorem cal_Traffic_arrive_Land_isNode : CalOK j_Traffic_arrive j_Land_isNode 1 := ⟨mok_Land_isNode, by decide, by decide, tw_62, ⟨by decide, by decide⟩, by decide +kernel⟩
theorem cal_Traffic_arrive_NumberSet_has : CalOK j_Traffic_arrive j_NumberSet_has 1 := ⟨mok_NumberSet_has, by decide, by decide, tw_66, ⟨by decide, by decide⟩, by decide +kernel⟩
theorem mok_NumberSet_put : MOK j_NumberSet_put := ⟨by decide +kernel, rfl, tw_1125⟩
theorem cal_Traffic_arrive_NumberSet_put : CalOK j_Traffic_arrive j_NumberSet_put 1 := ⟨mok_NumberSet_put, by decide, by decide, tw_66, ⟨by decide, by decide⟩, by decide +kernel⟩
theorem mok_Node_finishFirst : MOK j_Node_finishFirst := ⟨by decide +kernel, rfl, tw_1088⟩
theorem cal_Traffic_dropFirst_Node_finishFirst : CalOK j_Traffic_dropFirst j_Node_finishFirst 0 := ⟨mok_Node_finishFirst, by decide, by decide, tw_63, ⟨by decide, by decide⟩, by decide +kernel⟩
theorem cal_Traffic_end_FrameQueue_at : CalOK j_Traffic_end j_FrameQueue_at 1 := ⟨mok_FrameQueue_at, by decide, by decide, tw_64, ⟨by decide, by decide⟩, by decide +kernel⟩
theorem cal_Traffic_end_Land_canHear : CalOK j_Traffic_end j_Land_canHear 2 := ⟨mok_Land_canHear, by decide, by decide, tw_62, ⟨by decide, by decide⟩, by decide +kernel⟩
theorem cal_Traffic_end_Land_isNode : CalOK j_Traffic_end j_Land_isNode 1 := ⟨mok_Land_isNode, by decide, by decide, tw_62, ⟨by decide, by decide⟩, by decide +kernel⟩
theorem cal_Traffic_end_Node_finishFirst : CalOK j_Traffic_end j_Node_finishFirst 0 := ⟨mok_Node_finishFirst, by decide, by decide, tw_63, ⟨by decide, by decide⟩, by decide +kernel⟩
theorem mok_Traffic_receive : MOK j_Traffic_receive := ⟨by decide +kernel, rfl, tw_1113⟩
theorem cal_Traffic_end_Traffic_receive : CalOK j_Traffic_end j_Traffic_receive 2 := ⟨mok_Traffic_receive, by decide, by decide, tw_68, ⟨by decide, by decide⟩, by decide +kernel⟩
theorem mok_Traffic_tryAgain : MOK j_Traffic_tryAgain := ⟨by decide +kernel, rfl, tw_1134⟩
theorem cal_Traffic_end_Traffic_tryAgain : CalOK j_Traffic_end j_Traffic_tryAgain 1 := ⟨mok_Traffic_tryAgain, by decide, by decide, tw_68, ⟨by decide, by decide⟩, by decide +kernel⟩
theorem mok_Land_hearsOneOf : MOK j_Land_hearsOneOf := ⟨by decide +kernel, rfl, tw_1074⟩
theorem cal_Traffic_goBy_Land_hearsOneOf : CalOK j_Traffic_goBy j_Land_hearsOneOf 2 := ⟨mok_Land_hearsOneOf, by decide, by decide, tw_62, ⟨by decide, by decide⟩, by decide +kernel⟩
theorem cal_Traffic_goBy_Node_isSending : CalOK j_Traffic_goBy j_Node_isSending 0 := ⟨mok_Node_isSending, by decide, by decide, tw_63, ⟨by decide, by decide⟩, by decide +kernel⟩
theorem cal_Traffic_goBy_S_isIn : CalOK j_Traffic_goBy j_S_isIn 2 := ⟨mok_S_isIn, by decide, by decide, tw_61, ⟨by decide, by decide⟩, by decide +kernel⟩
theorem mok_Traffic_end : MOK j_Traffic_end := ⟨by decide +kernel, rfl, tw_1109⟩
theorem cal_Traffic_goBy_Traffic_end : CalOK j_Traffic_goBy j_Traffic_end 1 := ⟨mok_Traffic_end, by decide, by decide, tw_68, ⟨by decide, by decide⟩, by decide +kernel⟩
theorem mok_Traffic_goOn : MOK j_Traffic_goOn := ⟨by decide +kernel, rfl, tw_1100⟩
theorem cal_Traffic_goBy_Traffic_goOn : CalOK j_Traffic_goBy j_Traffic_goOn 2 := ⟨mok_Traffic_goOn, by decide, by decide, tw_68, ⟨by decide, by decide⟩, by decide +kernel⟩
theorem cal_Traffic_goBy_Traffic_senders : CalOK j_Traffic_goBy j_Traffic_senders 0 := ⟨mok_Traffic_senders, by decide, by decide, tw_68, ⟨by decide, by decide⟩, by decide +kernel⟩
theorem mok_Traffic_takeTurn : MOK j_Traffic_takeTurn := ⟨by decide +kernel, rfl, tw_1078⟩
theorem cal_Traffic_goBy_Traffic_takeTurn : CalOK j_Traffic_goBy j_Traffic_takeTurn 1 := ⟨mok_Traffic_takeTurn, by decide, by decide, tw_68, ⟨by decide, by decide⟩, by decide +kernel⟩
theorem cal_Traffic_goOn_Land_gets : CalOK j_Traffic_goOn j_Land_gets 3 := ⟨mok_Land_gets, by decide, by decide, tw_62, ⟨by decide, by decide⟩, by decide +kernel⟩
theorem cal_Traffic_goOn_Land_isNode : CalOK j_Traffic_goOn j_Land_isNode 1 := ⟨mok_Land_isNode, by decide, by decide, tw_62, ⟨by decide, by decide⟩, by decide +kernel⟩
theorem cal_Traffic_pushCopy_FrameQueue_add : CalOK j_Traffic_pushCopy j_FrameQueue_add 5 := ⟨mok_FrameQueue_add, by decide, by decide, tw_64, ⟨by decide, by decide⟩, by decide +kernel⟩
theorem mok_Traffic_arrive : MOK j_Traffic_arrive := ⟨by decide +kernel, rfl, tw_1117⟩
theorem cal_Traffic_receive_Traffic_arrive : CalOK j_Traffic_receive j_Traffic_arrive 1 := ⟨mok_Traffic_arrive, by decide, by decide, tw_68, ⟨by decide, by decide⟩, by decide +kernel⟩
theorem mok_Traffic_pushCopy : MOK j_Traffic_pushCopy := ⟨by decide +kernel, rfl, tw_1128⟩
theorem cal_Traffic_receive_Traffic_pushCopy : CalOK j_Traffic_receive j_Traffic_pushCopy 2 := ⟨mok_Traffic_pushCopy, by decide, by decide, tw_68, ⟨by decide, by decide⟩, by decide +kernel⟩
theorem cal_Traffic_senders_Node_isSending : CalOK j_Traffic_senders j_Node_isSending 0 := ⟨mok_Node_isSending, by decide, by decide, tw_63, ⟨by decide, by decide⟩, by decide +kernel⟩
theorem cal_Traffic_takeTurn_FrameQueue_at : CalOK j_Traffic_takeTurn j_FrameQueue_at 1 := ⟨mok_FrameQueue_at, by decide, by decide, tw_64, ⟨by decide, by decide⟩, by decide +kernel⟩
theorem mok_Node_begin : MOK j_Node_begin := ⟨by decide +kernel, rfl, tw_1096⟩
theorem cal_Traffic_takeTurn_Node_begin : CalOK j_Traffic_takeTurn j_Node_begin 2 := ⟨mok_Node_begin, by decide, by decide, tw_63, ⟨by decide, by decide⟩, by decide +kernel⟩
theorem cal_Traffic_takeTurn_Routes_nextOf : CalOK j_Traffic_takeTurn j_Routes_nextOf 2 := ⟨mok_Routes_nextOf, by decide, by decide, tw_67, ⟨by decide, by decide⟩, by decide +kernel⟩
theorem mok_Traffic_dropFirst : MOK j_Traffic_dropFirst := ⟨by decide +kernel, rfl, tw_1084⟩
theorem cal_Traffic_takeTurn_Traffic_dropFirst : CalOK j_Traffic_takeTurn j_Traffic_dropFirst 1 := ⟨mok_Traffic_dropFirst, by decide, by decide, tw_68, ⟨by decide, by decide⟩, by decide +kernel⟩
theorem mok_Node_waitAgain : MOK j_Node_waitAgain := ⟨by decide +kernel, rfl, tw_1142⟩
theorem cal_Traffic_tryAgain_Node_waitAgain : CalOK j_Traffic_tryAgain j_Node_waitAgain 1 := ⟨mok_Node_waitAgain, by decide, by decide, tw_63, ⟨by decide, by decide⟩, by decide +kernel⟩
theorem mok_Traffic_draw : MOK j_Traffic_draw := ⟨by decide +kernel, rfl, tw_1138⟩
theorem cal_Traffic_tryAgain_Traffic_draw : CalOK j_Traffic_tryAgain j_Traffic_draw 1 := ⟨mok_Traffic_draw, by decide, by decide, tw_68, ⟨by decide, by decide⟩, by decide +kernel⟩
theorem cal_Traffic_tryAgain_Traffic_dropFirst : CalOK j_Traffic_tryAgain j_Traffic_dropFirst 1 := ⟨mok_Traffic_dropFirst, by decide, by decide, tw_68, ⟨by decide, by decide⟩, by decide +kernel⟩
theorem hs0 {j pc : Nat} (h1 : ∀ E, mHT j pc E = none) (h2 : mH j = []) : HS Gm (j := j) (pc := pc) := by
  intro E nm hE
  have e1 : Gm.2.2 j pc E = none := h1 E
  rw [e1, h2]
  intro x hx
  cases hx
theorem hs0_Law_node {pc : Nat} (h1 : ¬ (0 ≤ pc ∧ pc < 15)) : HS Gm (j := j_Law_node) (pc := pc) := by
  intro E nm hE
  have e1 : Gm.2.2 j_Law_node pc E = none := if_neg h1
  rw [e1]
  intro x hx
  have h3 : x.startPc = 0 ∧ x.endPc = 15 := by
    revert x
    decide
  unfold covers
  rw [h3.1, h3.2]
  simp only [Bool.and_eq_false_iff, decide_eq_false_iff_not]
  omega
theorem hs_Law_node {pc : Nat} (h1 : 0 ≤ pc) (h2 : pc < 15) : HS Gm (j := j_Law_node) (pc := pc) := by
  intro E nm hE
  have e1 : Gm.2.2 j_Law_node pc E = mHx_Law_node E := if_pos ⟨h1, h2⟩
  rw [e1]
  have hcov : ∀ x ∈ tableOf (mH j_Law_node), covers x pc = true := by
    intro x hx
    have h3 : x.startPc = 0 ∧ x.endPc = 15 := by
      revert x
      decide
    unfold covers
    rw [h3.1, h3.2]
    simp only [Bool.and_eq_true, decide_eq_true_eq]
    omega
  match E, hE with
  | 0, hE =>
    cases Option.some.inj hE
    refine fun _ => ⟨[], ⟨0, 15, 18, 19⟩, [⟨0, 15, 22, 21⟩], "java/lang/IllegalArgumentException", rfl, fun y hy => ?_, hcov _ (List.mem_of_getElem? (i := 0) rfl), by decide, tw_970, List.mem_of_getElem? (i := 1) rfl, by decide, Or.inr ⟨dL_node_18, rfl⟩⟩
    cases hy
  | 1, hE =>
    cases Option.some.inj hE
    refine fun _ => ⟨[⟨0, 15, 18, 19⟩], ⟨0, 15, 22, 21⟩, [], "java/lang/IllegalStateException", rfl, fun y hy => ?_, hcov _ (List.mem_of_getElem? (i := 1) rfl), by decide, tw_971, List.mem_of_getElem? (i := 3) rfl, by decide, Or.inr ⟨dL_node_22, rfl⟩⟩
    right
    rcases List.mem_cons.mp hy with rfl | hy
    · exact ⟨by decide, "java/lang/IllegalArgumentException", tw_970, List.mem_of_getElem? (i := 2) rfl⟩
    · cases hy
  | 2, _ => exact fun h0 => absurd rfl h0
  | n + 3, hE => simp [kEx] at hE
theorem hs0_Law_move {pc : Nat} (h1 : ¬ (0 ≤ pc ∧ pc < 13)) : HS Gm (j := j_Law_move) (pc := pc) := by
  intro E nm hE
  have e1 : Gm.2.2 j_Law_move pc E = none := if_neg h1
  rw [e1]
  intro x hx
  have h3 : x.startPc = 0 ∧ x.endPc = 13 := by
    revert x
    decide
  unfold covers
  rw [h3.1, h3.2]
  simp only [Bool.and_eq_false_iff, decide_eq_false_iff_not]
  omega
theorem hs_Law_move {pc : Nat} (h1 : 0 ≤ pc) (h2 : pc < 13) : HS Gm (j := j_Law_move) (pc := pc) := by
  intro E nm hE
  have e1 : Gm.2.2 j_Law_move pc E = mHx_Law_move E := if_pos ⟨h1, h2⟩
  rw [e1]
  have hcov : ∀ x ∈ tableOf (mH j_Law_move), covers x pc = true := by
    intro x hx
    have h3 : x.startPc = 0 ∧ x.endPc = 13 := by
      revert x
      decide
    unfold covers
    rw [h3.1, h3.2]
    simp only [Bool.and_eq_true, decide_eq_true_eq]
    omega
  match E, hE with
  | 0, hE =>
    cases Option.some.inj hE
    refine fun _ => ⟨[⟨0, 13, 16, 27⟩], ⟨0, 13, 20, 19⟩, [⟨0, 13, 24, 21⟩], "java/lang/IllegalArgumentException", rfl, fun y hy => ?_, hcov _ (List.mem_of_getElem? (i := 1) rfl), by decide, tw_970, List.mem_of_getElem? (i := 1) rfl, by decide, Or.inr ⟨dL_move_20, rfl⟩⟩
    right
    rcases List.mem_cons.mp hy with rfl | hy
    · exact ⟨by decide, "java/lang/IndexOutOfBoundsException", tw_1018, List.mem_of_getElem? (i := 1) rfl⟩
    · cases hy
  | 1, hE =>
    cases Option.some.inj hE
    refine fun _ => ⟨[⟨0, 13, 16, 27⟩, ⟨0, 13, 20, 19⟩], ⟨0, 13, 24, 21⟩, [], "java/lang/IllegalStateException", rfl, fun y hy => ?_, hcov _ (List.mem_of_getElem? (i := 2) rfl), by decide, tw_971, List.mem_of_getElem? (i := 3) rfl, by decide, Or.inr ⟨dL_move_24, rfl⟩⟩
    right
    rcases List.mem_cons.mp hy with rfl | hy
    · exact ⟨by decide, "java/lang/IndexOutOfBoundsException", tw_1018, List.mem_of_getElem? (i := 3) rfl⟩
    · skip
      rcases List.mem_cons.mp hy with rfl | hy
      · exact ⟨by decide, "java/lang/IllegalArgumentException", tw_970, List.mem_of_getElem? (i := 2) rfl⟩
      · cases hy
  | 2, hE =>
    cases Option.some.inj hE
    refine fun _ => ⟨[], ⟨0, 13, 16, 27⟩, [⟨0, 13, 20, 19⟩, ⟨0, 13, 24, 21⟩], "java/lang/IndexOutOfBoundsException", rfl, fun y hy => ?_, hcov _ (List.mem_of_getElem? (i := 0) rfl), by decide, tw_1018, List.mem_of_getElem? (i := 2) rfl, by decide, Or.inr ⟨dL_move_16, rfl⟩⟩
    cases hy
  | n + 3, hE => simp [kEx] at hE
theorem hs0_Law_tune {pc : Nat} (h1 : ¬ (0 ≤ pc ∧ pc < 13)) : HS Gm (j := j_Law_tune) (pc := pc) := by
  intro E nm hE
  have e1 : Gm.2.2 j_Law_tune pc E = none := if_neg h1
  rw [e1]
  intro x hx
  have h3 : x.startPc = 0 ∧ x.endPc = 13 := by
    revert x
    decide
  unfold covers
  rw [h3.1, h3.2]
  simp only [Bool.and_eq_false_iff, decide_eq_false_iff_not]
  omega
theorem hs_Law_tune {pc : Nat} (h1 : 0 ≤ pc) (h2 : pc < 13) : HS Gm (j := j_Law_tune) (pc := pc) := by
  intro E nm hE
  have e1 : Gm.2.2 j_Law_tune pc E = mHx_Law_tune E := if_pos ⟨h1, h2⟩
  rw [e1]
  have hcov : ∀ x ∈ tableOf (mH j_Law_tune), covers x pc = true := by
    intro x hx
    have h3 : x.startPc = 0 ∧ x.endPc = 13 := by
      revert x
      decide
    unfold covers
    rw [h3.1, h3.2]
    simp only [Bool.and_eq_true, decide_eq_true_eq]
    omega
  match E, hE with
  | 0, hE =>
    cases Option.some.inj hE
    refine fun _ => ⟨[⟨0, 13, 16, 27⟩], ⟨0, 13, 20, 19⟩, [⟨0, 13, 24, 21⟩], "java/lang/IllegalArgumentException", rfl, fun y hy => ?_, hcov _ (List.mem_of_getElem? (i := 1) rfl), by decide, tw_970, List.mem_of_getElem? (i := 1) rfl, by decide, Or.inr ⟨dL_tune_20, rfl⟩⟩
    right
    rcases List.mem_cons.mp hy with rfl | hy
    · exact ⟨by decide, "java/lang/IndexOutOfBoundsException", tw_1018, List.mem_of_getElem? (i := 1) rfl⟩
    · cases hy
  | 1, hE =>
    cases Option.some.inj hE
    refine fun _ => ⟨[⟨0, 13, 16, 27⟩, ⟨0, 13, 20, 19⟩], ⟨0, 13, 24, 21⟩, [], "java/lang/IllegalStateException", rfl, fun y hy => ?_, hcov _ (List.mem_of_getElem? (i := 2) rfl), by decide, tw_971, List.mem_of_getElem? (i := 3) rfl, by decide, Or.inr ⟨dL_tune_24, rfl⟩⟩
    right
    rcases List.mem_cons.mp hy with rfl | hy
    · exact ⟨by decide, "java/lang/IndexOutOfBoundsException", tw_1018, List.mem_of_getElem? (i := 3) rfl⟩
    · skip
      rcases List.mem_cons.mp hy with rfl | hy
      · exact ⟨by decide, "java/lang/IllegalArgumentException", tw_970, List.mem_of_getElem? (i := 2) rfl⟩
      · cases hy
  | 2, hE =>
    cases Option.some.inj hE
    refine fun _ => ⟨[], ⟨0, 13, 16, 27⟩, [⟨0, 13, 20, 19⟩, ⟨0, 13, 24, 21⟩], "java/lang/IndexOutOfBoundsException", rfl, fun y hy => ?_, hcov _ (List.mem_of_getElem? (i := 0) rfl), by decide, tw_1018, List.mem_of_getElem? (i := 2) rfl, by decide, Or.inr ⟨dL_tune_16, rfl⟩⟩
    cases hy
  | n + 3, hE => simp [kEx] at hE
theorem hs0_Law_send {pc : Nat} (h1 : ¬ (0 ≤ pc ∧ pc < 13)) : HS Gm (j := j_Law_send) (pc := pc) := by
  intro E nm hE
  have e1 : Gm.2.2 j_Law_send pc E = none := if_neg h1
  rw [e1]
  intro x hx
  have h3 : x.startPc = 0 ∧ x.endPc = 13 := by
    revert x
    decide
  unfold covers
  rw [h3.1, h3.2]
  simp only [Bool.and_eq_false_iff, decide_eq_false_iff_not]
  omega
theorem hs_Law_send {pc : Nat} (h1 : 0 ≤ pc) (h2 : pc < 13) : HS Gm (j := j_Law_send) (pc := pc) := by
  intro E nm hE
  have e1 : Gm.2.2 j_Law_send pc E = mHx_Law_send E := if_pos ⟨h1, h2⟩
  rw [e1]
  have hcov : ∀ x ∈ tableOf (mH j_Law_send), covers x pc = true := by
    intro x hx
    have h3 : x.startPc = 0 ∧ x.endPc = 13 := by
      revert x
      decide
    unfold covers
    rw [h3.1, h3.2]
    simp only [Bool.and_eq_true, decide_eq_true_eq]
    omega
  match E, hE with
  | 0, hE =>
    cases Option.some.inj hE
    refine fun _ => ⟨[⟨0, 13, 16, 27⟩], ⟨0, 13, 20, 19⟩, [⟨0, 13, 24, 21⟩], "java/lang/IllegalArgumentException", rfl, fun y hy => ?_, hcov _ (List.mem_of_getElem? (i := 1) rfl), by decide, tw_970, List.mem_of_getElem? (i := 1) rfl, by decide, Or.inr ⟨dL_send_20, rfl⟩⟩
    right
    rcases List.mem_cons.mp hy with rfl | hy
    · exact ⟨by decide, "java/lang/IndexOutOfBoundsException", tw_1018, List.mem_of_getElem? (i := 1) rfl⟩
    · cases hy
  | 1, hE =>
    cases Option.some.inj hE
    refine fun _ => ⟨[⟨0, 13, 16, 27⟩, ⟨0, 13, 20, 19⟩], ⟨0, 13, 24, 21⟩, [], "java/lang/IllegalStateException", rfl, fun y hy => ?_, hcov _ (List.mem_of_getElem? (i := 2) rfl), by decide, tw_971, List.mem_of_getElem? (i := 3) rfl, by decide, Or.inr ⟨dL_send_24, rfl⟩⟩
    right
    rcases List.mem_cons.mp hy with rfl | hy
    · exact ⟨by decide, "java/lang/IndexOutOfBoundsException", tw_1018, List.mem_of_getElem? (i := 3) rfl⟩
    · skip
      rcases List.mem_cons.mp hy with rfl | hy
      · exact ⟨by decide, "java/lang/IllegalArgumentException", tw_970, List.mem_of_getElem? (i := 2) rfl⟩
      · cases hy
  | 2, hE =>
    cases Option.some.inj hE
    refine fun _ => ⟨[], ⟨0, 13, 16, 27⟩, [⟨0, 13, 20, 19⟩, ⟨0, 13, 24, 21⟩], "java/lang/IndexOutOfBoundsException", rfl, fun y hy => ?_, hcov _ (List.mem_of_getElem? (i := 0) rfl), by decide, tw_1018, List.mem_of_getElem? (i := 2) rfl, by decide, Or.inr ⟨dL_send_16, rfl⟩⟩
    cases hy
  | n + 3, hE => simp [kEx] at hE
theorem hs0_Law_pass {pc : Nat} (h1 : ¬ (0 ≤ pc ∧ pc < 10)) : HS Gm (j := j_Law_pass) (pc := pc) := by
  intro E nm hE
  have e1 : Gm.2.2 j_Law_pass pc E = none := if_neg h1
  rw [e1]
  intro x hx
  have h3 : x.startPc = 0 ∧ x.endPc = 10 := by
    revert x
    decide
  unfold covers
  rw [h3.1, h3.2]
  simp only [Bool.and_eq_false_iff, decide_eq_false_iff_not]
  omega
theorem hs_Law_pass {pc : Nat} (h1 : 0 ≤ pc) (h2 : pc < 10) : HS Gm (j := j_Law_pass) (pc := pc) := by
  intro E nm hE
  have e1 : Gm.2.2 j_Law_pass pc E = mHx_Law_pass E := if_pos ⟨h1, h2⟩
  rw [e1]
  have hcov : ∀ x ∈ tableOf (mH j_Law_pass), covers x pc = true := by
    intro x hx
    have h3 : x.startPc = 0 ∧ x.endPc = 10 := by
      revert x
      decide
    unfold covers
    rw [h3.1, h3.2]
    simp only [Bool.and_eq_true, decide_eq_true_eq]
    omega
  match E, hE with
  | 0, hE =>
    cases Option.some.inj hE
    refine fun _ => ⟨[], ⟨0, 10, 13, 19⟩, [⟨0, 10, 16, 21⟩], "java/lang/IllegalArgumentException", rfl, fun y hy => ?_, hcov _ (List.mem_of_getElem? (i := 0) rfl), by decide, tw_970, List.mem_of_getElem? (i := 1) rfl, by decide, Or.inl ⟨3, rfl, dL_pass_13, rfl⟩⟩
    cases hy
  | 1, hE =>
    cases Option.some.inj hE
    refine fun _ => ⟨[⟨0, 10, 13, 19⟩], ⟨0, 10, 16, 21⟩, [], "java/lang/IllegalStateException", rfl, fun y hy => ?_, hcov _ (List.mem_of_getElem? (i := 1) rfl), by decide, tw_971, List.mem_of_getElem? (i := 3) rfl, by decide, Or.inl ⟨3, rfl, dL_pass_16, rfl⟩⟩
    right
    rcases List.mem_cons.mp hy with rfl | hy
    · exact ⟨by decide, "java/lang/IllegalArgumentException", tw_970, List.mem_of_getElem? (i := 2) rfl⟩
    · cases hy
  | 2, _ => exact fun h0 => absurd rfl h0
  | n + 3, hE => simp [kEx] at hE
theorem hs0_Law_exchange {pc : Nat} (h1 : ¬ (0 ≤ pc ∧ pc < 10)) : HS Gm (j := j_Law_exchange) (pc := pc) := by
  intro E nm hE
  have e1 : Gm.2.2 j_Law_exchange pc E = none := if_neg h1
  rw [e1]
  intro x hx
  have h3 : x.startPc = 0 ∧ x.endPc = 10 := by
    revert x
    decide
  unfold covers
  rw [h3.1, h3.2]
  simp only [Bool.and_eq_false_iff, decide_eq_false_iff_not]
  omega
theorem hs_Law_exchange {pc : Nat} (h1 : 0 ≤ pc) (h2 : pc < 10) : HS Gm (j := j_Law_exchange) (pc := pc) := by
  intro E nm hE
  have e1 : Gm.2.2 j_Law_exchange pc E = mHx_Law_exchange E := if_pos ⟨h1, h2⟩
  rw [e1]
  have hcov : ∀ x ∈ tableOf (mH j_Law_exchange), covers x pc = true := by
    intro x hx
    have h3 : x.startPc = 0 ∧ x.endPc = 10 := by
      revert x
      decide
    unfold covers
    rw [h3.1, h3.2]
    simp only [Bool.and_eq_true, decide_eq_true_eq]
    omega
  match E, hE with
  | 0, hE =>
    cases Option.some.inj hE
    refine fun _ => ⟨[], ⟨0, 10, 13, 19⟩, [], "java/lang/IllegalArgumentException", rfl, fun y hy => ?_, hcov _ (List.mem_of_getElem? (i := 0) rfl), by decide, tw_970, List.mem_of_getElem? (i := 1) rfl, by decide, Or.inl ⟨3, rfl, dL_exchange_13, rfl⟩⟩
    cases hy
  | 1, _ => exact fun h0 => absurd rfl h0
  | 2, _ => exact fun h0 => absurd rfl h0
  | n + 3, hE => simp [kEx] at hE
theorem hs0_Law_bid {pc : Nat} (h1 : ¬ (0 ≤ pc ∧ pc < 13)) : HS Gm (j := j_Law_bid) (pc := pc) := by
  intro E nm hE
  have e1 : Gm.2.2 j_Law_bid pc E = none := if_neg h1
  rw [e1]
  intro x hx
  have h3 : x.startPc = 0 ∧ x.endPc = 13 := by
    revert x
    decide
  unfold covers
  rw [h3.1, h3.2]
  simp only [Bool.and_eq_false_iff, decide_eq_false_iff_not]
  omega
theorem hs_Law_bid {pc : Nat} (h1 : 0 ≤ pc) (h2 : pc < 13) : HS Gm (j := j_Law_bid) (pc := pc) := by
  intro E nm hE
  have e1 : Gm.2.2 j_Law_bid pc E = mHx_Law_bid E := if_pos ⟨h1, h2⟩
  rw [e1]
  have hcov : ∀ x ∈ tableOf (mH j_Law_bid), covers x pc = true := by
    intro x hx
    have h3 : x.startPc = 0 ∧ x.endPc = 13 := by
      revert x
      decide
    unfold covers
    rw [h3.1, h3.2]
    simp only [Bool.and_eq_true, decide_eq_true_eq]
    omega
  match E, hE with
  | 0, hE =>
    cases Option.some.inj hE
    refine fun _ => ⟨[], ⟨0, 13, 16, 19⟩, [⟨0, 13, 20, 21⟩], "java/lang/IllegalArgumentException", rfl, fun y hy => ?_, hcov _ (List.mem_of_getElem? (i := 0) rfl), by decide, tw_970, List.mem_of_getElem? (i := 1) rfl, by decide, Or.inr ⟨dL_bid_16, rfl⟩⟩
    cases hy
  | 1, hE =>
    cases Option.some.inj hE
    refine fun _ => ⟨[⟨0, 13, 16, 19⟩], ⟨0, 13, 20, 21⟩, [], "java/lang/IllegalStateException", rfl, fun y hy => ?_, hcov _ (List.mem_of_getElem? (i := 1) rfl), by decide, tw_971, List.mem_of_getElem? (i := 3) rfl, by decide, Or.inr ⟨dL_bid_20, rfl⟩⟩
    right
    rcases List.mem_cons.mp hy with rfl | hy
    · exact ⟨by decide, "java/lang/IllegalArgumentException", tw_970, List.mem_of_getElem? (i := 2) rfl⟩
    · cases hy
  | 2, _ => exact fun h0 => absurd rfl h0
  | n + 3, hE => simp [kEx] at hE
theorem hs0_Law_hears {pc : Nat} (h1 : ¬ (0 ≤ pc ∧ pc < 18)) : HS Gm (j := j_Law_hears) (pc := pc) := by
  intro E nm hE
  have e1 : Gm.2.2 j_Law_hears pc E = none := if_neg h1
  rw [e1]
  intro x hx
  have h3 : x.startPc = 0 ∧ x.endPc = 18 := by
    revert x
    decide
  unfold covers
  rw [h3.1, h3.2]
  simp only [Bool.and_eq_false_iff, decide_eq_false_iff_not]
  omega
theorem hs_Law_hears {pc : Nat} (h1 : 0 ≤ pc) (h2 : pc < 18) : HS Gm (j := j_Law_hears) (pc := pc) := by
  intro E nm hE
  have e1 : Gm.2.2 j_Law_hears pc E = mHx_Law_hears E := if_pos ⟨h1, h2⟩
  rw [e1]
  have hcov : ∀ x ∈ tableOf (mH j_Law_hears), covers x pc = true := by
    intro x hx
    have h3 : x.startPc = 0 ∧ x.endPc = 18 := by
      revert x
      decide
    unfold covers
    rw [h3.1, h3.2]
    simp only [Bool.and_eq_true, decide_eq_true_eq]
    omega
  match E, hE with
  | 0, hE =>
    cases Option.some.inj hE
    refine fun _ => ⟨[⟨0, 18, 21, 27⟩], ⟨0, 18, 25, 19⟩, [], "java/lang/IllegalArgumentException", rfl, fun y hy => ?_, hcov _ (List.mem_of_getElem? (i := 1) rfl), by decide, tw_970, List.mem_of_getElem? (i := 1) rfl, by decide, Or.inr ⟨dL_hears_25, rfl⟩⟩
    right
    rcases List.mem_cons.mp hy with rfl | hy
    · exact ⟨by decide, "java/lang/IndexOutOfBoundsException", tw_1018, List.mem_of_getElem? (i := 1) rfl⟩
    · cases hy
  | 1, _ => exact fun h0 => absurd rfl h0
  | 2, hE =>
    cases Option.some.inj hE
    refine fun _ => ⟨[], ⟨0, 18, 21, 27⟩, [⟨0, 18, 25, 19⟩], "java/lang/IndexOutOfBoundsException", rfl, fun y hy => ?_, hcov _ (List.mem_of_getElem? (i := 0) rfl), by decide, tw_1018, List.mem_of_getElem? (i := 2) rfl, by decide, Or.inr ⟨dL_hears_21, rfl⟩⟩
    cases hy
  | n + 3, hE => simp [kEx] at hE
theorem hs0_Law_ofNode {pc : Nat} (h1 : ¬ (0 ≤ pc ∧ pc < 11)) : HS Gm (j := j_Law_ofNode) (pc := pc) := by
  intro E nm hE
  have e1 : Gm.2.2 j_Law_ofNode pc E = none := if_neg h1
  rw [e1]
  intro x hx
  have h3 : x.startPc = 0 ∧ x.endPc = 11 := by
    revert x
    decide
  unfold covers
  rw [h3.1, h3.2]
  simp only [Bool.and_eq_false_iff, decide_eq_false_iff_not]
  omega
theorem hs_Law_ofNode {pc : Nat} (h1 : 0 ≤ pc) (h2 : pc < 11) : HS Gm (j := j_Law_ofNode) (pc := pc) := by
  intro E nm hE
  have e1 : Gm.2.2 j_Law_ofNode pc E = mHx_Law_ofNode E := if_pos ⟨h1, h2⟩
  rw [e1]
  have hcov : ∀ x ∈ tableOf (mH j_Law_ofNode), covers x pc = true := by
    intro x hx
    have h3 : x.startPc = 0 ∧ x.endPc = 11 := by
      revert x
      decide
    unfold covers
    rw [h3.1, h3.2]
    simp only [Bool.and_eq_true, decide_eq_true_eq]
    omega
  match E, hE with
  | 0, hE =>
    cases Option.some.inj hE
    refine fun _ => ⟨[⟨0, 11, 14, 27⟩], ⟨0, 11, 18, 19⟩, [], "java/lang/IllegalArgumentException", rfl, fun y hy => ?_, hcov _ (List.mem_of_getElem? (i := 1) rfl), by decide, tw_970, List.mem_of_getElem? (i := 1) rfl, by decide, Or.inr ⟨dL_ofNode_18, rfl⟩⟩
    right
    rcases List.mem_cons.mp hy with rfl | hy
    · exact ⟨by decide, "java/lang/IndexOutOfBoundsException", tw_1018, List.mem_of_getElem? (i := 1) rfl⟩
    · cases hy
  | 1, _ => exact fun h0 => absurd rfl h0
  | 2, hE =>
    cases Option.some.inj hE
    refine fun _ => ⟨[], ⟨0, 11, 14, 27⟩, [⟨0, 11, 18, 19⟩], "java/lang/IndexOutOfBoundsException", rfl, fun y hy => ?_, hcov _ (List.mem_of_getElem? (i := 0) rfl), by decide, tw_1018, List.mem_of_getElem? (i := 2) rfl, by decide, Or.inr ⟨dL_ofNode_14, rfl⟩⟩
    cases hy
  | n + 3, hE => simp [kEx] at hE
theorem hs0_Law_inQueue {pc : Nat} (h1 : ¬ (0 ≤ pc ∧ pc < 13)) : HS Gm (j := j_Law_inQueue) (pc := pc) := by
  intro E nm hE
  have e1 : Gm.2.2 j_Law_inQueue pc E = none := if_neg h1
  rw [e1]
  intro x hx
  have h3 : x.startPc = 0 ∧ x.endPc = 13 := by
    revert x
    decide
  unfold covers
  rw [h3.1, h3.2]
  simp only [Bool.and_eq_false_iff, decide_eq_false_iff_not]
  omega
theorem hs_Law_inQueue {pc : Nat} (h1 : 0 ≤ pc) (h2 : pc < 13) : HS Gm (j := j_Law_inQueue) (pc := pc) := by
  intro E nm hE
  have e1 : Gm.2.2 j_Law_inQueue pc E = mHx_Law_inQueue E := if_pos ⟨h1, h2⟩
  rw [e1]
  have hcov : ∀ x ∈ tableOf (mH j_Law_inQueue), covers x pc = true := by
    intro x hx
    have h3 : x.startPc = 0 ∧ x.endPc = 13 := by
      revert x
      decide
    unfold covers
    rw [h3.1, h3.2]
    simp only [Bool.and_eq_true, decide_eq_true_eq]
    omega
  match E, hE with
  | 0, hE =>
    cases Option.some.inj hE
    refine fun _ => ⟨[⟨0, 13, 16, 27⟩], ⟨0, 13, 20, 19⟩, [], "java/lang/IllegalArgumentException", rfl, fun y hy => ?_, hcov _ (List.mem_of_getElem? (i := 1) rfl), by decide, tw_970, List.mem_of_getElem? (i := 1) rfl, by decide, Or.inr ⟨dL_inQueue_20, rfl⟩⟩
    right
    rcases List.mem_cons.mp hy with rfl | hy
    · exact ⟨by decide, "java/lang/IndexOutOfBoundsException", tw_1018, List.mem_of_getElem? (i := 1) rfl⟩
    · cases hy
  | 1, _ => exact fun h0 => absurd rfl h0
  | 2, hE =>
    cases Option.some.inj hE
    refine fun _ => ⟨[], ⟨0, 13, 16, 27⟩, [⟨0, 13, 20, 19⟩], "java/lang/IndexOutOfBoundsException", rfl, fun y hy => ?_, hcov _ (List.mem_of_getElem? (i := 0) rfl), by decide, tw_1018, List.mem_of_getElem? (i := 2) rfl, by decide, Or.inr ⟨dL_inQueue_16, rfl⟩⟩
    cases hy
  | n + 3, hE => simp [kEx] at hE
theorem hs0_Law_route {pc : Nat} (h1 : ¬ (0 ≤ pc ∧ pc < 13)) : HS Gm (j := j_Law_route) (pc := pc) := by
  intro E nm hE
  have e1 : Gm.2.2 j_Law_route pc E = none := if_neg h1
  rw [e1]
  intro x hx
  have h3 : x.startPc = 0 ∧ x.endPc = 13 := by
    revert x
    decide
  unfold covers
  rw [h3.1, h3.2]
  simp only [Bool.and_eq_false_iff, decide_eq_false_iff_not]
  omega
theorem hs_Law_route {pc : Nat} (h1 : 0 ≤ pc) (h2 : pc < 13) : HS Gm (j := j_Law_route) (pc := pc) := by
  intro E nm hE
  have e1 : Gm.2.2 j_Law_route pc E = mHx_Law_route E := if_pos ⟨h1, h2⟩
  rw [e1]
  have hcov : ∀ x ∈ tableOf (mH j_Law_route), covers x pc = true := by
    intro x hx
    have h3 : x.startPc = 0 ∧ x.endPc = 13 := by
      revert x
      decide
    unfold covers
    rw [h3.1, h3.2]
    simp only [Bool.and_eq_true, decide_eq_true_eq]
    omega
  match E, hE with
  | 0, hE =>
    cases Option.some.inj hE
    refine fun _ => ⟨[⟨0, 13, 16, 27⟩], ⟨0, 13, 20, 19⟩, [], "java/lang/IllegalArgumentException", rfl, fun y hy => ?_, hcov _ (List.mem_of_getElem? (i := 1) rfl), by decide, tw_970, List.mem_of_getElem? (i := 1) rfl, by decide, Or.inr ⟨dL_route_20, rfl⟩⟩
    right
    rcases List.mem_cons.mp hy with rfl | hy
    · exact ⟨by decide, "java/lang/IndexOutOfBoundsException", tw_1018, List.mem_of_getElem? (i := 1) rfl⟩
    · cases hy
  | 1, _ => exact fun h0 => absurd rfl h0
  | 2, hE =>
    cases Option.some.inj hE
    refine fun _ => ⟨[], ⟨0, 13, 16, 27⟩, [⟨0, 13, 20, 19⟩], "java/lang/IndexOutOfBoundsException", rfl, fun y hy => ?_, hcov _ (List.mem_of_getElem? (i := 0) rfl), by decide, tw_1018, List.mem_of_getElem? (i := 2) rfl, by decide, Or.inr ⟨dL_route_16, rfl⟩⟩
    cases hy
  | n + 3, hE => simp [kEx] at hE
theorem hs0_Law_air {pc : Nat} (h1 : ¬ (0 ≤ pc ∧ pc < 10)) : HS Gm (j := j_Law_air) (pc := pc) := by
  intro E nm hE
  have e1 : Gm.2.2 j_Law_air pc E = none := if_neg h1
  rw [e1]
  intro x hx
  have h3 : x.startPc = 0 ∧ x.endPc = 10 := by
    revert x
    decide
  unfold covers
  rw [h3.1, h3.2]
  simp only [Bool.and_eq_false_iff, decide_eq_false_iff_not]
  omega
theorem hs_Law_air {pc : Nat} (h1 : 0 ≤ pc) (h2 : pc < 10) : HS Gm (j := j_Law_air) (pc := pc) := by
  intro E nm hE
  have e1 : Gm.2.2 j_Law_air pc E = mHx_Law_air E := if_pos ⟨h1, h2⟩
  rw [e1]
  have hcov : ∀ x ∈ tableOf (mH j_Law_air), covers x pc = true := by
    intro x hx
    have h3 : x.startPc = 0 ∧ x.endPc = 10 := by
      revert x
      decide
    unfold covers
    rw [h3.1, h3.2]
    simp only [Bool.and_eq_true, decide_eq_true_eq]
    omega
  match E, hE with
  | 0, hE =>
    cases Option.some.inj hE
    refine fun _ => ⟨[], ⟨0, 10, 13, 19⟩, [], "java/lang/IllegalArgumentException", rfl, fun y hy => ?_, hcov _ (List.mem_of_getElem? (i := 0) rfl), by decide, tw_970, List.mem_of_getElem? (i := 1) rfl, by decide, Or.inl ⟨3, rfl, dL_air_13, rfl⟩⟩
    cases hy
  | 1, _ => exact fun h0 => absurd rfl h0
  | 2, _ => exact fun h0 => absurd rfl h0
  | n + 3, hE => simp [kEx] at hE
theorem hs0_Law_delivered {pc : Nat} (h1 : ¬ (0 ≤ pc ∧ pc < 18)) : HS Gm (j := j_Law_delivered) (pc := pc) := by
  intro E nm hE
  have e1 : Gm.2.2 j_Law_delivered pc E = none := if_neg h1
  rw [e1]
  intro x hx
  have h3 : x.startPc = 0 ∧ x.endPc = 18 := by
    revert x
    decide
  unfold covers
  rw [h3.1, h3.2]
  simp only [Bool.and_eq_false_iff, decide_eq_false_iff_not]
  omega
theorem hs_Law_delivered {pc : Nat} (h1 : 0 ≤ pc) (h2 : pc < 18) : HS Gm (j := j_Law_delivered) (pc := pc) := by
  intro E nm hE
  have e1 : Gm.2.2 j_Law_delivered pc E = mHx_Law_delivered E := if_pos ⟨h1, h2⟩
  rw [e1]
  have hcov : ∀ x ∈ tableOf (mH j_Law_delivered), covers x pc = true := by
    intro x hx
    have h3 : x.startPc = 0 ∧ x.endPc = 18 := by
      revert x
      decide
    unfold covers
    rw [h3.1, h3.2]
    simp only [Bool.and_eq_true, decide_eq_true_eq]
    omega
  match E, hE with
  | 0, _ => exact fun h0 => absurd rfl h0
  | 1, _ => exact fun h0 => absurd rfl h0
  | 2, hE =>
    cases Option.some.inj hE
    refine fun _ => ⟨[], ⟨0, 18, 21, 27⟩, [], "java/lang/IndexOutOfBoundsException", rfl, fun y hy => ?_, hcov _ (List.mem_of_getElem? (i := 0) rfl), by decide, tw_1018, List.mem_of_getElem? (i := 2) rfl, by decide, Or.inr ⟨dL_delivered_21, rfl⟩⟩
    cases hy
  | n + 3, hE => simp [kEx] at hE
theorem hs0_Law_would {pc : Nat} (h1 : ¬ (0 ≤ pc ∧ pc < 11)) : HS Gm (j := j_Law_would) (pc := pc) := by
  intro E nm hE
  have e1 : Gm.2.2 j_Law_would pc E = none := if_neg h1
  rw [e1]
  intro x hx
  have h3 : x.startPc = 0 ∧ x.endPc = 11 := by
    revert x
    decide
  unfold covers
  rw [h3.1, h3.2]
  simp only [Bool.and_eq_false_iff, decide_eq_false_iff_not]
  omega
theorem hs_Law_would {pc : Nat} (h1 : 0 ≤ pc) (h2 : pc < 11) : HS Gm (j := j_Law_would) (pc := pc) := by
  intro E nm hE
  have e1 : Gm.2.2 j_Law_would pc E = mHx_Law_would E := if_pos ⟨h1, h2⟩
  rw [e1]
  have hcov : ∀ x ∈ tableOf (mH j_Law_would), covers x pc = true := by
    intro x hx
    have h3 : x.startPc = 0 ∧ x.endPc = 11 := by
      revert x
      decide
    unfold covers
    rw [h3.1, h3.2]
    simp only [Bool.and_eq_true, decide_eq_true_eq]
    omega
  match E, hE with
  | 0, hE =>
    cases Option.some.inj hE
    refine fun _ => ⟨[⟨0, 11, 14, 27⟩], ⟨0, 11, 18, 19⟩, [], "java/lang/IllegalArgumentException", rfl, fun y hy => ?_, hcov _ (List.mem_of_getElem? (i := 1) rfl), by decide, tw_970, List.mem_of_getElem? (i := 1) rfl, by decide, Or.inr ⟨dL_would_18, rfl⟩⟩
    right
    rcases List.mem_cons.mp hy with rfl | hy
    · exact ⟨by decide, "java/lang/IndexOutOfBoundsException", tw_1018, List.mem_of_getElem? (i := 1) rfl⟩
    · cases hy
  | 1, _ => exact fun h0 => absurd rfl h0
  | 2, hE =>
    cases Option.some.inj hE
    refine fun _ => ⟨[], ⟨0, 11, 14, 27⟩, [⟨0, 11, 18, 19⟩], "java/lang/IndexOutOfBoundsException", rfl, fun y hy => ?_, hcov _ (List.mem_of_getElem? (i := 0) rfl), by decide, tw_1018, List.mem_of_getElem? (i := 2) rfl, by decide, Or.inr ⟨dL_would_14, rfl⟩⟩
    cases hy
  | n + 3, hE => simp [kEx] at hE
theorem hs0_Law_throughput {pc : Nat} (h1 : ¬ (0 ≤ pc ∧ pc < 10)) : HS Gm (j := j_Law_throughput) (pc := pc) := by
  intro E nm hE
  have e1 : Gm.2.2 j_Law_throughput pc E = none := if_neg h1
  rw [e1]
  intro x hx
  have h3 : x.startPc = 0 ∧ x.endPc = 10 := by
    revert x
    decide
  unfold covers
  rw [h3.1, h3.2]
  simp only [Bool.and_eq_false_iff, decide_eq_false_iff_not]
  omega
theorem hs_Law_throughput {pc : Nat} (h1 : 0 ≤ pc) (h2 : pc < 10) : HS Gm (j := j_Law_throughput) (pc := pc) := by
  intro E nm hE
  have e1 : Gm.2.2 j_Law_throughput pc E = mHx_Law_throughput E := if_pos ⟨h1, h2⟩
  rw [e1]
  have hcov : ∀ x ∈ tableOf (mH j_Law_throughput), covers x pc = true := by
    intro x hx
    have h3 : x.startPc = 0 ∧ x.endPc = 10 := by
      revert x
      decide
    unfold covers
    rw [h3.1, h3.2]
    simp only [Bool.and_eq_true, decide_eq_true_eq]
    omega
  match E, hE with
  | 0, hE =>
    cases Option.some.inj hE
    refine fun _ => ⟨[], ⟨0, 10, 13, 19⟩, [], "java/lang/IllegalArgumentException", rfl, fun y hy => ?_, hcov _ (List.mem_of_getElem? (i := 0) rfl), by decide, tw_970, List.mem_of_getElem? (i := 1) rfl, by decide, Or.inr ⟨dL_throughput_13, rfl⟩⟩
    cases hy
  | 1, _ => exact fun h0 => absurd rfl h0
  | 2, _ => exact fun h0 => absurd rfl h0
  | n + 3, hE => simp [kEx] at hE
theorem hs0_Law_bestChance {pc : Nat} (h1 : ¬ (0 ≤ pc ∧ pc < 10)) : HS Gm (j := j_Law_bestChance) (pc := pc) := by
  intro E nm hE
  have e1 : Gm.2.2 j_Law_bestChance pc E = none := if_neg h1
  rw [e1]
  intro x hx
  have h3 : x.startPc = 0 ∧ x.endPc = 10 := by
    revert x
    decide
  unfold covers
  rw [h3.1, h3.2]
  simp only [Bool.and_eq_false_iff, decide_eq_false_iff_not]
  omega
theorem hs_Law_bestChance {pc : Nat} (h1 : 0 ≤ pc) (h2 : pc < 10) : HS Gm (j := j_Law_bestChance) (pc := pc) := by
  intro E nm hE
  have e1 : Gm.2.2 j_Law_bestChance pc E = mHx_Law_bestChance E := if_pos ⟨h1, h2⟩
  rw [e1]
  have hcov : ∀ x ∈ tableOf (mH j_Law_bestChance), covers x pc = true := by
    intro x hx
    have h3 : x.startPc = 0 ∧ x.endPc = 10 := by
      revert x
      decide
    unfold covers
    rw [h3.1, h3.2]
    simp only [Bool.and_eq_true, decide_eq_true_eq]
    omega
  match E, hE with
  | 0, hE =>
    cases Option.some.inj hE
    refine fun _ => ⟨[], ⟨0, 10, 13, 19⟩, [], "java/lang/IllegalArgumentException", rfl, fun y hy => ?_, hcov _ (List.mem_of_getElem? (i := 0) rfl), by decide, tw_970, List.mem_of_getElem? (i := 1) rfl, by decide, Or.inl ⟨3, rfl, dL_bestChance_13, rfl⟩⟩
    cases hy
  | 1, _ => exact fun h0 => absurd rfl h0
  | 2, _ => exact fun h0 => absurd rfl h0
  | n + 3, hE => simp [kEx] at hE
theorem hs0_Law_auction {pc : Nat} (h1 : ¬ (0 ≤ pc ∧ pc < 10)) : HS Gm (j := j_Law_auction) (pc := pc) := by
  intro E nm hE
  have e1 : Gm.2.2 j_Law_auction pc E = none := if_neg h1
  rw [e1]
  intro x hx
  have h3 : x.startPc = 0 ∧ x.endPc = 10 := by
    revert x
    decide
  unfold covers
  rw [h3.1, h3.2]
  simp only [Bool.and_eq_false_iff, decide_eq_false_iff_not]
  omega
theorem hs_Law_auction {pc : Nat} (h1 : 0 ≤ pc) (h2 : pc < 10) : HS Gm (j := j_Law_auction) (pc := pc) := by
  intro E nm hE
  have e1 : Gm.2.2 j_Law_auction pc E = mHx_Law_auction E := if_pos ⟨h1, h2⟩
  rw [e1]
  have hcov : ∀ x ∈ tableOf (mH j_Law_auction), covers x pc = true := by
    intro x hx
    have h3 : x.startPc = 0 ∧ x.endPc = 10 := by
      revert x
      decide
    unfold covers
    rw [h3.1, h3.2]
    simp only [Bool.and_eq_true, decide_eq_true_eq]
    omega
  match E, hE with
  | 0, hE =>
    cases Option.some.inj hE
    refine fun _ => ⟨[], ⟨0, 10, 13, 19⟩, [], "java/lang/IllegalArgumentException", rfl, fun y hy => ?_, hcov _ (List.mem_of_getElem? (i := 0) rfl), by decide, tw_970, List.mem_of_getElem? (i := 1) rfl, by decide, Or.inl ⟨3, rfl, dL_auction_13, rfl⟩⟩
    cases hy
  | 1, _ => exact fun h0 => absurd rfl h0
  | 2, _ => exact fun h0 => absurd rfl h0
  | n + 3, hE => simp [kEx] at hE
