/-! the law's own code: its loop is gone through once, then left -/
theorem wl_0 : Cond.methodLink "SchemeElevenLaw" 90 ⟨"SchemeElevenModel", "held", "(I)I"⟩ ∈ zTw := zTw_of (zt_in_8 (List.mem_of_getElem? (i := 215) rfl)) rfl
theorem w_983 : Cond.instanceMethod ⟨"SchemeElevenModel", "held", "(I)I"⟩ ∈ zTw := zTw_of (zt_in_8 (List.mem_of_getElem? (i := 216) rfl)) rfl
theorem w_984 : Cond.selects "SchemeElevenModel" ⟨"SchemeElevenModel", "held", "(I)I"⟩ ⟨"SchemeElevenModel", "held", "(I)I"⟩ ∈ zTw := zTw_of (zt_in_8 (List.mem_of_getElem? (i := 217) rfl)) rfl
theorem w_982 : Cond.code ⟨"SchemeElevenModel", "held", "(I)I"⟩ prog_14_method_35_code 2 (some FieldType.int) ∈ zTw := zTw_of (zt_in_8 (List.mem_of_getElem? (i := 218) rfl)) rfl
theorem wl_4 : Cond.methodLink "SchemeElevenLaw" 87 ⟨"SchemeEleven", "held", "(I)I"⟩ ∈ zTw := zTw_of (zt_in_8 (List.mem_of_getElem? (i := 81) rfl)) rfl
theorem w_985 : Cond.code ⟨"SchemeEleven", "held", "(I)I"⟩ prog_1_method_19_code 2 (some FieldType.int) ∈ zTw := zTw_of (zt_in_8 (List.mem_of_getElem? (i := 84) rfl)) rfl
theorem w_986 : Cond.instanceMethod ⟨"SchemeEleven", "held", "(I)I"⟩ ∈ zTw := zTw_of (zt_in_8 (List.mem_of_getElem? (i := 82) rfl)) rfl
theorem w_987 : Cond.selects "SchemeEleven" ⟨"SchemeEleven", "held", "(I)I"⟩ ⟨"SchemeEleven", "held", "(I)I"⟩ ∈ zTw := zTw_of (zt_in_8 (List.mem_of_getElem? (i := 83) rfl)) rfl
theorem wl_8 : Cond.methodLink "SchemeElevenLaw" 86 ⟨"SchemeElevenModel", "peek", "(I)I"⟩ ∈ zTw := zTw_of (zt_in_8 (List.mem_of_getElem? (i := 211) rfl)) rfl
theorem w_990 : Cond.selects "SchemeElevenModel" ⟨"SchemeElevenModel", "peek", "(I)I"⟩ ⟨"SchemeElevenModel", "peek", "(I)I"⟩ ∈ zTw := zTw_of (zt_in_8 (List.mem_of_getElem? (i := 213) rfl)) rfl
theorem w_988 : Cond.code ⟨"SchemeElevenModel", "peek", "(I)I"⟩ prog_14_method_33_code 2 (some FieldType.int) ∈ zTw := zTw_of (zt_in_8 (List.mem_of_getElem? (i := 214) rfl)) rfl
theorem w_989 : Cond.instanceMethod ⟨"SchemeElevenModel", "peek", "(I)I"⟩ ∈ zTw := zTw_of (zt_in_8 (List.mem_of_getElem? (i := 212) rfl)) rfl
theorem wl_12 : Cond.methodLink "SchemeElevenLaw" 83 ⟨"SchemeEleven", "peek", "(I)I"⟩ ∈ zTw := zTw_of (zt_in_8 (List.mem_of_getElem? (i := 77) rfl)) rfl
theorem w_993 : Cond.selects "SchemeEleven" ⟨"SchemeEleven", "peek", "(I)I"⟩ ⟨"SchemeEleven", "peek", "(I)I"⟩ ∈ zTw := zTw_of (zt_in_8 (List.mem_of_getElem? (i := 79) rfl)) rfl
theorem w_991 : Cond.code ⟨"SchemeEleven", "peek", "(I)I"⟩ prog_1_method_18_code 2 (some FieldType.int) ∈ zTw := zTw_of (zt_in_8 (List.mem_of_getElem? (i := 80) rfl)) rfl
theorem w_992 : Cond.instanceMethod ⟨"SchemeEleven", "peek", "(I)I"⟩ ∈ zTw := zTw_of (zt_in_8 (List.mem_of_getElem? (i := 78) rfl)) rfl
theorem wl_16 : Cond.methodLink "SchemeElevenLaw" 82 ⟨"SchemeElevenModel", "go", "(I)I"⟩ ∈ zTw := zTw_of (zt_in_8 (List.mem_of_getElem? (i := 100) rfl)) rfl
theorem w_996 : Cond.selects "SchemeElevenModel" ⟨"SchemeElevenModel", "go", "(I)I"⟩ ⟨"SchemeElevenModel", "go", "(I)I"⟩ ∈ zTw := zTw_of (zt_in_8 (List.mem_of_getElem? (i := 102) rfl)) rfl
theorem w_994 : Cond.code ⟨"SchemeElevenModel", "go", "(I)I"⟩ prog_14_method_32_code 3 (some FieldType.int) ∈ zTw := zTw_of (zt_in_8 (List.mem_of_getElem? (i := 103) rfl)) rfl
theorem w_995 : Cond.instanceMethod ⟨"SchemeElevenModel", "go", "(I)I"⟩ ∈ zTw := zTw_of (zt_in_8 (List.mem_of_getElem? (i := 101) rfl)) rfl
theorem wl_20 : Cond.methodLink "SchemeElevenLaw" 79 ⟨"SchemeEleven", "go", "(I)I"⟩ ∈ zTw := zTw_of (zt_in_8 (List.mem_of_getElem? (i := 72) rfl)) rfl
theorem w_999 : Cond.selects "SchemeEleven" ⟨"SchemeEleven", "go", "(I)I"⟩ ⟨"SchemeEleven", "go", "(I)I"⟩ ∈ zTw := zTw_of (zt_in_8 (List.mem_of_getElem? (i := 74) rfl)) rfl
theorem w_997 : Cond.code ⟨"SchemeEleven", "go", "(I)I"⟩ prog_1_method_17_code 4 (some FieldType.int) ∈ zTw := zTw_of (zt_in_8 (List.mem_of_getElem? (i := 75) rfl)) rfl
theorem w_998 : Cond.instanceMethod ⟨"SchemeEleven", "go", "(I)I"⟩ ∈ zTw := zTw_of (zt_in_8 (List.mem_of_getElem? (i := 73) rfl)) rfl
theorem wl_24 : Cond.methodLink "SchemeElevenLaw" 78 ⟨"SchemeElevenModel", "set", "(II)Z"⟩ ∈ zTw := zTw_of (zt_in_8 (List.mem_of_getElem? (i := 95) rfl)) rfl
theorem w_1000 : Cond.code ⟨"SchemeElevenModel", "set", "(II)Z"⟩ prog_14_method_31_code 4 (some FieldType.boolean) ∈ zTw := zTw_of (zt_in_8 (List.mem_of_getElem? (i := 98) rfl)) rfl
theorem w_1002 : Cond.selects "SchemeElevenModel" ⟨"SchemeElevenModel", "set", "(II)Z"⟩ ⟨"SchemeElevenModel", "set", "(II)Z"⟩ ∈ zTw := zTw_of (zt_in_8 (List.mem_of_getElem? (i := 97) rfl)) rfl
theorem w_1001 : Cond.instanceMethod ⟨"SchemeElevenModel", "set", "(II)Z"⟩ ∈ zTw := zTw_of (zt_in_8 (List.mem_of_getElem? (i := 96) rfl)) rfl
theorem wl_28 : Cond.methodLink "SchemeElevenLaw" 75 ⟨"SchemeEleven", "set", "(II)Z"⟩ ∈ zTw := zTw_of (zt_in_8 (List.mem_of_getElem? (i := 66) rfl)) rfl
theorem w_1003 : Cond.code ⟨"SchemeEleven", "set", "(II)Z"⟩ prog_1_method_16_code 3 (some FieldType.boolean) ∈ zTw := zTw_of (zt_in_8 (List.mem_of_getElem? (i := 69) rfl)) rfl
theorem w_1005 : Cond.selects "SchemeEleven" ⟨"SchemeEleven", "set", "(II)Z"⟩ ⟨"SchemeEleven", "set", "(II)Z"⟩ ∈ zTw := zTw_of (zt_in_8 (List.mem_of_getElem? (i := 68) rfl)) rfl
theorem w_1004 : Cond.instanceMethod ⟨"SchemeEleven", "set", "(II)Z"⟩ ∈ zTw := zTw_of (zt_in_8 (List.mem_of_getElem? (i := 67) rfl)) rfl
theorem wl_32 : Cond.methodLink "SchemeElevenLaw" 74 ⟨"SchemeElevenModel", "poke", "(II)Z"⟩ ∈ zTw := zTw_of (zt_in_8 (List.mem_of_getElem? (i := 85) rfl)) rfl
theorem w_1008 : Cond.selects "SchemeElevenModel" ⟨"SchemeElevenModel", "poke", "(II)Z"⟩ ⟨"SchemeElevenModel", "poke", "(II)Z"⟩ ∈ zTw := zTw_of (zt_in_8 (List.mem_of_getElem? (i := 87) rfl)) rfl
theorem w_1007 : Cond.instanceMethod ⟨"SchemeElevenModel", "poke", "(II)Z"⟩ ∈ zTw := zTw_of (zt_in_8 (List.mem_of_getElem? (i := 86) rfl)) rfl
theorem w_1006 : Cond.code ⟨"SchemeElevenModel", "poke", "(II)Z"⟩ prog_14_method_30_code 3 (some FieldType.boolean) ∈ zTw := zTw_of (zt_in_8 (List.mem_of_getElem? (i := 88) rfl)) rfl
theorem wl_36 : Cond.methodLink "SchemeElevenLaw" 70 ⟨"SchemeEleven", "poke", "(II)Z"⟩ ∈ zTw := zTw_of (zt_in_8 (List.mem_of_getElem? (i := 62) rfl)) rfl
theorem w_1010 : Cond.instanceMethod ⟨"SchemeEleven", "poke", "(II)Z"⟩ ∈ zTw := zTw_of (zt_in_8 (List.mem_of_getElem? (i := 63) rfl)) rfl
theorem w_1009 : Cond.code ⟨"SchemeEleven", "poke", "(II)Z"⟩ prog_1_method_15_code 3 (some FieldType.boolean) ∈ zTw := zTw_of (zt_in_8 (List.mem_of_getElem? (i := 65) rfl)) rfl
theorem w_1011 : Cond.selects "SchemeEleven" ⟨"SchemeEleven", "poke", "(II)Z"⟩ ⟨"SchemeEleven", "poke", "(II)Z"⟩ ∈ zTw := zTw_of (zt_in_8 (List.mem_of_getElem? (i := 64) rfl)) rfl
theorem wl_40 : Cond.methodLink "SchemeElevenLaw" 69 ⟨"SchemeElevenModel", "reset", "()V"⟩ ∈ zTw := zTw_of (zt_in_12 (List.mem_of_getElem? (i := 43) rfl)) rfl
theorem wl_41 : Cond.methodLink "SchemeElevenLaw" 66 ⟨"SchemeEleven", "reset", "()V"⟩ ∈ zTw := zTw_of (zt_in_8 (List.mem_of_getElem? (i := 58) rfl)) rfl
theorem w_1012 : Cond.code ⟨"SchemeEleven", "reset", "()V"⟩ prog_1_method_14_code 1 none ∈ zTw := zTw_of (zt_in_8 (List.mem_of_getElem? (i := 61) rfl)) rfl
theorem w_1014 : Cond.selects "SchemeEleven" ⟨"SchemeEleven", "reset", "()V"⟩ ⟨"SchemeEleven", "reset", "()V"⟩ ∈ zTw := zTw_of (zt_in_8 (List.mem_of_getElem? (i := 60) rfl)) rfl
theorem w_1013 : Cond.instanceMethod ⟨"SchemeEleven", "reset", "()V"⟩ ∈ zTw := zTw_of (zt_in_8 (List.mem_of_getElem? (i := 59) rfl)) rfl
theorem wl_45 : Cond.methodLink "SchemeElevenLaw" 65 ⟨"SchemeElevenModel", "letter", "(II)I"⟩ ∈ zTw := zTw_of (zt_in_12 (List.mem_of_getElem? (i := 188) rfl)) rfl
theorem w_1015 : Cond.code ⟨"SchemeElevenModel", "letter", "(II)I"⟩ prog_14_method_163_code 3 (some FieldType.int) ∈ zTw := zTw_of (zt_in_12 (List.mem_of_getElem? (i := 191) rfl)) rfl
theorem w_1016 : Cond.instanceMethod ⟨"SchemeElevenModel", "letter", "(II)I"⟩ ∈ zTw := zTw_of (zt_in_12 (List.mem_of_getElem? (i := 189) rfl)) rfl
theorem w_1017 : Cond.selects "SchemeElevenModel" ⟨"SchemeElevenModel", "letter", "(II)I"⟩ ⟨"SchemeElevenModel", "letter", "(II)I"⟩ ∈ zTw := zTw_of (zt_in_12 (List.mem_of_getElem? (i := 190) rfl)) rfl
theorem wl_49 : Cond.methodLink "SchemeElevenLaw" 61 ⟨"SchemeEleven", "letter", "(II)I"⟩ ∈ zTw := zTw_of (zt_in_8 (List.mem_of_getElem? (i := 53) rfl)) rfl
theorem w_1020 : Cond.selects "SchemeEleven" ⟨"SchemeEleven", "letter", "(II)I"⟩ ⟨"SchemeEleven", "letter", "(II)I"⟩ ∈ zTw := zTw_of (zt_in_8 (List.mem_of_getElem? (i := 55) rfl)) rfl
theorem w_1018 : Cond.code ⟨"SchemeEleven", "letter", "(II)I"⟩ prog_1_method_13_code 3 (some FieldType.int) ∈ zTw := zTw_of (zt_in_8 (List.mem_of_getElem? (i := 56) rfl)) rfl
theorem w_1019 : Cond.instanceMethod ⟨"SchemeEleven", "letter", "(II)I"⟩ ∈ zTw := zTw_of (zt_in_8 (List.mem_of_getElem? (i := 54) rfl)) rfl
theorem wl_53 : Cond.methodLink "SchemeElevenLaw" 60 ⟨"SchemeElevenModel", "input", "(I)Z"⟩ ∈ zTw := zTw_of (zt_in_9 (List.mem_of_getElem? (i := 40) rfl)) rfl
theorem w_1023 : Cond.selects "SchemeElevenModel" ⟨"SchemeElevenModel", "input", "(I)Z"⟩ ⟨"SchemeElevenModel", "input", "(I)Z"⟩ ∈ zTw := zTw_of (zt_in_9 (List.mem_of_getElem? (i := 42) rfl)) rfl
theorem w_1021 : Cond.code ⟨"SchemeElevenModel", "input", "(I)Z"⟩ prog_14_method_79_code 2 (some FieldType.boolean) ∈ zTw := zTw_of (zt_in_9 (List.mem_of_getElem? (i := 43) rfl)) rfl
theorem w_1022 : Cond.instanceMethod ⟨"SchemeElevenModel", "input", "(I)Z"⟩ ∈ zTw := zTw_of (zt_in_9 (List.mem_of_getElem? (i := 41) rfl)) rfl
theorem wl_57 : Cond.methodLink "SchemeElevenLaw" 57 ⟨"SchemeEleven", "input", "(I)Z"⟩ ∈ zTw := zTw_of (zt_in_8 (List.mem_of_getElem? (i := 45) rfl)) rfl
theorem w_1026 : Cond.selects "SchemeEleven" ⟨"SchemeEleven", "input", "(I)Z"⟩ ⟨"SchemeEleven", "input", "(I)Z"⟩ ∈ zTw := zTw_of (zt_in_8 (List.mem_of_getElem? (i := 47) rfl)) rfl
theorem w_1025 : Cond.instanceMethod ⟨"SchemeEleven", "input", "(I)Z"⟩ ∈ zTw := zTw_of (zt_in_8 (List.mem_of_getElem? (i := 46) rfl)) rfl
theorem w_1024 : Cond.code ⟨"SchemeEleven", "input", "(I)Z"⟩ prog_1_method_12_code 2 (some FieldType.boolean) ∈ zTw := zTw_of (zt_in_8 (List.mem_of_getElem? (i := 48) rfl)) rfl
theorem wl_61 : Cond.methodLink "SchemeElevenLaw" 56 ⟨"SchemeElevenModel", "out", "(I)I"⟩ ∈ zTw := zTw_of (zt_in_9 (List.mem_of_getElem? (i := 36) rfl)) rfl
theorem w_1028 : Cond.instanceMethod ⟨"SchemeElevenModel", "out", "(I)I"⟩ ∈ zTw := zTw_of (zt_in_9 (List.mem_of_getElem? (i := 37) rfl)) rfl
theorem w_1027 : Cond.code ⟨"SchemeElevenModel", "out", "(I)I"⟩ prog_14_method_78_code 2 (some FieldType.int) ∈ zTw := zTw_of (zt_in_9 (List.mem_of_getElem? (i := 39) rfl)) rfl
theorem w_1029 : Cond.selects "SchemeElevenModel" ⟨"SchemeElevenModel", "out", "(I)I"⟩ ⟨"SchemeElevenModel", "out", "(I)I"⟩ ∈ zTw := zTw_of (zt_in_9 (List.mem_of_getElem? (i := 38) rfl)) rfl
theorem wl_65 : Cond.methodLink "SchemeElevenLaw" 53 ⟨"SchemeEleven", "out", "(I)I"⟩ ∈ zTw := zTw_of (zt_in_8 (List.mem_of_getElem? (i := 41) rfl)) rfl
theorem w_1030 : Cond.code ⟨"SchemeEleven", "out", "(I)I"⟩ prog_1_method_11_code 2 (some FieldType.int) ∈ zTw := zTw_of (zt_in_8 (List.mem_of_getElem? (i := 44) rfl)) rfl
theorem w_1031 : Cond.instanceMethod ⟨"SchemeEleven", "out", "(I)I"⟩ ∈ zTw := zTw_of (zt_in_8 (List.mem_of_getElem? (i := 42) rfl)) rfl
theorem w_1032 : Cond.selects "SchemeEleven" ⟨"SchemeEleven", "out", "(I)I"⟩ ⟨"SchemeEleven", "out", "(I)I"⟩ ∈ zTw := zTw_of (zt_in_8 (List.mem_of_getElem? (i := 43) rfl)) rfl
theorem wl_69 : Cond.methodLink "SchemeElevenLaw" 52 ⟨"SchemeElevenModel", "shown", "(I)I"⟩ ∈ zTw := zTw_of (zt_in_8 (List.mem_of_getElem? (i := 227) rfl)) rfl
theorem w_1035 : Cond.selects "SchemeElevenModel" ⟨"SchemeElevenModel", "shown", "(I)I"⟩ ⟨"SchemeElevenModel", "shown", "(I)I"⟩ ∈ zTw := zTw_of (zt_in_8 (List.mem_of_getElem? (i := 229) rfl)) rfl
theorem w_1033 : Cond.code ⟨"SchemeElevenModel", "shown", "(I)I"⟩ prog_14_method_77_code 2 (some FieldType.int) ∈ zTw := zTw_of (zt_in_8 (List.mem_of_getElem? (i := 230) rfl)) rfl
theorem w_1034 : Cond.instanceMethod ⟨"SchemeElevenModel", "shown", "(I)I"⟩ ∈ zTw := zTw_of (zt_in_8 (List.mem_of_getElem? (i := 228) rfl)) rfl
theorem wl_73 : Cond.methodLink "SchemeElevenLaw" 49 ⟨"SchemeEleven", "shown", "(I)I"⟩ ∈ zTw := zTw_of (zt_in_8 (List.mem_of_getElem? (i := 33) rfl)) rfl
theorem w_1036 : Cond.code ⟨"SchemeEleven", "shown", "(I)I"⟩ prog_1_method_10_code 2 (some FieldType.int) ∈ zTw := zTw_of (zt_in_8 (List.mem_of_getElem? (i := 36) rfl)) rfl
theorem w_1038 : Cond.selects "SchemeEleven" ⟨"SchemeEleven", "shown", "(I)I"⟩ ⟨"SchemeEleven", "shown", "(I)I"⟩ ∈ zTw := zTw_of (zt_in_8 (List.mem_of_getElem? (i := 35) rfl)) rfl
theorem w_1037 : Cond.instanceMethod ⟨"SchemeEleven", "shown", "(I)I"⟩ ∈ zTw := zTw_of (zt_in_8 (List.mem_of_getElem? (i := 34) rfl)) rfl
theorem wl_77 : Cond.methodLink "SchemeElevenLaw" 48 ⟨"SchemeElevenModel", "register", "(I)I"⟩ ∈ zTw := zTw_of (zt_in_8 (List.mem_of_getElem? (i := 223) rfl)) rfl
theorem w_1039 : Cond.code ⟨"SchemeElevenModel", "register", "(I)I"⟩ prog_14_method_36_code 2 (some FieldType.int) ∈ zTw := zTw_of (zt_in_8 (List.mem_of_getElem? (i := 226) rfl)) rfl
theorem w_1041 : Cond.selects "SchemeElevenModel" ⟨"SchemeElevenModel", "register", "(I)I"⟩ ⟨"SchemeElevenModel", "register", "(I)I"⟩ ∈ zTw := zTw_of (zt_in_8 (List.mem_of_getElem? (i := 225) rfl)) rfl
theorem w_1040 : Cond.instanceMethod ⟨"SchemeElevenModel", "register", "(I)I"⟩ ∈ zTw := zTw_of (zt_in_8 (List.mem_of_getElem? (i := 224) rfl)) rfl
theorem wl_81 : Cond.methodLink "SchemeElevenLaw" 45 ⟨"SchemeEleven", "register", "(I)I"⟩ ∈ zTw := zTw_of (zt_in_8 (List.mem_of_getElem? (i := 28) rfl)) rfl
theorem w_1042 : Cond.code ⟨"SchemeEleven", "register", "(I)I"⟩ prog_1_method_9_code 2 (some FieldType.int) ∈ zTw := zTw_of (zt_in_8 (List.mem_of_getElem? (i := 31) rfl)) rfl
theorem w_1043 : Cond.instanceMethod ⟨"SchemeEleven", "register", "(I)I"⟩ ∈ zTw := zTw_of (zt_in_8 (List.mem_of_getElem? (i := 29) rfl)) rfl
theorem w_1044 : Cond.selects "SchemeEleven" ⟨"SchemeEleven", "register", "(I)I"⟩ ⟨"SchemeEleven", "register", "(I)I"⟩ ∈ zTw := zTw_of (zt_in_8 (List.mem_of_getElem? (i := 30) rfl)) rfl
theorem wl_85 : Cond.methodLink "SchemeElevenLaw" 44 ⟨"SchemeElevenModel", "word", "(I)I"⟩ ∈ zTw := zTw_of (zt_in_12 (List.mem_of_getElem? (i := 184) rfl)) rfl
theorem w_1046 : Cond.instanceMethod ⟨"SchemeElevenModel", "word", "(I)I"⟩ ∈ zTw := zTw_of (zt_in_12 (List.mem_of_getElem? (i := 185) rfl)) rfl
theorem w_1045 : Cond.code ⟨"SchemeElevenModel", "word", "(I)I"⟩ prog_14_method_162_code 2 (some FieldType.int) ∈ zTw := zTw_of (zt_in_12 (List.mem_of_getElem? (i := 187) rfl)) rfl
theorem w_1047 : Cond.selects "SchemeElevenModel" ⟨"SchemeElevenModel", "word", "(I)I"⟩ ⟨"SchemeElevenModel", "word", "(I)I"⟩ ∈ zTw := zTw_of (zt_in_12 (List.mem_of_getElem? (i := 186) rfl)) rfl
theorem wl_89 : Cond.methodLink "SchemeElevenLaw" 41 ⟨"SchemeEleven", "word", "(I)I"⟩ ∈ zTw := zTw_of (zt_in_8 (List.mem_of_getElem? (i := 22) rfl)) rfl
theorem w_1049 : Cond.instanceMethod ⟨"SchemeEleven", "word", "(I)I"⟩ ∈ zTw := zTw_of (zt_in_8 (List.mem_of_getElem? (i := 23) rfl)) rfl
theorem w_1050 : Cond.selects "SchemeEleven" ⟨"SchemeEleven", "word", "(I)I"⟩ ⟨"SchemeEleven", "word", "(I)I"⟩ ∈ zTw := zTw_of (zt_in_8 (List.mem_of_getElem? (i := 24) rfl)) rfl
theorem w_1048 : Cond.code ⟨"SchemeEleven", "word", "(I)I"⟩ prog_1_method_8_code 2 (some FieldType.int) ∈ zTw := zTw_of (zt_in_8 (List.mem_of_getElem? (i := 25) rfl)) rfl
theorem wl_93 : Cond.methodLink "SchemeElevenLaw" 40 ⟨"SchemeElevenModel", "look", "(I)I"⟩ ∈ zTw := zTw_of (zt_in_12 (List.mem_of_getElem? (i := 180) rfl)) rfl
theorem w_1053 : Cond.selects "SchemeElevenModel" ⟨"SchemeElevenModel", "look", "(I)I"⟩ ⟨"SchemeElevenModel", "look", "(I)I"⟩ ∈ zTw := zTw_of (zt_in_12 (List.mem_of_getElem? (i := 182) rfl)) rfl
theorem w_1052 : Cond.instanceMethod ⟨"SchemeElevenModel", "look", "(I)I"⟩ ∈ zTw := zTw_of (zt_in_12 (List.mem_of_getElem? (i := 181) rfl)) rfl
theorem w_1051 : Cond.code ⟨"SchemeElevenModel", "look", "(I)I"⟩ prog_14_method_161_code 2 (some FieldType.int) ∈ zTw := zTw_of (zt_in_12 (List.mem_of_getElem? (i := 183) rfl)) rfl
theorem wl_97 : Cond.methodLink "SchemeElevenLaw" 37 ⟨"SchemeEleven", "look", "(I)I"⟩ ∈ zTw := zTw_of (zt_in_8 (List.mem_of_getElem? (i := 18) rfl)) rfl
theorem w_1056 : Cond.selects "SchemeEleven" ⟨"SchemeEleven", "look", "(I)I"⟩ ⟨"SchemeEleven", "look", "(I)I"⟩ ∈ zTw := zTw_of (zt_in_8 (List.mem_of_getElem? (i := 20) rfl)) rfl
theorem w_1054 : Cond.code ⟨"SchemeEleven", "look", "(I)I"⟩ prog_1_method_7_code 2 (some FieldType.int) ∈ zTw := zTw_of (zt_in_8 (List.mem_of_getElem? (i := 21) rfl)) rfl
theorem w_1055 : Cond.instanceMethod ⟨"SchemeEleven", "look", "(I)I"⟩ ∈ zTw := zTw_of (zt_in_8 (List.mem_of_getElem? (i := 19) rfl)) rfl
theorem wl_101 : Cond.methodLink "SchemeElevenLaw" 36 ⟨"SchemeElevenModel", "run", "(I)I"⟩ ∈ zTw := zTw_of (zt_in_12 (List.mem_of_getElem? (i := 64) rfl)) rfl
theorem w_1059 : Cond.selects "SchemeElevenModel" ⟨"SchemeElevenModel", "run", "(I)I"⟩ ⟨"SchemeElevenModel", "run", "(I)I"⟩ ∈ zTw := zTw_of (zt_in_12 (List.mem_of_getElem? (i := 66) rfl)) rfl
theorem w_1057 : Cond.code ⟨"SchemeElevenModel", "run", "(I)I"⟩ prog_14_method_159_code 4 (some FieldType.int) ∈ zTw := zTw_of (zt_in_12 (List.mem_of_getElem? (i := 67) rfl)) rfl
theorem w_1058 : Cond.instanceMethod ⟨"SchemeElevenModel", "run", "(I)I"⟩ ∈ zTw := zTw_of (zt_in_12 (List.mem_of_getElem? (i := 65) rfl)) rfl
theorem wl_105 : Cond.methodLink "SchemeElevenLaw" 33 ⟨"SchemeEleven", "run", "(I)I"⟩ ∈ zTw := zTw_of (zt_in_6 (List.mem_of_getElem? (i := 134) rfl)) rfl
theorem w_1062 : Cond.selects "SchemeEleven" ⟨"SchemeEleven", "run", "(I)I"⟩ ⟨"SchemeEleven", "run", "(I)I"⟩ ∈ zTw := zTw_of (zt_in_6 (List.mem_of_getElem? (i := 136) rfl)) rfl
theorem w_1061 : Cond.instanceMethod ⟨"SchemeEleven", "run", "(I)I"⟩ ∈ zTw := zTw_of (zt_in_6 (List.mem_of_getElem? (i := 135) rfl)) rfl
theorem w_1060 : Cond.code ⟨"SchemeEleven", "run", "(I)I"⟩ prog_1_method_6_code 2 (some FieldType.int) ∈ zTw := zTw_of (zt_in_6 (List.mem_of_getElem? (i := 137) rfl)) rfl
theorem wl_109 : Cond.methodLink "SchemeElevenLaw" 32 ⟨"SchemeElevenModel", "fault", "(I)I"⟩ ∈ zTw := zTw_of (zt_in_12 (List.mem_of_getElem? (i := 60) rfl)) rfl
theorem w_1064 : Cond.instanceMethod ⟨"SchemeElevenModel", "fault", "(I)I"⟩ ∈ zTw := zTw_of (zt_in_12 (List.mem_of_getElem? (i := 61) rfl)) rfl
theorem w_1063 : Cond.code ⟨"SchemeElevenModel", "fault", "(I)I"⟩ prog_14_method_158_code 2 (some FieldType.int) ∈ zTw := zTw_of (zt_in_12 (List.mem_of_getElem? (i := 63) rfl)) rfl
theorem w_1065 : Cond.selects "SchemeElevenModel" ⟨"SchemeElevenModel", "fault", "(I)I"⟩ ⟨"SchemeElevenModel", "fault", "(I)I"⟩ ∈ zTw := zTw_of (zt_in_12 (List.mem_of_getElem? (i := 62) rfl)) rfl
theorem wl_113 : Cond.methodLink "SchemeElevenLaw" 28 ⟨"SchemeEleven", "fault", "(I)I"⟩ ∈ zTw := zTw_of (zt_in_6 (List.mem_of_getElem? (i := 130) rfl)) rfl
theorem w_1067 : Cond.instanceMethod ⟨"SchemeEleven", "fault", "(I)I"⟩ ∈ zTw := zTw_of (zt_in_6 (List.mem_of_getElem? (i := 131) rfl)) rfl
theorem w_1068 : Cond.selects "SchemeEleven" ⟨"SchemeEleven", "fault", "(I)I"⟩ ⟨"SchemeEleven", "fault", "(I)I"⟩ ∈ zTw := zTw_of (zt_in_6 (List.mem_of_getElem? (i := 132) rfl)) rfl
theorem w_1066 : Cond.code ⟨"SchemeEleven", "fault", "(I)I"⟩ prog_1_method_5_code 2 (some FieldType.int) ∈ zTw := zTw_of (zt_in_6 (List.mem_of_getElem? (i := 133) rfl)) rfl
theorem wl_117 : Cond.methodLink "SchemeElevenLaw" 27 ⟨"SchemeElevenModel", "load", "()I"⟩ ∈ zTw := zTw_of (zt_in_12 (List.mem_of_getElem? (i := 56) rfl)) rfl
theorem w_1069 : Cond.code ⟨"SchemeElevenModel", "load", "()I"⟩ prog_14_method_157_code 1 (some FieldType.int) ∈ zTw := zTw_of (zt_in_12 (List.mem_of_getElem? (i := 59) rfl)) rfl
theorem w_1070 : Cond.instanceMethod ⟨"SchemeElevenModel", "load", "()I"⟩ ∈ zTw := zTw_of (zt_in_12 (List.mem_of_getElem? (i := 57) rfl)) rfl
theorem w_1071 : Cond.selects "SchemeElevenModel" ⟨"SchemeElevenModel", "load", "()I"⟩ ⟨"SchemeElevenModel", "load", "()I"⟩ ∈ zTw := zTw_of (zt_in_12 (List.mem_of_getElem? (i := 58) rfl)) rfl
theorem wl_121 : Cond.methodLink "SchemeElevenLaw" 23 ⟨"SchemeEleven", "load", "()I"⟩ ∈ zTw := zTw_of (zt_in_6 (List.mem_of_getElem? (i := 122) rfl)) rfl
theorem w_1073 : Cond.instanceMethod ⟨"SchemeEleven", "load", "()I"⟩ ∈ zTw := zTw_of (zt_in_6 (List.mem_of_getElem? (i := 123) rfl)) rfl
theorem w_1074 : Cond.selects "SchemeEleven" ⟨"SchemeEleven", "load", "()I"⟩ ⟨"SchemeEleven", "load", "()I"⟩ ∈ zTw := zTw_of (zt_in_6 (List.mem_of_getElem? (i := 124) rfl)) rfl
theorem w_1072 : Cond.code ⟨"SchemeEleven", "load", "()I"⟩ prog_1_method_4_code 4 (some FieldType.int) ∈ zTw := zTw_of (zt_in_6 (List.mem_of_getElem? (i := 125) rfl)) rfl
theorem wl_125 : Cond.methodLink "SchemeElevenLaw" 22 ⟨"SchemeElevenModel", "end", "(I)Z"⟩ ∈ zTw := zTw_of (zt_in_12 (List.mem_of_getElem? (i := 44) rfl)) rfl
theorem w_1077 : Cond.selects "SchemeElevenModel" ⟨"SchemeElevenModel", "end", "(I)Z"⟩ ⟨"SchemeElevenModel", "end", "(I)Z"⟩ ∈ zTw := zTw_of (zt_in_12 (List.mem_of_getElem? (i := 46) rfl)) rfl
theorem w_1076 : Cond.instanceMethod ⟨"SchemeElevenModel", "end", "(I)Z"⟩ ∈ zTw := zTw_of (zt_in_12 (List.mem_of_getElem? (i := 45) rfl)) rfl
theorem w_1075 : Cond.code ⟨"SchemeElevenModel", "end", "(I)Z"⟩ prog_14_method_154_code 2 (some FieldType.boolean) ∈ zTw := zTw_of (zt_in_12 (List.mem_of_getElem? (i := 47) rfl)) rfl
theorem wl_129 : Cond.methodLink "SchemeElevenLaw" 18 ⟨"SchemeEleven", "end", "(I)Z"⟩ ∈ zTw := zTw_of (zt_in_6 (List.mem_of_getElem? (i := 118) rfl)) rfl
theorem w_1079 : Cond.instanceMethod ⟨"SchemeEleven", "end", "(I)Z"⟩ ∈ zTw := zTw_of (zt_in_6 (List.mem_of_getElem? (i := 119) rfl)) rfl
theorem w_1078 : Cond.code ⟨"SchemeEleven", "end", "(I)Z"⟩ prog_1_method_3_code 2 (some FieldType.boolean) ∈ zTw := zTw_of (zt_in_6 (List.mem_of_getElem? (i := 121) rfl)) rfl
theorem w_1080 : Cond.selects "SchemeEleven" ⟨"SchemeEleven", "end", "(I)Z"⟩ ⟨"SchemeEleven", "end", "(I)Z"⟩ ∈ zTw := zTw_of (zt_in_6 (List.mem_of_getElem? (i := 120) rfl)) rfl
theorem wl_133 : Cond.methodLink "SchemeElevenLaw" 17 ⟨"SchemeElevenModel", "feed", "(IIIII)I"⟩ ∈ zTw := zTw_of (zt_in_12 (List.mem_of_getElem? (i := 48) rfl)) rfl
theorem w_1083 : Cond.selects "SchemeElevenModel" ⟨"SchemeElevenModel", "feed", "(IIIII)I"⟩ ⟨"SchemeElevenModel", "feed", "(IIIII)I"⟩ ∈ zTw := zTw_of (zt_in_12 (List.mem_of_getElem? (i := 50) rfl)) rfl
theorem w_1082 : Cond.instanceMethod ⟨"SchemeElevenModel", "feed", "(IIIII)I"⟩ ∈ zTw := zTw_of (zt_in_12 (List.mem_of_getElem? (i := 49) rfl)) rfl
theorem w_1081 : Cond.code ⟨"SchemeElevenModel", "feed", "(IIIII)I"⟩ prog_14_method_155_code 6 (some FieldType.int) ∈ zTw := zTw_of (zt_in_12 (List.mem_of_getElem? (i := 51) rfl)) rfl
theorem wl_137 : Cond.methodLink "SchemeElevenLaw" 13 ⟨"SchemeEleven", "feed", "(IIIII)I"⟩ ∈ zTw := zTw_of (zt_in_6 (List.mem_of_getElem? (i := 110) rfl)) rfl
theorem w_1086 : Cond.selects "SchemeEleven" ⟨"SchemeEleven", "feed", "(IIIII)I"⟩ ⟨"SchemeEleven", "feed", "(IIIII)I"⟩ ∈ zTw := zTw_of (zt_in_6 (List.mem_of_getElem? (i := 112) rfl)) rfl
theorem w_1085 : Cond.instanceMethod ⟨"SchemeEleven", "feed", "(IIIII)I"⟩ ∈ zTw := zTw_of (zt_in_6 (List.mem_of_getElem? (i := 111) rfl)) rfl
theorem w_1084 : Cond.code ⟨"SchemeEleven", "feed", "(IIIII)I"⟩ prog_1_method_2_code 6 (some FieldType.int) ∈ zTw := zTw_of (zt_in_6 (List.mem_of_getElem? (i := 113) rfl)) rfl
theorem wl_141 : Cond.methodLink "SchemeElevenLaw" 12 ⟨"SchemeElevenModel", "<init>", "()V"⟩ ∈ zTw := zTw_of (zt_in_9 (List.mem_of_getElem? (i := 45) rfl)) rfl
theorem w_1088 : Cond.instanceMethod ⟨"SchemeElevenModel", "<init>", "()V"⟩ ∈ zTw := zTw_of (zt_in_9 (List.mem_of_getElem? (i := 46) rfl)) rfl
theorem w_1087 : Cond.code ⟨"SchemeElevenModel", "<init>", "()V"⟩ prog_14_method_152_code 1 none ∈ zTw := zTw_of (zt_in_9 (List.mem_of_getElem? (i := 47) rfl)) rfl
theorem wl_144 : Cond.classLink "SchemeElevenLaw" 10 "SchemeElevenModel" ∈ zTw := zTw_of (zt_in_9 (List.mem_of_getElem? (i := 44) rfl)) rfl
theorem wl_145 : Cond.instantiable "SchemeElevenModel" 114 ∈ zTw := zTw_of (zt_in_8 (List.mem_of_getElem? (i := 107) rfl)) rfl
theorem wl_146 : Cond.methodLink "SchemeElevenLaw" 9 ⟨"SchemeEleven", "<init>", "()V"⟩ ∈ zTw := zTw_of (zt_in_1 (List.mem_of_getElem? (i := 24) rfl)) rfl
theorem w_1089 : Cond.code ⟨"SchemeEleven", "<init>", "()V"⟩ prog_1_method_1_code 1 none ∈ zTw := zTw_of (zt_in_1 (List.mem_of_getElem? (i := 26) rfl)) rfl
theorem w_1090 : Cond.instanceMethod ⟨"SchemeEleven", "<init>", "()V"⟩ ∈ zTw := zTw_of (zt_in_1 (List.mem_of_getElem? (i := 25) rfl)) rfl
theorem wl_149 : Cond.classLink "SchemeElevenLaw" 7 "SchemeEleven" ∈ zTw := zTw_of (zt_in_1 (List.mem_of_getElem? (i := 22) rfl)) rfl
theorem wl_150 : Cond.instantiable "SchemeEleven" 18 ∈ zTw := zTw_of (zt_in_1 (List.mem_of_getElem? (i := 23) rfl)) rfl
theorem calV_X12_held : zCalV zTw "SchemeElevenModel" mM_X12_held 1 := ⟨by decide +kernel, w_982, w_690, w_983, w_984, zdd_X12_held, by decide +kernel, by decide +kernel⟩
theorem calV_X11_held : zCalV zTw "SchemeEleven" mM_X11_held 1 := ⟨by decide +kernel, w_985, w_405, w_986, w_987, zdd_X11_held, by decide +kernel, by decide +kernel⟩
theorem calV_X12_peek : zCalV zTw "SchemeElevenModel" mM_X12_peek 1 := ⟨by decide +kernel, w_988, w_690, w_989, w_990, zdd_X12_peek, by decide +kernel, by decide +kernel⟩
theorem calV_X11_peek : zCalV zTw "SchemeEleven" mM_X11_peek 1 := ⟨by decide +kernel, w_991, w_405, w_992, w_993, zdd_X11_peek, by decide +kernel, by decide +kernel⟩
theorem calV_X12_go : zCalV zTw "SchemeElevenModel" mM_X12_go 1 := ⟨by decide +kernel, w_994, w_690, w_995, w_996, zdd_X12_go, by decide +kernel, by decide +kernel⟩
theorem calV_X11_go : zCalV zTw "SchemeEleven" mM_X11_go 1 := ⟨by decide +kernel, w_997, w_405, w_998, w_999, zdd_X11_go, by decide +kernel, by decide +kernel⟩
theorem calV_X12_set : zCalV zTw "SchemeElevenModel" mM_X12_set 2 := ⟨by decide +kernel, w_1000, w_690, w_1001, w_1002, zdd_X12_set, by decide +kernel, by decide +kernel⟩
theorem calV_X11_set : zCalV zTw "SchemeEleven" mM_X11_set 2 := ⟨by decide +kernel, w_1003, w_405, w_1004, w_1005, zdd_X11_set, by decide +kernel, by decide +kernel⟩
theorem calV_X12_poke : zCalV zTw "SchemeElevenModel" mM_X12_poke 2 := ⟨by decide +kernel, w_1006, w_690, w_1007, w_1008, zdd_X12_poke, by decide +kernel, by decide +kernel⟩
theorem calV_X11_poke : zCalV zTw "SchemeEleven" mM_X11_poke 2 := ⟨by decide +kernel, w_1009, w_405, w_1010, w_1011, zdd_X11_poke, by decide +kernel, by decide +kernel⟩
theorem calV_X11_reset : zCalV zTw "SchemeEleven" mM_X11_reset 0 := ⟨by decide +kernel, w_1012, w_405, w_1013, w_1014, zdd_X11_reset, by decide +kernel, by decide +kernel⟩
theorem calV_X12_letter : zCalV zTw "SchemeElevenModel" mM_X12_letter 2 := ⟨by decide +kernel, w_1015, w_690, w_1016, w_1017, zdd_X12_letter, by decide +kernel, by decide +kernel⟩
theorem calV_X11_letter : zCalV zTw "SchemeEleven" mM_X11_letter 2 := ⟨by decide +kernel, w_1018, w_405, w_1019, w_1020, zdd_X11_letter, by decide +kernel, by decide +kernel⟩
theorem calV_X12_input : zCalV zTw "SchemeElevenModel" mM_X12_input 1 := ⟨by decide +kernel, w_1021, w_690, w_1022, w_1023, zdd_X12_input, by decide +kernel, by decide +kernel⟩
theorem calV_X11_input : zCalV zTw "SchemeEleven" mM_X11_input 1 := ⟨by decide +kernel, w_1024, w_405, w_1025, w_1026, zdd_X11_input, by decide +kernel, by decide +kernel⟩
theorem calV_X12_out : zCalV zTw "SchemeElevenModel" mM_X12_out 1 := ⟨by decide +kernel, w_1027, w_690, w_1028, w_1029, zdd_X12_out, by decide +kernel, by decide +kernel⟩
theorem calV_X11_out : zCalV zTw "SchemeEleven" mM_X11_out 1 := ⟨by decide +kernel, w_1030, w_405, w_1031, w_1032, zdd_X11_out, by decide +kernel, by decide +kernel⟩
theorem calV_X12_shown : zCalV zTw "SchemeElevenModel" mM_X12_shown 1 := ⟨by decide +kernel, w_1033, w_690, w_1034, w_1035, zdd_X12_shown, by decide +kernel, by decide +kernel⟩
theorem calV_X11_shown : zCalV zTw "SchemeEleven" mM_X11_shown 1 := ⟨by decide +kernel, w_1036, w_405, w_1037, w_1038, zdd_X11_shown, by decide +kernel, by decide +kernel⟩
theorem calV_X12_register : zCalV zTw "SchemeElevenModel" mM_X12_register 1 := ⟨by decide +kernel, w_1039, w_690, w_1040, w_1041, zdd_X12_register, by decide +kernel, by decide +kernel⟩
theorem calV_X11_register : zCalV zTw "SchemeEleven" mM_X11_register 1 := ⟨by decide +kernel, w_1042, w_405, w_1043, w_1044, zdd_X11_register, by decide +kernel, by decide +kernel⟩
theorem calV_X12_word_ : zCalV zTw "SchemeElevenModel" mM_X12_word_ 1 := ⟨by decide +kernel, w_1045, w_690, w_1046, w_1047, zdd_X12_word_, by decide +kernel, by decide +kernel⟩
theorem calV_X11_word : zCalV zTw "SchemeEleven" mM_X11_word 1 := ⟨by decide +kernel, w_1048, w_405, w_1049, w_1050, zdd_X11_word, by decide +kernel, by decide +kernel⟩
theorem calV_X12_look : zCalV zTw "SchemeElevenModel" mM_X12_look 1 := ⟨by decide +kernel, w_1051, w_690, w_1052, w_1053, zdd_X12_look, by decide +kernel, by decide +kernel⟩
theorem calV_X11_look : zCalV zTw "SchemeEleven" mM_X11_look 1 := ⟨by decide +kernel, w_1054, w_405, w_1055, w_1056, zdd_X11_look, by decide +kernel, by decide +kernel⟩
theorem calV_X12_run : zCalV zTw "SchemeElevenModel" mM_X12_run 1 := ⟨by decide +kernel, w_1057, w_690, w_1058, w_1059, zdd_X12_run, by decide +kernel, by decide +kernel⟩
theorem calV_X11_run : zCalV zTw "SchemeEleven" mM_X11_run 1 := ⟨by decide +kernel, w_1060, w_405, w_1061, w_1062, zdd_X11_run, by decide +kernel, by decide +kernel⟩
theorem calV_X12_fault : zCalV zTw "SchemeElevenModel" mM_X12_fault 1 := ⟨by decide +kernel, w_1063, w_690, w_1064, w_1065, zdd_X12_fault, by decide +kernel, by decide +kernel⟩
theorem calV_X11_fault : zCalV zTw "SchemeEleven" mM_X11_fault 1 := ⟨by decide +kernel, w_1066, w_405, w_1067, w_1068, zdd_X11_fault, by decide +kernel, by decide +kernel⟩
theorem calV_X12_load : zCalV zTw "SchemeElevenModel" mM_X12_load 0 := ⟨by decide +kernel, w_1069, w_690, w_1070, w_1071, zdd_X12_load, by decide +kernel, by decide +kernel⟩
theorem calV_X11_load : zCalV zTw "SchemeEleven" mM_X11_load 0 := ⟨by decide +kernel, w_1072, w_405, w_1073, w_1074, zdd_X11_load, by decide +kernel, by decide +kernel⟩
theorem calV_X12_end : zCalV zTw "SchemeElevenModel" mM_X12_end 1 := ⟨by decide +kernel, w_1075, w_690, w_1076, w_1077, zdd_X12_end, by decide +kernel, by decide +kernel⟩
theorem calV_X11_end : zCalV zTw "SchemeEleven" mM_X11_end 1 := ⟨by decide +kernel, w_1078, w_405, w_1079, w_1080, zdd_X11_end, by decide +kernel, by decide +kernel⟩
theorem calV_X12_feed : zCalV zTw "SchemeElevenModel" mM_X12_feed 5 := ⟨by decide +kernel, w_1081, w_690, w_1082, w_1083, zdd_X12_feed, by decide +kernel, by decide +kernel⟩
theorem calV_X11_feed : zCalV zTw "SchemeEleven" mM_X11_feed 5 := ⟨by decide +kernel, w_1084, w_405, w_1085, w_1086, zdd_X11_feed, by decide +kernel, by decide +kernel⟩
theorem calI_X12_init : zCalI zTw mM_X12_init 0 := ⟨by decide +kernel, rfl, by decide +kernel, w_1087, w_690, w_1088, zdd_X12_init, by decide +kernel, by decide +kernel⟩
theorem calI_X11_init : zCalI zTw mM_X11_init 0 := ⟨by decide +kernel, rfl, by decide +kernel, w_1089, w_405, w_1090, zdd_X11_init, by decide +kernel, by decide +kernel⟩
noncomputable def mM_law : zM := (x, code, 4, ret)
noncomputable def o_slen (nS : Nat) (nx : zK) : zK := fun R d L S h => zpop S (fun r S => cond (Nat.beq r 8589934656) (nx R d L (nS :: S) h) none)
noncomputable def o_sld (nS : Nat) (xn : Nat → Nat) (nx : zK) : zK := fun R d L S h => zpop S (fun i S => zpop S (fun r S => cond (Nat.beq r 8589934656) (cond (Nat.ble nS i) none (nx R d L (xn i :: S) h)) none))
/-- the script: nS ints, whose bits are xn's -/
def zScr (nS : Nat) (xs : Nat → Int32) (xn : Nat → Nat) : Prop := nS ≤ 6 ∧ ∀ j, j < nS → xs j = nI (xn j) ∧ xn j < 4294967296
def zXk (A : Nat → Prop) (nS : Nat) (xs : Nat → Int32) (U : State) (f : Nat → Nat) : Prop := va_X (f (4294967295 + 64)) nS xs U U.heap ∧ f (4294967295 + 64) < U.heap.size ∧ ¬ A (f (4294967295 + 64))
theorem zEE_script {tc : Nat → ClassId} {A : Nat → Prop} {nS : Nat} {xs : Nat → Int32} : ∀ U f, zEE tc A nS xs U f → zXk A nS xs U f := fun U f h => h.2.2.2.2.2.2.2
section ZLaw
variable {l : Launch} {D : va_G} {cl : List vw_C} {tc : Nat → ClassId} {tys : List (ClassId × FieldType)} {A : Nat → Prop} {E : State → (Nat → Nat) → Prop} {Tw : List Cond} {lab : Nat → zM × Nat} {M M2 : zM} {pc : Nat} {nx tg : zK} {nS : Nat} {xs : Nat → Int32} {xn : Nat → Nat}
theorem zslen_some {Rc : zRec} {d L : Nat} {S : List Nat} {h : zH} {b : List Nat × zH} (e : o_slen nS nx Rc d L S h = some b) : ∃ S', S = (8589934592 + 64) :: S' ∧ nx Rc d L (nS :: S') h = some b := by
  obtain ⟨r, S', rfl, k1⟩ := zpop_some e
  obtain ⟨e1, k2⟩ := zcond_some k1
  have e1 := Nat.eq_of_beq_eq_true e1
  subst e1
  exact ⟨S', rfl, k2⟩
theorem zsld_some {Rc : zRec} {d L : Nat} {S : List Nat} {h : zH} {b : List Nat × zH} (e : o_sld nS xn nx Rc d L S h = some b) : ∃ i S', S = i :: (8589934592 + 64) :: S' ∧ i < nS ∧ nx Rc d L (xn i :: S') h = some b := by
  obtain ⟨i, S1, rfl, k0⟩ := zpop_some e
  obtain ⟨r, S', rfl, k1⟩ := zpop_some k0
  obtain ⟨e1, k2⟩ := zcond_some k1
  have e1 := Nat.eq_of_beq_eq_true e1
  subst e1
  cases q : Nat.ble nS i with
  | true => rw [q] at k2; cases k2
  | false =>
    rw [q] at k2
    refine ⟨i, S', rfl, ?_, k2⟩
    rcases Nat.lt_or_ge i nS with z | z
    · exact z
    · rw [Nat.ble_eq_true_of_le z] at q; cases q
theorem s_slen (hx : nS ≤ 6) (hE : ∀ U f, E U f → zXk A nS xs U f) (hd : decode M.2.1 pc = .ok (.arraylength, 1)) (hn : zS l D cl tc tys A E Tw lab M (pc + 1) nx) : zS l D cl tc tys A E Tw lab M pc (o_slen nS nx) := by
  intro Rc hR
  obtain ⟨h1, h2⟩ := hn Rc hR
  refine ⟨?_, fun d L S h r h' hk => ?_⟩
  · intro d L S h r h' hk p e R s m args below meth c ad0 n0 s0 hA ad ls H locs cells slots hS hl
    obtain ⟨S', rfl, k2⟩ := zslen_some hk
    obtain ⟨z1, z2, z3⟩ := hE s ad0 hA.2.2.2.2.2.2.2.2.2.2.2.2.2.2
    have q := h1 d L (_ :: S') h r h' k2 p e R s m args below meth c ad0 n0 s0 hA ad ls H locs cells slots hS hl
    rw [List.map_cons, zv_int ad (by omega)] at q
    rw [List.map_cons, zv_far, zad hS (by omega)]
    exact va_slen hA.1 hA.2.1 z1 z2 z3 hS.2.2.1 hd q
  · obtain ⟨S', rfl, k2⟩ := zslen_some hk
    exact h2 d L _ h r h' k2
theorem s_sld (hx : zScr nS xs xn) (hE : ∀ U f, E U f → zXk A nS xs U f) (hd : decode M.2.1 pc = .ok (.iaload, 1)) (hn : zS l D cl tc tys A E Tw lab M (pc + 1) nx) : zS l D cl tc tys A E Tw lab M pc (o_sld nS xn nx) := by
  intro Rc hR
  obtain ⟨h1, h2⟩ := hn Rc hR
  refine ⟨?_, fun d L S h r h' hk => ?_⟩
  · intro d L S h r h' hk p e R s m args below meth c ad0 n0 s0 hA ad ls H locs cells slots hS hl
    obtain ⟨i, S', rfl, hi, k2⟩ := zsld_some hk
    obtain ⟨z1, z2, z3⟩ := hE s ad0 hA.2.2.2.2.2.2.2.2.2.2.2.2.2.2
    obtain ⟨y1, y2⟩ := hx.2 i hi
    have hx1 := hx.1
    have q := h1 d L (_ :: S') h r h' k2 p e R s m args below meth c ad0 n0 s0 hA ad ls H locs cells slots hS hl
    rw [List.map_cons, zv_int ad y2, ← y1] at q
    rw [List.map_cons, List.map_cons, zv_int ad (by omega), zv_far, zad hS (by omega)]
    refine va_sld hA.1 hA.2.1 z1 z2 z3 hS.2.2.1 (i := nI i) (vp_in_nI hi (by omega)) hd ?_
    rw [nI_clamp (show i < 2 ^ 31 by omega)]
    exact q
  · obtain ⟨i, S', rfl, hi, k2⟩ := zsld_some hk
    exact h2 d L _ h r h' k2
end ZLaw
noncomputable def qM_589 (nS : Nat) (xn : Nat → Nat) : zK := o_zret
noncomputable def qM_588 (nS : Nat) (xn : Nat → Nat) : zK := o_push 1 (qM_589 nS xn)
noncomputable def qM_24 (nS : Nat) (xn : Nat → Nat) : zK := o_cmp z_gt (qM_588 nS xn) o_none
noncomputable def qM_23 (nS : Nat) (xn : Nat → Nat) : zK := o_bin z_sub (qM_24 nS xn)
noncomputable def qM_21 (nS : Nat) (xn : Nat → Nat) : zK := o_push 6 (qM_23 nS xn)
noncomputable def qM_20 (nS : Nat) (xn : Nat → Nat) : zK := o_slen nS (qM_21 nS xn)
noncomputable def qM_19 (nS : Nat) (xn : Nat → Nat) : zK := o_aload 0 (qM_20 nS xn)
noncomputable def qM_18 (nS : Nat) (xn : Nat → Nat) : zK := o_iload 3 (qM_19 nS xn)
noncomputable def qL_589 (nS : Nat) (xn : Nat → Nat) : zK := o_zret
noncomputable def qL_588 (nS : Nat) (xn : Nat → Nat) : zK := o_push 1 (qL_589 nS xn)
noncomputable def qL_585 (nS : Nat) (xn : Nat → Nat) : zK := qM_18 nS xn
noncomputable def qL_582 (nS : Nat) (xn : Nat → Nat) : zK := o_iinc 3 6 (qL_585 nS xn)
noncomputable def qL_581 (nS : Nat) (xn : Nat → Nat) : zK := o_zret
noncomputable def qL_580 (nS : Nat) (xn : Nat → Nat) : zK := o_push 0 (qL_581 nS xn)
noncomputable def qL_577 (nS : Nat) (xn : Nat → Nat) : zK := o_cmp Nat.beq (qL_582 nS xn) (qL_580 nS xn)
noncomputable def qL_574 (nS : Nat) (xn : Nat → Nat) : zK := o_callV 12 216 2 (qL_577 nS xn)
noncomputable def qL_573 (nS : Nat) (xn : Nat → Nat) : zK := o_sld nS xn (qL_574 nS xn)
noncomputable def qL_572 (nS : Nat) (xn : Nat → Nat) : zK := o_bin z_add (qL_573 nS xn)
noncomputable def qL_571 (nS : Nat) (xn : Nat → Nat) : zK := o_push 1 (qL_572 nS xn)
noncomputable def qL_570 (nS : Nat) (xn : Nat → Nat) : zK := o_iload 3 (qL_571 nS xn)
noncomputable def qL_569 (nS : Nat) (xn : Nat → Nat) : zK := o_aload 0 (qL_570 nS xn)
noncomputable def qL_568 (nS : Nat) (xn : Nat → Nat) : zK := o_aload 2 (qL_569 nS xn)
noncomputable def qL_565 (nS : Nat) (xn : Nat → Nat) : zK := o_callV 11 151 2 (qL_568 nS xn)
noncomputable def qL_564 (nS : Nat) (xn : Nat → Nat) : zK := o_sld nS xn (qL_565 nS xn)
noncomputable def qL_563 (nS : Nat) (xn : Nat → Nat) : zK := o_bin z_add (qL_564 nS xn)
noncomputable def qL_562 (nS : Nat) (xn : Nat → Nat) : zK := o_push 1 (qL_563 nS xn)
noncomputable def qL_561 (nS : Nat) (xn : Nat → Nat) : zK := o_iload 3 (qL_562 nS xn)
noncomputable def qL_560 (nS : Nat) (xn : Nat → Nat) : zK := o_aload 0 (qL_561 nS xn)
noncomputable def qL_559 (nS : Nat) (xn : Nat → Nat) : zK := o_aload 1 (qL_560 nS xn)
noncomputable def qL_558 (nS : Nat) (xn : Nat → Nat) : zK := o_zret
noncomputable def qL_557 (nS : Nat) (xn : Nat → Nat) : zK := o_push 0 (qL_558 nS xn)
noncomputable def qL_554 (nS : Nat) (xn : Nat → Nat) : zK := o_cmp Nat.beq (qL_582 nS xn) (qL_557 nS xn)
noncomputable def qL_551 (nS : Nat) (xn : Nat → Nat) : zK := o_callV 12 252 2 (qL_554 nS xn)
noncomputable def qL_550 (nS : Nat) (xn : Nat → Nat) : zK := o_sld nS xn (qL_551 nS xn)
noncomputable def qL_549 (nS : Nat) (xn : Nat → Nat) : zK := o_bin z_add (qL_550 nS xn)
noncomputable def qL_548 (nS : Nat) (xn : Nat → Nat) : zK := o_push 1 (qL_549 nS xn)
noncomputable def qL_547 (nS : Nat) (xn : Nat → Nat) : zK := o_iload 3 (qL_548 nS xn)
noncomputable def qL_546 (nS : Nat) (xn : Nat → Nat) : zK := o_aload 0 (qL_547 nS xn)
noncomputable def qL_545 (nS : Nat) (xn : Nat → Nat) : zK := o_aload 2 (qL_546 nS xn)
noncomputable def qL_542 (nS : Nat) (xn : Nat → Nat) : zK := o_callV 11 160 2 (qL_545 nS xn)
noncomputable def qL_541 (nS : Nat) (xn : Nat → Nat) : zK := o_sld nS xn (qL_542 nS xn)
noncomputable def qL_540 (nS : Nat) (xn : Nat → Nat) : zK := o_bin z_add (qL_541 nS xn)
noncomputable def qL_539 (nS : Nat) (xn : Nat → Nat) : zK := o_push 1 (qL_540 nS xn)
noncomputable def qL_538 (nS : Nat) (xn : Nat → Nat) : zK := o_iload 3 (qL_539 nS xn)
noncomputable def qL_537 (nS : Nat) (xn : Nat → Nat) : zK := o_aload 0 (qL_538 nS xn)
noncomputable def qL_536 (nS : Nat) (xn : Nat → Nat) : zK := o_aload 1 (qL_537 nS xn)
noncomputable def qL_535 (nS : Nat) (xn : Nat → Nat) : zK := o_zret
noncomputable def qL_534 (nS : Nat) (xn : Nat → Nat) : zK := o_push 0 (qL_535 nS xn)
noncomputable def qL_531 (nS : Nat) (xn : Nat → Nat) : zK := o_cmp Nat.beq (qL_582 nS xn) (qL_534 nS xn)
noncomputable def qL_528 (nS : Nat) (xn : Nat → Nat) : zK := o_callV 12 210 2 (qL_531 nS xn)
noncomputable def qL_527 (nS : Nat) (xn : Nat → Nat) : zK := o_sld nS xn (qL_528 nS xn)
noncomputable def qL_526 (nS : Nat) (xn : Nat → Nat) : zK := o_bin z_add (qL_527 nS xn)
noncomputable def qL_525 (nS : Nat) (xn : Nat → Nat) : zK := o_push 1 (qL_526 nS xn)
noncomputable def qL_524 (nS : Nat) (xn : Nat → Nat) : zK := o_iload 3 (qL_525 nS xn)
noncomputable def qL_523 (nS : Nat) (xn : Nat → Nat) : zK := o_aload 0 (qL_524 nS xn)
noncomputable def qL_522 (nS : Nat) (xn : Nat → Nat) : zK := o_aload 2 (qL_523 nS xn)
noncomputable def qL_519 (nS : Nat) (xn : Nat → Nat) : zK := o_callV 11 149 2 (qL_522 nS xn)
noncomputable def qL_518 (nS : Nat) (xn : Nat → Nat) : zK := o_sld nS xn (qL_519 nS xn)
noncomputable def qL_517 (nS : Nat) (xn : Nat → Nat) : zK := o_bin z_add (qL_518 nS xn)
noncomputable def qL_516 (nS : Nat) (xn : Nat → Nat) : zK := o_push 1 (qL_517 nS xn)
noncomputable def qL_515 (nS : Nat) (xn : Nat → Nat) : zK := o_iload 3 (qL_516 nS xn)
noncomputable def qL_514 (nS : Nat) (xn : Nat → Nat) : zK := o_aload 0 (qL_515 nS xn)
noncomputable def qL_513 (nS : Nat) (xn : Nat → Nat) : zK := o_aload 1 (qL_514 nS xn)
noncomputable def qL_512 (nS : Nat) (xn : Nat → Nat) : zK := o_zret
noncomputable def qL_511 (nS : Nat) (xn : Nat → Nat) : zK := o_push 0 (qL_512 nS xn)
noncomputable def qL_508 (nS : Nat) (xn : Nat → Nat) : zK := o_cmp Nat.beq (qL_582 nS xn) (qL_511 nS xn)
noncomputable def qL_505 (nS : Nat) (xn : Nat → Nat) : zK := o_callV 12 269 3 (qL_508 nS xn)
noncomputable def qL_504 (nS : Nat) (xn : Nat → Nat) : zK := o_sld nS xn (qL_505 nS xn)
noncomputable def qL_503 (nS : Nat) (xn : Nat → Nat) : zK := o_bin z_add (qL_504 nS xn)
noncomputable def qL_502 (nS : Nat) (xn : Nat → Nat) : zK := o_push 2 (qL_503 nS xn)
noncomputable def qL_501 (nS : Nat) (xn : Nat → Nat) : zK := o_iload 3 (qL_502 nS xn)
noncomputable def qL_500 (nS : Nat) (xn : Nat → Nat) : zK := o_aload 0 (qL_501 nS xn)
noncomputable def qL_499 (nS : Nat) (xn : Nat → Nat) : zK := o_sld nS xn (qL_500 nS xn)
noncomputable def qL_498 (nS : Nat) (xn : Nat → Nat) : zK := o_bin z_add (qL_499 nS xn)
noncomputable def qL_497 (nS : Nat) (xn : Nat → Nat) : zK := o_push 1 (qL_498 nS xn)
noncomputable def qL_496 (nS : Nat) (xn : Nat → Nat) : zK := o_iload 3 (qL_497 nS xn)
noncomputable def qL_495 (nS : Nat) (xn : Nat → Nat) : zK := o_aload 0 (qL_496 nS xn)
noncomputable def qL_494 (nS : Nat) (xn : Nat → Nat) : zK := o_aload 2 (qL_495 nS xn)
noncomputable def qL_491 (nS : Nat) (xn : Nat → Nat) : zK := o_callV 11 167 3 (qL_494 nS xn)
noncomputable def qL_490 (nS : Nat) (xn : Nat → Nat) : zK := o_sld nS xn (qL_491 nS xn)
noncomputable def qL_489 (nS : Nat) (xn : Nat → Nat) : zK := o_bin z_add (qL_490 nS xn)
noncomputable def qL_488 (nS : Nat) (xn : Nat → Nat) : zK := o_push 2 (qL_489 nS xn)
noncomputable def qL_487 (nS : Nat) (xn : Nat → Nat) : zK := o_iload 3 (qL_488 nS xn)
noncomputable def qL_486 (nS : Nat) (xn : Nat → Nat) : zK := o_aload 0 (qL_487 nS xn)
noncomputable def qL_485 (nS : Nat) (xn : Nat → Nat) : zK := o_sld nS xn (qL_486 nS xn)
noncomputable def qL_484 (nS : Nat) (xn : Nat → Nat) : zK := o_bin z_add (qL_485 nS xn)
noncomputable def qL_483 (nS : Nat) (xn : Nat → Nat) : zK := o_push 1 (qL_484 nS xn)
noncomputable def qL_482 (nS : Nat) (xn : Nat → Nat) : zK := o_iload 3 (qL_483 nS xn)
noncomputable def qL_481 (nS : Nat) (xn : Nat → Nat) : zK := o_aload 0 (qL_482 nS xn)
noncomputable def qL_480 (nS : Nat) (xn : Nat → Nat) : zK := o_aload 1 (qL_481 nS xn)
noncomputable def qL_479 (nS : Nat) (xn : Nat → Nat) : zK := o_zret
noncomputable def qL_478 (nS : Nat) (xn : Nat → Nat) : zK := o_push 0 (qL_479 nS xn)
noncomputable def qL_475 (nS : Nat) (xn : Nat → Nat) : zK := o_cmp Nat.beq (qL_582 nS xn) (qL_478 nS xn)
noncomputable def qL_472 (nS : Nat) (xn : Nat → Nat) : zK := o_callV 12 253 3 (qL_475 nS xn)
noncomputable def qL_471 (nS : Nat) (xn : Nat → Nat) : zK := o_sld nS xn (qL_472 nS xn)
noncomputable def qL_470 (nS : Nat) (xn : Nat → Nat) : zK := o_bin z_add (qL_471 nS xn)
noncomputable def qL_469 (nS : Nat) (xn : Nat → Nat) : zK := o_push 2 (qL_470 nS xn)
noncomputable def qL_468 (nS : Nat) (xn : Nat → Nat) : zK := o_iload 3 (qL_469 nS xn)
noncomputable def qL_467 (nS : Nat) (xn : Nat → Nat) : zK := o_aload 0 (qL_468 nS xn)
noncomputable def qL_466 (nS : Nat) (xn : Nat → Nat) : zK := o_sld nS xn (qL_467 nS xn)
noncomputable def qL_465 (nS : Nat) (xn : Nat → Nat) : zK := o_bin z_add (qL_466 nS xn)
noncomputable def qL_464 (nS : Nat) (xn : Nat → Nat) : zK := o_push 1 (qL_465 nS xn)
noncomputable def qL_463 (nS : Nat) (xn : Nat → Nat) : zK := o_iload 3 (qL_464 nS xn)
noncomputable def qL_462 (nS : Nat) (xn : Nat → Nat) : zK := o_aload 0 (qL_463 nS xn)
noncomputable def qL_461 (nS : Nat) (xn : Nat → Nat) : zK := o_aload 2 (qL_462 nS xn)
noncomputable def qL_458 (nS : Nat) (xn : Nat → Nat) : zK := o_callV 11 161 3 (qL_461 nS xn)
noncomputable def qL_457 (nS : Nat) (xn : Nat → Nat) : zK := o_sld nS xn (qL_458 nS xn)
noncomputable def qL_456 (nS : Nat) (xn : Nat → Nat) : zK := o_bin z_add (qL_457 nS xn)
noncomputable def qL_455 (nS : Nat) (xn : Nat → Nat) : zK := o_push 2 (qL_456 nS xn)
noncomputable def qL_454 (nS : Nat) (xn : Nat → Nat) : zK := o_iload 3 (qL_455 nS xn)
noncomputable def qL_453 (nS : Nat) (xn : Nat → Nat) : zK := o_aload 0 (qL_454 nS xn)
noncomputable def qL_452 (nS : Nat) (xn : Nat → Nat) : zK := o_sld nS xn (qL_453 nS xn)
noncomputable def qL_451 (nS : Nat) (xn : Nat → Nat) : zK := o_bin z_add (qL_452 nS xn)
noncomputable def qL_450 (nS : Nat) (xn : Nat → Nat) : zK := o_push 1 (qL_451 nS xn)
noncomputable def qL_449 (nS : Nat) (xn : Nat → Nat) : zK := o_iload 3 (qL_450 nS xn)
noncomputable def qL_448 (nS : Nat) (xn : Nat → Nat) : zK := o_aload 0 (qL_449 nS xn)
noncomputable def qL_447 (nS : Nat) (xn : Nat → Nat) : zK := o_aload 1 (qL_448 nS xn)
noncomputable def qL_444 (nS : Nat) (xn : Nat → Nat) : zK := qL_582 nS xn
noncomputable def qL_441 (nS : Nat) (xn : Nat → Nat) : zK := o_callV 12 258 1 (qL_444 nS xn)
noncomputable def qL_440 (nS : Nat) (xn : Nat → Nat) : zK := o_aload 2 (qL_441 nS xn)
noncomputable def qL_437 (nS : Nat) (xn : Nat → Nat) : zK := o_callV 11 165 1 (qL_440 nS xn)
noncomputable def qL_436 (nS : Nat) (xn : Nat → Nat) : zK := o_aload 1 (qL_437 nS xn)
noncomputable def qL_435 (nS : Nat) (xn : Nat → Nat) : zK := o_zret
noncomputable def qL_434 (nS : Nat) (xn : Nat → Nat) : zK := o_push 0 (qL_435 nS xn)
noncomputable def qL_431 (nS : Nat) (xn : Nat → Nat) : zK := o_cmp Nat.beq (qL_582 nS xn) (qL_434 nS xn)
noncomputable def qL_428 (nS : Nat) (xn : Nat → Nat) : zK := o_callV 12 239 3 (qL_431 nS xn)
noncomputable def qL_427 (nS : Nat) (xn : Nat → Nat) : zK := o_sld nS xn (qL_428 nS xn)
noncomputable def qL_426 (nS : Nat) (xn : Nat → Nat) : zK := o_bin z_add (qL_427 nS xn)
noncomputable def qL_425 (nS : Nat) (xn : Nat → Nat) : zK := o_push 2 (qL_426 nS xn)
noncomputable def qL_424 (nS : Nat) (xn : Nat → Nat) : zK := o_iload 3 (qL_425 nS xn)
noncomputable def qL_423 (nS : Nat) (xn : Nat → Nat) : zK := o_aload 0 (qL_424 nS xn)
noncomputable def qL_422 (nS : Nat) (xn : Nat → Nat) : zK := o_sld nS xn (qL_423 nS xn)
noncomputable def qL_421 (nS : Nat) (xn : Nat → Nat) : zK := o_bin z_add (qL_422 nS xn)
noncomputable def qL_420 (nS : Nat) (xn : Nat → Nat) : zK := o_push 1 (qL_421 nS xn)
noncomputable def qL_419 (nS : Nat) (xn : Nat → Nat) : zK := o_iload 3 (qL_420 nS xn)
noncomputable def qL_418 (nS : Nat) (xn : Nat → Nat) : zK := o_aload 0 (qL_419 nS xn)
noncomputable def qL_417 (nS : Nat) (xn : Nat → Nat) : zK := o_aload 2 (qL_418 nS xn)
noncomputable def qL_414 (nS : Nat) (xn : Nat → Nat) : zK := o_callV 11 155 3 (qL_417 nS xn)
noncomputable def qL_413 (nS : Nat) (xn : Nat → Nat) : zK := o_sld nS xn (qL_414 nS xn)
noncomputable def qL_412 (nS : Nat) (xn : Nat → Nat) : zK := o_bin z_add (qL_413 nS xn)
noncomputable def qL_411 (nS : Nat) (xn : Nat → Nat) : zK := o_push 2 (qL_412 nS xn)
noncomputable def qL_410 (nS : Nat) (xn : Nat → Nat) : zK := o_iload 3 (qL_411 nS xn)
noncomputable def qL_409 (nS : Nat) (xn : Nat → Nat) : zK := o_aload 0 (qL_410 nS xn)
noncomputable def qL_408 (nS : Nat) (xn : Nat → Nat) : zK := o_sld nS xn (qL_409 nS xn)
noncomputable def qL_407 (nS : Nat) (xn : Nat → Nat) : zK := o_bin z_add (qL_408 nS xn)
noncomputable def qL_406 (nS : Nat) (xn : Nat → Nat) : zK := o_push 1 (qL_407 nS xn)
noncomputable def qL_405 (nS : Nat) (xn : Nat → Nat) : zK := o_iload 3 (qL_406 nS xn)
noncomputable def qL_404 (nS : Nat) (xn : Nat → Nat) : zK := o_aload 0 (qL_405 nS xn)
noncomputable def qL_403 (nS : Nat) (xn : Nat → Nat) : zK := o_aload 1 (qL_404 nS xn)
noncomputable def qL_402 (nS : Nat) (xn : Nat → Nat) : zK := o_zret
noncomputable def qL_401 (nS : Nat) (xn : Nat → Nat) : zK := o_push 0 (qL_402 nS xn)
noncomputable def qL_398 (nS : Nat) (xn : Nat → Nat) : zK := o_cmp Nat.beq (qL_582 nS xn) (qL_401 nS xn)
noncomputable def qL_395 (nS : Nat) (xn : Nat → Nat) : zK := o_callV 12 219 2 (qL_398 nS xn)
noncomputable def qL_394 (nS : Nat) (xn : Nat → Nat) : zK := o_sld nS xn (qL_395 nS xn)
noncomputable def qL_393 (nS : Nat) (xn : Nat → Nat) : zK := o_bin z_add (qL_394 nS xn)
noncomputable def qL_392 (nS : Nat) (xn : Nat → Nat) : zK := o_push 1 (qL_393 nS xn)
noncomputable def qL_391 (nS : Nat) (xn : Nat → Nat) : zK := o_iload 3 (qL_392 nS xn)
noncomputable def qL_390 (nS : Nat) (xn : Nat → Nat) : zK := o_aload 0 (qL_391 nS xn)
noncomputable def qL_389 (nS : Nat) (xn : Nat → Nat) : zK := o_aload 2 (qL_390 nS xn)
noncomputable def qL_386 (nS : Nat) (xn : Nat → Nat) : zK := o_callV 11 153 2 (qL_389 nS xn)
noncomputable def qL_385 (nS : Nat) (xn : Nat → Nat) : zK := o_sld nS xn (qL_386 nS xn)
noncomputable def qL_384 (nS : Nat) (xn : Nat → Nat) : zK := o_bin z_add (qL_385 nS xn)
noncomputable def qL_383 (nS : Nat) (xn : Nat → Nat) : zK := o_push 1 (qL_384 nS xn)
noncomputable def qL_382 (nS : Nat) (xn : Nat → Nat) : zK := o_iload 3 (qL_383 nS xn)
noncomputable def qL_381 (nS : Nat) (xn : Nat → Nat) : zK := o_aload 0 (qL_382 nS xn)
noncomputable def qL_380 (nS : Nat) (xn : Nat → Nat) : zK := o_aload 1 (qL_381 nS xn)
noncomputable def qL_379 (nS : Nat) (xn : Nat → Nat) : zK := o_zret
noncomputable def qL_378 (nS : Nat) (xn : Nat → Nat) : zK := o_push 0 (qL_379 nS xn)
noncomputable def qL_375 (nS : Nat) (xn : Nat → Nat) : zK := o_cmp Nat.beq (qL_582 nS xn) (qL_378 nS xn)
noncomputable def qL_372 (nS : Nat) (xn : Nat → Nat) : zK := o_callV 12 249 2 (qL_375 nS xn)
noncomputable def qL_371 (nS : Nat) (xn : Nat → Nat) : zK := o_sld nS xn (qL_372 nS xn)
noncomputable def qL_370 (nS : Nat) (xn : Nat → Nat) : zK := o_bin z_add (qL_371 nS xn)
noncomputable def qL_369 (nS : Nat) (xn : Nat → Nat) : zK := o_push 1 (qL_370 nS xn)
noncomputable def qL_368 (nS : Nat) (xn : Nat → Nat) : zK := o_iload 3 (qL_369 nS xn)
noncomputable def qL_367 (nS : Nat) (xn : Nat → Nat) : zK := o_aload 0 (qL_368 nS xn)
noncomputable def qL_366 (nS : Nat) (xn : Nat → Nat) : zK := o_aload 2 (qL_367 nS xn)
noncomputable def qL_363 (nS : Nat) (xn : Nat → Nat) : zK := o_callV 11 159 2 (qL_366 nS xn)
noncomputable def qL_362 (nS : Nat) (xn : Nat → Nat) : zK := o_sld nS xn (qL_363 nS xn)
noncomputable def qL_361 (nS : Nat) (xn : Nat → Nat) : zK := o_bin z_add (qL_362 nS xn)
noncomputable def qL_360 (nS : Nat) (xn : Nat → Nat) : zK := o_push 1 (qL_361 nS xn)
noncomputable def qL_359 (nS : Nat) (xn : Nat → Nat) : zK := o_iload 3 (qL_360 nS xn)
noncomputable def qL_358 (nS : Nat) (xn : Nat → Nat) : zK := o_aload 0 (qL_359 nS xn)
noncomputable def qL_357 (nS : Nat) (xn : Nat → Nat) : zK := o_aload 1 (qL_358 nS xn)
noncomputable def qL_356 (nS : Nat) (xn : Nat → Nat) : zK := o_zret
noncomputable def qL_355 (nS : Nat) (xn : Nat → Nat) : zK := o_push 0 (qL_356 nS xn)
noncomputable def qL_352 (nS : Nat) (xn : Nat → Nat) : zK := o_cmp Nat.beq (qL_582 nS xn) (qL_355 nS xn)
noncomputable def qL_349 (nS : Nat) (xn : Nat → Nat) : zK := o_callV 12 273 2 (qL_352 nS xn)
noncomputable def qL_348 (nS : Nat) (xn : Nat → Nat) : zK := o_sld nS xn (qL_349 nS xn)
noncomputable def qL_347 (nS : Nat) (xn : Nat → Nat) : zK := o_bin z_add (qL_348 nS xn)
noncomputable def qL_346 (nS : Nat) (xn : Nat → Nat) : zK := o_push 1 (qL_347 nS xn)
noncomputable def qL_345 (nS : Nat) (xn : Nat → Nat) : zK := o_iload 3 (qL_346 nS xn)
noncomputable def qL_344 (nS : Nat) (xn : Nat → Nat) : zK := o_aload 0 (qL_345 nS xn)
noncomputable def qL_343 (nS : Nat) (xn : Nat → Nat) : zK := o_aload 2 (qL_344 nS xn)
noncomputable def qL_340 (nS : Nat) (xn : Nat → Nat) : zK := o_callV 11 168 2 (qL_343 nS xn)
noncomputable def qL_339 (nS : Nat) (xn : Nat → Nat) : zK := o_sld nS xn (qL_340 nS xn)
noncomputable def qL_338 (nS : Nat) (xn : Nat → Nat) : zK := o_bin z_add (qL_339 nS xn)
noncomputable def qL_337 (nS : Nat) (xn : Nat → Nat) : zK := o_push 1 (qL_338 nS xn)
noncomputable def qL_336 (nS : Nat) (xn : Nat → Nat) : zK := o_iload 3 (qL_337 nS xn)
noncomputable def qL_335 (nS : Nat) (xn : Nat → Nat) : zK := o_aload 0 (qL_336 nS xn)
noncomputable def qL_334 (nS : Nat) (xn : Nat → Nat) : zK := o_aload 1 (qL_335 nS xn)
noncomputable def qL_333 (nS : Nat) (xn : Nat → Nat) : zK := o_zret
noncomputable def qL_332 (nS : Nat) (xn : Nat → Nat) : zK := o_push 0 (qL_333 nS xn)
noncomputable def qL_329 (nS : Nat) (xn : Nat → Nat) : zK := o_cmp Nat.beq (qL_582 nS xn) (qL_332 nS xn)
noncomputable def qL_326 (nS : Nat) (xn : Nat → Nat) : zK := o_callV 12 257 2 (qL_329 nS xn)
noncomputable def qL_325 (nS : Nat) (xn : Nat → Nat) : zK := o_sld nS xn (qL_326 nS xn)
noncomputable def qL_324 (nS : Nat) (xn : Nat → Nat) : zK := o_bin z_add (qL_325 nS xn)
noncomputable def qL_323 (nS : Nat) (xn : Nat → Nat) : zK := o_push 1 (qL_324 nS xn)
noncomputable def qL_322 (nS : Nat) (xn : Nat → Nat) : zK := o_iload 3 (qL_323 nS xn)
noncomputable def qL_321 (nS : Nat) (xn : Nat → Nat) : zK := o_aload 0 (qL_322 nS xn)
noncomputable def qL_320 (nS : Nat) (xn : Nat → Nat) : zK := o_aload 2 (qL_321 nS xn)
noncomputable def qL_317 (nS : Nat) (xn : Nat → Nat) : zK := o_callV 11 164 2 (qL_320 nS xn)
noncomputable def qL_316 (nS : Nat) (xn : Nat → Nat) : zK := o_sld nS xn (qL_317 nS xn)
noncomputable def qL_315 (nS : Nat) (xn : Nat → Nat) : zK := o_bin z_add (qL_316 nS xn)
noncomputable def qL_314 (nS : Nat) (xn : Nat → Nat) : zK := o_push 1 (qL_315 nS xn)
noncomputable def qL_313 (nS : Nat) (xn : Nat → Nat) : zK := o_iload 3 (qL_314 nS xn)
noncomputable def qL_312 (nS : Nat) (xn : Nat → Nat) : zK := o_aload 0 (qL_313 nS xn)
noncomputable def qL_311 (nS : Nat) (xn : Nat → Nat) : zK := o_aload 1 (qL_312 nS xn)
noncomputable def qL_310 (nS : Nat) (xn : Nat → Nat) : zK := o_zret
noncomputable def qL_309 (nS : Nat) (xn : Nat → Nat) : zK := o_push 0 (qL_310 nS xn)
noncomputable def qL_306 (nS : Nat) (xn : Nat → Nat) : zK := o_cmp Nat.beq (qL_582 nS xn) (qL_309 nS xn)
noncomputable def qL_303 (nS : Nat) (xn : Nat → Nat) : zK := o_callV 12 295 2 (qL_306 nS xn)
noncomputable def qL_302 (nS : Nat) (xn : Nat → Nat) : zK := o_sld nS xn (qL_303 nS xn)
noncomputable def qL_301 (nS : Nat) (xn : Nat → Nat) : zK := o_bin z_add (qL_302 nS xn)
noncomputable def qL_300 (nS : Nat) (xn : Nat → Nat) : zK := o_push 1 (qL_301 nS xn)
noncomputable def qL_299 (nS : Nat) (xn : Nat → Nat) : zK := o_iload 3 (qL_300 nS xn)
noncomputable def qL_298 (nS : Nat) (xn : Nat → Nat) : zK := o_aload 0 (qL_299 nS xn)
noncomputable def qL_297 (nS : Nat) (xn : Nat → Nat) : zK := o_aload 2 (qL_298 nS xn)
noncomputable def qL_294 (nS : Nat) (xn : Nat → Nat) : zK := o_callV 11 174 2 (qL_297 nS xn)
noncomputable def qL_293 (nS : Nat) (xn : Nat → Nat) : zK := o_sld nS xn (qL_294 nS xn)
noncomputable def qL_292 (nS : Nat) (xn : Nat → Nat) : zK := o_bin z_add (qL_293 nS xn)
noncomputable def qL_291 (nS : Nat) (xn : Nat → Nat) : zK := o_push 1 (qL_292 nS xn)
noncomputable def qL_290 (nS : Nat) (xn : Nat → Nat) : zK := o_iload 3 (qL_291 nS xn)
noncomputable def qL_289 (nS : Nat) (xn : Nat → Nat) : zK := o_aload 0 (qL_290 nS xn)
noncomputable def qL_288 (nS : Nat) (xn : Nat → Nat) : zK := o_aload 1 (qL_289 nS xn)
noncomputable def qL_287 (nS : Nat) (xn : Nat → Nat) : zK := o_zret
noncomputable def qL_286 (nS : Nat) (xn : Nat → Nat) : zK := o_push 0 (qL_287 nS xn)
noncomputable def qL_283 (nS : Nat) (xn : Nat → Nat) : zK := o_cmp Nat.beq (qL_582 nS xn) (qL_286 nS xn)
noncomputable def qL_280 (nS : Nat) (xn : Nat → Nat) : zK := o_callV 12 242 2 (qL_283 nS xn)
noncomputable def qL_279 (nS : Nat) (xn : Nat → Nat) : zK := o_sld nS xn (qL_280 nS xn)
noncomputable def qL_278 (nS : Nat) (xn : Nat → Nat) : zK := o_bin z_add (qL_279 nS xn)
noncomputable def qL_277 (nS : Nat) (xn : Nat → Nat) : zK := o_push 1 (qL_278 nS xn)
noncomputable def qL_276 (nS : Nat) (xn : Nat → Nat) : zK := o_iload 3 (qL_277 nS xn)
noncomputable def qL_275 (nS : Nat) (xn : Nat → Nat) : zK := o_aload 0 (qL_276 nS xn)
noncomputable def qL_274 (nS : Nat) (xn : Nat → Nat) : zK := o_aload 2 (qL_275 nS xn)
noncomputable def qL_271 (nS : Nat) (xn : Nat → Nat) : zK := o_callV 11 158 2 (qL_274 nS xn)
noncomputable def qL_270 (nS : Nat) (xn : Nat → Nat) : zK := o_sld nS xn (qL_271 nS xn)
noncomputable def qL_269 (nS : Nat) (xn : Nat → Nat) : zK := o_bin z_add (qL_270 nS xn)
noncomputable def qL_268 (nS : Nat) (xn : Nat → Nat) : zK := o_push 1 (qL_269 nS xn)
noncomputable def qL_267 (nS : Nat) (xn : Nat → Nat) : zK := o_iload 3 (qL_268 nS xn)
noncomputable def qL_266 (nS : Nat) (xn : Nat → Nat) : zK := o_aload 0 (qL_267 nS xn)
noncomputable def qL_265 (nS : Nat) (xn : Nat → Nat) : zK := o_aload 1 (qL_266 nS xn)
noncomputable def qL_264 (nS : Nat) (xn : Nat → Nat) : zK := o_zret
noncomputable def qL_263 (nS : Nat) (xn : Nat → Nat) : zK := o_push 0 (qL_264 nS xn)
noncomputable def qL_260 (nS : Nat) (xn : Nat → Nat) : zK := o_cmp Nat.beq (qL_582 nS xn) (qL_263 nS xn)
noncomputable def qL_257 (nS : Nat) (xn : Nat → Nat) : zK := o_callV 12 266 2 (qL_260 nS xn)
noncomputable def qL_256 (nS : Nat) (xn : Nat → Nat) : zK := o_sld nS xn (qL_257 nS xn)
noncomputable def qL_255 (nS : Nat) (xn : Nat → Nat) : zK := o_bin z_add (qL_256 nS xn)
noncomputable def qL_254 (nS : Nat) (xn : Nat → Nat) : zK := o_push 1 (qL_255 nS xn)
noncomputable def qL_253 (nS : Nat) (xn : Nat → Nat) : zK := o_iload 3 (qL_254 nS xn)
noncomputable def qL_252 (nS : Nat) (xn : Nat → Nat) : zK := o_aload 0 (qL_253 nS xn)
noncomputable def qL_251 (nS : Nat) (xn : Nat → Nat) : zK := o_aload 2 (qL_252 nS xn)
noncomputable def qL_248 (nS : Nat) (xn : Nat → Nat) : zK := o_callV 11 166 2 (qL_251 nS xn)
noncomputable def qL_247 (nS : Nat) (xn : Nat → Nat) : zK := o_sld nS xn (qL_248 nS xn)
noncomputable def qL_246 (nS : Nat) (xn : Nat → Nat) : zK := o_bin z_add (qL_247 nS xn)
noncomputable def qL_245 (nS : Nat) (xn : Nat → Nat) : zK := o_push 1 (qL_246 nS xn)
noncomputable def qL_244 (nS : Nat) (xn : Nat → Nat) : zK := o_iload 3 (qL_245 nS xn)
noncomputable def qL_243 (nS : Nat) (xn : Nat → Nat) : zK := o_aload 0 (qL_244 nS xn)
noncomputable def qL_242 (nS : Nat) (xn : Nat → Nat) : zK := o_aload 1 (qL_243 nS xn)
noncomputable def qL_241 (nS : Nat) (xn : Nat → Nat) : zK := o_zret
noncomputable def qL_240 (nS : Nat) (xn : Nat → Nat) : zK := o_push 0 (qL_241 nS xn)
noncomputable def qL_237 (nS : Nat) (xn : Nat → Nat) : zK := o_cmp Nat.beq (qL_582 nS xn) (qL_240 nS xn)
noncomputable def qL_234 (nS : Nat) (xn : Nat → Nat) : zK := o_callV 12 201 2 (qL_237 nS xn)
noncomputable def qL_233 (nS : Nat) (xn : Nat → Nat) : zK := o_sld nS xn (qL_234 nS xn)
noncomputable def qL_232 (nS : Nat) (xn : Nat → Nat) : zK := o_bin z_add (qL_233 nS xn)
noncomputable def qL_231 (nS : Nat) (xn : Nat → Nat) : zK := o_push 1 (qL_232 nS xn)
noncomputable def qL_230 (nS : Nat) (xn : Nat → Nat) : zK := o_iload 3 (qL_231 nS xn)
noncomputable def qL_229 (nS : Nat) (xn : Nat → Nat) : zK := o_aload 0 (qL_230 nS xn)
noncomputable def qL_228 (nS : Nat) (xn : Nat → Nat) : zK := o_aload 2 (qL_229 nS xn)
noncomputable def qL_225 (nS : Nat) (xn : Nat → Nat) : zK := o_callV 11 147 2 (qL_228 nS xn)
noncomputable def qL_224 (nS : Nat) (xn : Nat → Nat) : zK := o_sld nS xn (qL_225 nS xn)
noncomputable def qL_223 (nS : Nat) (xn : Nat → Nat) : zK := o_bin z_add (qL_224 nS xn)
noncomputable def qL_222 (nS : Nat) (xn : Nat → Nat) : zK := o_push 1 (qL_223 nS xn)
noncomputable def qL_221 (nS : Nat) (xn : Nat → Nat) : zK := o_iload 3 (qL_222 nS xn)
noncomputable def qL_220 (nS : Nat) (xn : Nat → Nat) : zK := o_aload 0 (qL_221 nS xn)
noncomputable def qL_219 (nS : Nat) (xn : Nat → Nat) : zK := o_aload 1 (qL_220 nS xn)
noncomputable def qL_218 (nS : Nat) (xn : Nat → Nat) : zK := o_zret
noncomputable def qL_217 (nS : Nat) (xn : Nat → Nat) : zK := o_push 0 (qL_218 nS xn)
noncomputable def qL_214 (nS : Nat) (xn : Nat → Nat) : zK := o_cmp Nat.beq (qL_582 nS xn) (qL_217 nS xn)
noncomputable def qL_211 (nS : Nat) (xn : Nat → Nat) : zK := o_callV 12 241 1 (qL_214 nS xn)
noncomputable def qL_210 (nS : Nat) (xn : Nat → Nat) : zK := o_aload 2 (qL_211 nS xn)
noncomputable def qL_207 (nS : Nat) (xn : Nat → Nat) : zK := o_callV 11 156 1 (qL_210 nS xn)
noncomputable def qL_206 (nS : Nat) (xn : Nat → Nat) : zK := o_aload 1 (qL_207 nS xn)
noncomputable def qL_205 (nS : Nat) (xn : Nat → Nat) : zK := o_zret
noncomputable def qL_204 (nS : Nat) (xn : Nat → Nat) : zK := o_push 0 (qL_205 nS xn)
noncomputable def qL_201 (nS : Nat) (xn : Nat → Nat) : zK := o_cmp Nat.beq (qL_582 nS xn) (qL_204 nS xn)
noncomputable def qL_198 (nS : Nat) (xn : Nat → Nat) : zK := o_callV 12 200 2 (qL_201 nS xn)
noncomputable def qL_197 (nS : Nat) (xn : Nat → Nat) : zK := o_sld nS xn (qL_198 nS xn)
noncomputable def qL_196 (nS : Nat) (xn : Nat → Nat) : zK := o_bin z_add (qL_197 nS xn)
noncomputable def qL_195 (nS : Nat) (xn : Nat → Nat) : zK := o_push 1 (qL_196 nS xn)
noncomputable def qL_194 (nS : Nat) (xn : Nat → Nat) : zK := o_iload 3 (qL_195 nS xn)
noncomputable def qL_193 (nS : Nat) (xn : Nat → Nat) : zK := o_aload 0 (qL_194 nS xn)
noncomputable def qL_192 (nS : Nat) (xn : Nat → Nat) : zK := o_aload 2 (qL_193 nS xn)
noncomputable def qL_189 (nS : Nat) (xn : Nat → Nat) : zK := o_callV 11 146 2 (qL_192 nS xn)
noncomputable def qL_188 (nS : Nat) (xn : Nat → Nat) : zK := o_sld nS xn (qL_189 nS xn)
noncomputable def qL_187 (nS : Nat) (xn : Nat → Nat) : zK := o_bin z_add (qL_188 nS xn)
noncomputable def qL_186 (nS : Nat) (xn : Nat → Nat) : zK := o_push 1 (qL_187 nS xn)
noncomputable def qL_185 (nS : Nat) (xn : Nat → Nat) : zK := o_iload 3 (qL_186 nS xn)
noncomputable def qL_184 (nS : Nat) (xn : Nat → Nat) : zK := o_aload 0 (qL_185 nS xn)
noncomputable def qL_183 (nS : Nat) (xn : Nat → Nat) : zK := o_aload 1 (qL_184 nS xn)
noncomputable def qL_182 (nS : Nat) (xn : Nat → Nat) : zK := o_zret
noncomputable def qL_181 (nS : Nat) (xn : Nat → Nat) : zK := o_push 0 (qL_182 nS xn)
noncomputable def qL_178 (nS : Nat) (xn : Nat → Nat) : zK := o_cmp Nat.beq (qL_582 nS xn) (qL_181 nS xn)
noncomputable def qL_175 (nS : Nat) (xn : Nat → Nat) : zK := o_callV 12 202 6 (qL_178 nS xn)
noncomputable def qL_174 (nS : Nat) (xn : Nat → Nat) : zK := o_sld nS xn (qL_175 nS xn)
noncomputable def qL_173 (nS : Nat) (xn : Nat → Nat) : zK := o_bin z_add (qL_174 nS xn)
noncomputable def qL_172 (nS : Nat) (xn : Nat → Nat) : zK := o_push 5 (qL_173 nS xn)
noncomputable def qL_171 (nS : Nat) (xn : Nat → Nat) : zK := o_iload 3 (qL_172 nS xn)
noncomputable def qL_170 (nS : Nat) (xn : Nat → Nat) : zK := o_aload 0 (qL_171 nS xn)
noncomputable def qL_169 (nS : Nat) (xn : Nat → Nat) : zK := o_sld nS xn (qL_170 nS xn)
noncomputable def qL_168 (nS : Nat) (xn : Nat → Nat) : zK := o_bin z_add (qL_169 nS xn)
noncomputable def qL_167 (nS : Nat) (xn : Nat → Nat) : zK := o_push 4 (qL_168 nS xn)
noncomputable def qL_166 (nS : Nat) (xn : Nat → Nat) : zK := o_iload 3 (qL_167 nS xn)
noncomputable def qL_165 (nS : Nat) (xn : Nat → Nat) : zK := o_aload 0 (qL_166 nS xn)
noncomputable def qL_164 (nS : Nat) (xn : Nat → Nat) : zK := o_sld nS xn (qL_165 nS xn)
noncomputable def qL_163 (nS : Nat) (xn : Nat → Nat) : zK := o_bin z_add (qL_164 nS xn)
noncomputable def qL_162 (nS : Nat) (xn : Nat → Nat) : zK := o_push 3 (qL_163 nS xn)
noncomputable def qL_161 (nS : Nat) (xn : Nat → Nat) : zK := o_iload 3 (qL_162 nS xn)
noncomputable def qL_160 (nS : Nat) (xn : Nat → Nat) : zK := o_aload 0 (qL_161 nS xn)
noncomputable def qL_159 (nS : Nat) (xn : Nat → Nat) : zK := o_sld nS xn (qL_160 nS xn)
noncomputable def qL_158 (nS : Nat) (xn : Nat → Nat) : zK := o_bin z_add (qL_159 nS xn)
noncomputable def qL_157 (nS : Nat) (xn : Nat → Nat) : zK := o_push 2 (qL_158 nS xn)
noncomputable def qL_156 (nS : Nat) (xn : Nat → Nat) : zK := o_iload 3 (qL_157 nS xn)
noncomputable def qL_155 (nS : Nat) (xn : Nat → Nat) : zK := o_aload 0 (qL_156 nS xn)
noncomputable def qL_154 (nS : Nat) (xn : Nat → Nat) : zK := o_sld nS xn (qL_155 nS xn)
noncomputable def qL_153 (nS : Nat) (xn : Nat → Nat) : zK := o_bin z_add (qL_154 nS xn)
noncomputable def qL_152 (nS : Nat) (xn : Nat → Nat) : zK := o_push 1 (qL_153 nS xn)
noncomputable def qL_151 (nS : Nat) (xn : Nat → Nat) : zK := o_iload 3 (qL_152 nS xn)
noncomputable def qL_150 (nS : Nat) (xn : Nat → Nat) : zK := o_aload 0 (qL_151 nS xn)
noncomputable def qL_149 (nS : Nat) (xn : Nat → Nat) : zK := o_aload 2 (qL_150 nS xn)
noncomputable def qL_146 (nS : Nat) (xn : Nat → Nat) : zK := o_callV 11 148 6 (qL_149 nS xn)
noncomputable def qL_145 (nS : Nat) (xn : Nat → Nat) : zK := o_sld nS xn (qL_146 nS xn)
noncomputable def qL_144 (nS : Nat) (xn : Nat → Nat) : zK := o_bin z_add (qL_145 nS xn)
noncomputable def qL_143 (nS : Nat) (xn : Nat → Nat) : zK := o_push 5 (qL_144 nS xn)
noncomputable def qL_142 (nS : Nat) (xn : Nat → Nat) : zK := o_iload 3 (qL_143 nS xn)
noncomputable def qL_141 (nS : Nat) (xn : Nat → Nat) : zK := o_aload 0 (qL_142 nS xn)
noncomputable def qL_140 (nS : Nat) (xn : Nat → Nat) : zK := o_sld nS xn (qL_141 nS xn)
noncomputable def qL_139 (nS : Nat) (xn : Nat → Nat) : zK := o_bin z_add (qL_140 nS xn)
noncomputable def qL_138 (nS : Nat) (xn : Nat → Nat) : zK := o_push 4 (qL_139 nS xn)
noncomputable def qL_137 (nS : Nat) (xn : Nat → Nat) : zK := o_iload 3 (qL_138 nS xn)
noncomputable def qL_136 (nS : Nat) (xn : Nat → Nat) : zK := o_aload 0 (qL_137 nS xn)
noncomputable def qL_135 (nS : Nat) (xn : Nat → Nat) : zK := o_sld nS xn (qL_136 nS xn)
noncomputable def qL_134 (nS : Nat) (xn : Nat → Nat) : zK := o_bin z_add (qL_135 nS xn)
noncomputable def qL_133 (nS : Nat) (xn : Nat → Nat) : zK := o_push 3 (qL_134 nS xn)
noncomputable def qL_132 (nS : Nat) (xn : Nat → Nat) : zK := o_iload 3 (qL_133 nS xn)
noncomputable def qL_131 (nS : Nat) (xn : Nat → Nat) : zK := o_aload 0 (qL_132 nS xn)
noncomputable def qL_130 (nS : Nat) (xn : Nat → Nat) : zK := o_sld nS xn (qL_131 nS xn)
noncomputable def qL_129 (nS : Nat) (xn : Nat → Nat) : zK := o_bin z_add (qL_130 nS xn)
noncomputable def qL_128 (nS : Nat) (xn : Nat → Nat) : zK := o_push 2 (qL_129 nS xn)
noncomputable def qL_127 (nS : Nat) (xn : Nat → Nat) : zK := o_iload 3 (qL_128 nS xn)
noncomputable def qL_126 (nS : Nat) (xn : Nat → Nat) : zK := o_aload 0 (qL_127 nS xn)
noncomputable def qL_125 (nS : Nat) (xn : Nat → Nat) : zK := o_sld nS xn (qL_126 nS xn)
noncomputable def qL_124 (nS : Nat) (xn : Nat → Nat) : zK := o_bin z_add (qL_125 nS xn)
noncomputable def qL_123 (nS : Nat) (xn : Nat → Nat) : zK := o_push 1 (qL_124 nS xn)
noncomputable def qL_122 (nS : Nat) (xn : Nat → Nat) : zK := o_iload 3 (qL_123 nS xn)
noncomputable def qL_121 (nS : Nat) (xn : Nat → Nat) : zK := o_aload 0 (qL_122 nS xn)
noncomputable def qL_120 (nS : Nat) (xn : Nat → Nat) : zK := o_aload 1 (qL_121 nS xn)
noncomputable def qL_33 (nS : Nat) (xn : Nat → Nat) : zK := o_tsw [(qL_120 nS xn), (qL_183 nS xn), (qL_206 nS xn), (qL_219 nS xn), (qL_242 nS xn), (qL_265 nS xn), (qL_288 nS xn), (qL_311 nS xn), (qL_334 nS xn), (qL_357 nS xn), (qL_380 nS xn), (qL_403 nS xn), (qL_436 nS xn), (qL_447 nS xn), (qL_480 nS xn), (qL_513 nS xn), (qL_536 nS xn), (qL_559 nS xn)] (qL_582 nS xn)
noncomputable def qL_32 (nS : Nat) (xn : Nat → Nat) : zK := o_bin z_and (qL_33 nS xn)
noncomputable def qL_30 (nS : Nat) (xn : Nat → Nat) : zK := o_push 31 (qL_32 nS xn)
noncomputable def qL_29 (nS : Nat) (xn : Nat → Nat) : zK := o_sld nS xn (qL_30 nS xn)
noncomputable def qL_28 (nS : Nat) (xn : Nat → Nat) : zK := o_iload 3 (qL_29 nS xn)
noncomputable def qL_27 (nS : Nat) (xn : Nat → Nat) : zK := o_aload 0 (qL_28 nS xn)
noncomputable def qL_24 (nS : Nat) (xn : Nat → Nat) : zK := o_cmp z_gt (qL_588 nS xn) (qL_27 nS xn)
noncomputable def qL_23 (nS : Nat) (xn : Nat → Nat) : zK := o_bin z_sub (qL_24 nS xn)
noncomputable def qL_21 (nS : Nat) (xn : Nat → Nat) : zK := o_push 6 (qL_23 nS xn)
noncomputable def qL_20 (nS : Nat) (xn : Nat → Nat) : zK := o_slen nS (qL_21 nS xn)
noncomputable def qL_19 (nS : Nat) (xn : Nat → Nat) : zK := o_aload 0 (qL_20 nS xn)
noncomputable def qL_18 (nS : Nat) (xn : Nat → Nat) : zK := o_iload 3 (qL_19 nS xn)
noncomputable def qL_17 (nS : Nat) (xn : Nat → Nat) : zK := o_istore 3 (qL_18 nS xn)
noncomputable def qL_16 (nS : Nat) (xn : Nat → Nat) : zK := o_push 0 (qL_17 nS xn)
noncomputable def qL_15 (nS : Nat) (xn : Nat → Nat) : zK := o_astoreT 2 (qL_16 nS xn)
noncomputable def qL_12 (nS : Nat) (xn : Nat → Nat) : zK := o_callI 4 218 1 (qL_15 nS xn)
noncomputable def qL_11 (nS : Nat) (xn : Nat → Nat) : zK := o_dup (qL_12 nS xn)
noncomputable def qL_8 (nS : Nat) (xn : Nat → Nat) : zK := o_new 4 zcl_12 (qL_11 nS xn)
noncomputable def qL_7 (nS : Nat) (xn : Nat → Nat) : zK := o_astoreT 1 (qL_8 nS xn)
noncomputable def qL_4 (nS : Nat) (xn : Nat → Nat) : zK := o_callI 4 152 1 (qL_7 nS xn)
noncomputable def qL_3 (nS : Nat) (xn : Nat → Nat) : zK := o_dup (qL_4 nS xn)
noncomputable def qL_0 (nS : Nat) (xn : Nat → Nat) : zK := o_new 4 zcl_11 (qL_3 nS xn)
section ZLawRows
variable {l : Launch} {D : va_G} {tc : Nat → ClassId} {A : Nat → Prop} {nS : Nat} {xs : Nat → Int32} {xn : Nat → Nat}
theorem okM_589 (hx : zScr nS xs xn) : zOK l D tc A nS xs mM_law 589 (qM_589 nS xn) := s_zret rfl (by decide +kernel)
theorem okM_588 (hx : zScr nS xs xn) : zOK l D tc A nS xs mM_law 588 (qM_588 nS xn) := s_iconst (n := 1) (by decide) (by decide +kernel) (by decide +kernel) (okM_589 hx)
theorem okM_24 (hx : zScr nS xs xn) : zOK l D tc A nS xs mM_law 24 (qM_24 nS xn) := s_icmp_gt (tgt := 588) (off := 564) (by decide +kernel) (by decide) (okM_588 hx) s_none
theorem okM_23 (hx : zScr nS xs xn) : zOK l D tc A nS xs mM_law 23 (qM_23 nS xn) := s_isub (by decide +kernel) (okM_24 hx)
theorem okM_21 (hx : zScr nS xs xn) : zOK l D tc A nS xs mM_law 21 (qM_21 nS xn) := s_bipush (n := 6) (by decide) (by decide +kernel) (by decide +kernel) (okM_23 hx)
theorem okM_20 (hx : zScr nS xs xn) : zOK l D tc A nS xs mM_law 20 (qM_20 nS xn) := s_slen hx.1 zEE_script (by decide +kernel) (okM_21 hx)
theorem okM_19 (hx : zScr nS xs xn) : zOK l D tc A nS xs mM_law 19 (qM_19 nS xn) := s_aload_n (q := 0) rfl (by decide +kernel) (by decide +kernel) (okM_20 hx)
theorem okM_18 (hx : zScr nS xs xn) : zOK l D tc A nS xs mM_law 18 (qM_18 nS xn) := s_iload_n (q := 3) rfl (by decide +kernel) (by decide +kernel) (okM_19 hx)
theorem okL_589 (hx : zScr nS xs xn) : zOK l D tc A nS xs mM_law 589 (qL_589 nS xn) := s_zret rfl (by decide +kernel)
theorem okL_588 (hx : zScr nS xs xn) : zOK l D tc A nS xs mM_law 588 (qL_588 nS xn) := s_iconst (n := 1) (by decide) (by decide +kernel) (by decide +kernel) (okL_589 hx)
theorem okL_585 (hx : zScr nS xs xn) : zOK l D tc A nS xs mM_law 585 (qL_585 nS xn) := s_goto (tgt := 18) (off := (-567)) (by decide +kernel) (by decide) (okM_18 hx)
theorem okL_582 (hx : zScr nS xs xn) : zOK l D tc A nS xs mM_law 582 (qL_582 nS xn) := s_iinc (n := 6) (by decide +kernel) (by decide +kernel) (by decide +kernel) (okL_585 hx)
theorem okL_581 (hx : zScr nS xs xn) : zOK l D tc A nS xs mM_law 581 (qL_581 nS xn) := s_zret rfl (by decide +kernel)
theorem okL_580 (hx : zScr nS xs xn) : zOK l D tc A nS xs mM_law 580 (qL_580 nS xn) := s_iconst (n := 0) (by decide) (by decide +kernel) (by decide +kernel) (okL_581 hx)
theorem okL_577 (hx : zScr nS xs xn) : zOK l D tc A nS xs mM_law 577 (qL_577 nS xn) := s_icmp_eq (tgt := 582) (off := 5) (by decide +kernel) (by decide) (okL_582 hx) (okL_580 hx)
theorem okL_574 (hx : zScr nS xs xn) : zOK l D tc A nS xs mM_law 574 (qL_574 nS xn) := r_callV zEE_ok zTw_gd kls_12 (M2 := mM_X12_held) (na := 1) lb_216 calV_X12_held rfl rfl wl_0 (by decide +kernel) (okL_577 hx)
theorem okL_573 (hx : zScr nS xs xn) : zOK l D tc A nS xs mM_law 573 (qL_573 nS xn) := s_sld hx zEE_script (by decide +kernel) (okL_574 hx)
theorem okL_572 (hx : zScr nS xs xn) : zOK l D tc A nS xs mM_law 572 (qL_572 nS xn) := s_iadd (by decide +kernel) (okL_573 hx)
theorem okL_571 (hx : zScr nS xs xn) : zOK l D tc A nS xs mM_law 571 (qL_571 nS xn) := s_iconst (n := 1) (by decide) (by decide +kernel) (by decide +kernel) (okL_572 hx)
theorem okL_570 (hx : zScr nS xs xn) : zOK l D tc A nS xs mM_law 570 (qL_570 nS xn) := s_iload_n (q := 3) rfl (by decide +kernel) (by decide +kernel) (okL_571 hx)
theorem okL_569 (hx : zScr nS xs xn) : zOK l D tc A nS xs mM_law 569 (qL_569 nS xn) := s_aload_n (q := 0) rfl (by decide +kernel) (by decide +kernel) (okL_570 hx)
theorem okL_568 (hx : zScr nS xs xn) : zOK l D tc A nS xs mM_law 568 (qL_568 nS xn) := s_aload_n (q := 2) rfl (by decide +kernel) (by decide +kernel) (okL_569 hx)
theorem okL_565 (hx : zScr nS xs xn) : zOK l D tc A nS xs mM_law 565 (qL_565 nS xn) := r_callV zEE_ok zTw_gd kls_11 (M2 := mM_X11_held) (na := 1) lb_151 calV_X11_held rfl rfl wl_4 (by decide +kernel) (okL_568 hx)
theorem okL_564 (hx : zScr nS xs xn) : zOK l D tc A nS xs mM_law 564 (qL_564 nS xn) := s_sld hx zEE_script (by decide +kernel) (okL_565 hx)
theorem okL_563 (hx : zScr nS xs xn) : zOK l D tc A nS xs mM_law 563 (qL_563 nS xn) := s_iadd (by decide +kernel) (okL_564 hx)
theorem okL_562 (hx : zScr nS xs xn) : zOK l D tc A nS xs mM_law 562 (qL_562 nS xn) := s_iconst (n := 1) (by decide) (by decide +kernel) (by decide +kernel) (okL_563 hx)
theorem okL_561 (hx : zScr nS xs xn) : zOK l D tc A nS xs mM_law 561 (qL_561 nS xn) := s_iload_n (q := 3) rfl (by decide +kernel) (by decide +kernel) (okL_562 hx)
theorem okL_560 (hx : zScr nS xs xn) : zOK l D tc A nS xs mM_law 560 (qL_560 nS xn) := s_aload_n (q := 0) rfl (by decide +kernel) (by decide +kernel) (okL_561 hx)
theorem okL_559 (hx : zScr nS xs xn) : zOK l D tc A nS xs mM_law 559 (qL_559 nS xn) := s_aload_n (q := 1) rfl (by decide +kernel) (by decide +kernel) (okL_560 hx)
theorem okL_558 (hx : zScr nS xs xn) : zOK l D tc A nS xs mM_law 558 (qL_558 nS xn) := s_zret rfl (by decide +kernel)
theorem okL_557 (hx : zScr nS xs xn) : zOK l D tc A nS xs mM_law 557 (qL_557 nS xn) := s_iconst (n := 0) (by decide) (by decide +kernel) (by decide +kernel) (okL_558 hx)
theorem okL_554 (hx : zScr nS xs xn) : zOK l D tc A nS xs mM_law 554 (qL_554 nS xn) := s_icmp_eq (tgt := 582) (off := 28) (by decide +kernel) (by decide) (okL_582 hx) (okL_557 hx)
theorem okL_551 (hx : zScr nS xs xn) : zOK l D tc A nS xs mM_law 551 (qL_551 nS xn) := r_callV zEE_ok zTw_gd kls_12 (M2 := mM_X12_peek) (na := 1) lb_252 calV_X12_peek rfl rfl wl_8 (by decide +kernel) (okL_554 hx)
theorem okL_550 (hx : zScr nS xs xn) : zOK l D tc A nS xs mM_law 550 (qL_550 nS xn) := s_sld hx zEE_script (by decide +kernel) (okL_551 hx)
theorem okL_549 (hx : zScr nS xs xn) : zOK l D tc A nS xs mM_law 549 (qL_549 nS xn) := s_iadd (by decide +kernel) (okL_550 hx)
theorem okL_548 (hx : zScr nS xs xn) : zOK l D tc A nS xs mM_law 548 (qL_548 nS xn) := s_iconst (n := 1) (by decide) (by decide +kernel) (by decide +kernel) (okL_549 hx)
theorem okL_547 (hx : zScr nS xs xn) : zOK l D tc A nS xs mM_law 547 (qL_547 nS xn) := s_iload_n (q := 3) rfl (by decide +kernel) (by decide +kernel) (okL_548 hx)
theorem okL_546 (hx : zScr nS xs xn) : zOK l D tc A nS xs mM_law 546 (qL_546 nS xn) := s_aload_n (q := 0) rfl (by decide +kernel) (by decide +kernel) (okL_547 hx)
theorem okL_545 (hx : zScr nS xs xn) : zOK l D tc A nS xs mM_law 545 (qL_545 nS xn) := s_aload_n (q := 2) rfl (by decide +kernel) (by decide +kernel) (okL_546 hx)
theorem okL_542 (hx : zScr nS xs xn) : zOK l D tc A nS xs mM_law 542 (qL_542 nS xn) := r_callV zEE_ok zTw_gd kls_11 (M2 := mM_X11_peek) (na := 1) lb_160 calV_X11_peek rfl rfl wl_12 (by decide +kernel) (okL_545 hx)
theorem okL_541 (hx : zScr nS xs xn) : zOK l D tc A nS xs mM_law 541 (qL_541 nS xn) := s_sld hx zEE_script (by decide +kernel) (okL_542 hx)
theorem okL_540 (hx : zScr nS xs xn) : zOK l D tc A nS xs mM_law 540 (qL_540 nS xn) := s_iadd (by decide +kernel) (okL_541 hx)
theorem okL_539 (hx : zScr nS xs xn) : zOK l D tc A nS xs mM_law 539 (qL_539 nS xn) := s_iconst (n := 1) (by decide) (by decide +kernel) (by decide +kernel) (okL_540 hx)
theorem okL_538 (hx : zScr nS xs xn) : zOK l D tc A nS xs mM_law 538 (qL_538 nS xn) := s_iload_n (q := 3) rfl (by decide +kernel) (by decide +kernel) (okL_539 hx)
theorem okL_537 (hx : zScr nS xs xn) : zOK l D tc A nS xs mM_law 537 (qL_537 nS xn) := s_aload_n (q := 0) rfl (by decide +kernel) (by decide +kernel) (okL_538 hx)
theorem okL_536 (hx : zScr nS xs xn) : zOK l D tc A nS xs mM_law 536 (qL_536 nS xn) := s_aload_n (q := 1) rfl (by decide +kernel) (by decide +kernel) (okL_537 hx)
theorem okL_535 (hx : zScr nS xs xn) : zOK l D tc A nS xs mM_law 535 (qL_535 nS xn) := s_zret rfl (by decide +kernel)
theorem okL_534 (hx : zScr nS xs xn) : zOK l D tc A nS xs mM_law 534 (qL_534 nS xn) := s_iconst (n := 0) (by decide) (by decide +kernel) (by decide +kernel) (okL_535 hx)
theorem okL_531 (hx : zScr nS xs xn) : zOK l D tc A nS xs mM_law 531 (qL_531 nS xn) := s_icmp_eq (tgt := 582) (off := 51) (by decide +kernel) (by decide) (okL_582 hx) (okL_534 hx)
theorem okL_528 (hx : zScr nS xs xn) : zOK l D tc A nS xs mM_law 528 (qL_528 nS xn) := r_callV zEE_ok zTw_gd kls_12 (M2 := mM_X12_go) (na := 1) lb_210 calV_X12_go rfl rfl wl_16 (by decide +kernel) (okL_531 hx)
theorem okL_527 (hx : zScr nS xs xn) : zOK l D tc A nS xs mM_law 527 (qL_527 nS xn) := s_sld hx zEE_script (by decide +kernel) (okL_528 hx)
theorem okL_526 (hx : zScr nS xs xn) : zOK l D tc A nS xs mM_law 526 (qL_526 nS xn) := s_iadd (by decide +kernel) (okL_527 hx)
theorem okL_525 (hx : zScr nS xs xn) : zOK l D tc A nS xs mM_law 525 (qL_525 nS xn) := s_iconst (n := 1) (by decide) (by decide +kernel) (by decide +kernel) (okL_526 hx)
theorem okL_524 (hx : zScr nS xs xn) : zOK l D tc A nS xs mM_law 524 (qL_524 nS xn) := s_iload_n (q := 3) rfl (by decide +kernel) (by decide +kernel) (okL_525 hx)
theorem okL_523 (hx : zScr nS xs xn) : zOK l D tc A nS xs mM_law 523 (qL_523 nS xn) := s_aload_n (q := 0) rfl (by decide +kernel) (by decide +kernel) (okL_524 hx)
theorem okL_522 (hx : zScr nS xs xn) : zOK l D tc A nS xs mM_law 522 (qL_522 nS xn) := s_aload_n (q := 2) rfl (by decide +kernel) (by decide +kernel) (okL_523 hx)
theorem okL_519 (hx : zScr nS xs xn) : zOK l D tc A nS xs mM_law 519 (qL_519 nS xn) := r_callV zEE_ok zTw_gd kls_11 (M2 := mM_X11_go) (na := 1) lb_149 calV_X11_go rfl rfl wl_20 (by decide +kernel) (okL_522 hx)
theorem okL_518 (hx : zScr nS xs xn) : zOK l D tc A nS xs mM_law 518 (qL_518 nS xn) := s_sld hx zEE_script (by decide +kernel) (okL_519 hx)
theorem okL_517 (hx : zScr nS xs xn) : zOK l D tc A nS xs mM_law 517 (qL_517 nS xn) := s_iadd (by decide +kernel) (okL_518 hx)
theorem okL_516 (hx : zScr nS xs xn) : zOK l D tc A nS xs mM_law 516 (qL_516 nS xn) := s_iconst (n := 1) (by decide) (by decide +kernel) (by decide +kernel) (okL_517 hx)
theorem okL_515 (hx : zScr nS xs xn) : zOK l D tc A nS xs mM_law 515 (qL_515 nS xn) := s_iload_n (q := 3) rfl (by decide +kernel) (by decide +kernel) (okL_516 hx)
theorem okL_514 (hx : zScr nS xs xn) : zOK l D tc A nS xs mM_law 514 (qL_514 nS xn) := s_aload_n (q := 0) rfl (by decide +kernel) (by decide +kernel) (okL_515 hx)
theorem okL_513 (hx : zScr nS xs xn) : zOK l D tc A nS xs mM_law 513 (qL_513 nS xn) := s_aload_n (q := 1) rfl (by decide +kernel) (by decide +kernel) (okL_514 hx)
theorem okL_512 (hx : zScr nS xs xn) : zOK l D tc A nS xs mM_law 512 (qL_512 nS xn) := s_zret rfl (by decide +kernel)
theorem okL_511 (hx : zScr nS xs xn) : zOK l D tc A nS xs mM_law 511 (qL_511 nS xn) := s_iconst (n := 0) (by decide) (by decide +kernel) (by decide +kernel) (okL_512 hx)
theorem okL_508 (hx : zScr nS xs xn) : zOK l D tc A nS xs mM_law 508 (qL_508 nS xn) := s_icmp_eq (tgt := 582) (off := 74) (by decide +kernel) (by decide) (okL_582 hx) (okL_511 hx)
theorem okL_505 (hx : zScr nS xs xn) : zOK l D tc A nS xs mM_law 505 (qL_505 nS xn) := r_callV zEE_ok zTw_gd kls_12 (M2 := mM_X12_set) (na := 2) lb_269 calV_X12_set rfl rfl wl_24 (by decide +kernel) (okL_508 hx)
theorem okL_504 (hx : zScr nS xs xn) : zOK l D tc A nS xs mM_law 504 (qL_504 nS xn) := s_sld hx zEE_script (by decide +kernel) (okL_505 hx)
theorem okL_503 (hx : zScr nS xs xn) : zOK l D tc A nS xs mM_law 503 (qL_503 nS xn) := s_iadd (by decide +kernel) (okL_504 hx)
theorem okL_502 (hx : zScr nS xs xn) : zOK l D tc A nS xs mM_law 502 (qL_502 nS xn) := s_iconst (n := 2) (by decide) (by decide +kernel) (by decide +kernel) (okL_503 hx)
theorem okL_501 (hx : zScr nS xs xn) : zOK l D tc A nS xs mM_law 501 (qL_501 nS xn) := s_iload_n (q := 3) rfl (by decide +kernel) (by decide +kernel) (okL_502 hx)
theorem okL_500 (hx : zScr nS xs xn) : zOK l D tc A nS xs mM_law 500 (qL_500 nS xn) := s_aload_n (q := 0) rfl (by decide +kernel) (by decide +kernel) (okL_501 hx)
theorem okL_499 (hx : zScr nS xs xn) : zOK l D tc A nS xs mM_law 499 (qL_499 nS xn) := s_sld hx zEE_script (by decide +kernel) (okL_500 hx)
theorem okL_498 (hx : zScr nS xs xn) : zOK l D tc A nS xs mM_law 498 (qL_498 nS xn) := s_iadd (by decide +kernel) (okL_499 hx)
theorem okL_497 (hx : zScr nS xs xn) : zOK l D tc A nS xs mM_law 497 (qL_497 nS xn) := s_iconst (n := 1) (by decide) (by decide +kernel) (by decide +kernel) (okL_498 hx)
theorem okL_496 (hx : zScr nS xs xn) : zOK l D tc A nS xs mM_law 496 (qL_496 nS xn) := s_iload_n (q := 3) rfl (by decide +kernel) (by decide +kernel) (okL_497 hx)
theorem okL_495 (hx : zScr nS xs xn) : zOK l D tc A nS xs mM_law 495 (qL_495 nS xn) := s_aload_n (q := 0) rfl (by decide +kernel) (by decide +kernel) (okL_496 hx)
theorem okL_494 (hx : zScr nS xs xn) : zOK l D tc A nS xs mM_law 494 (qL_494 nS xn) := s_aload_n (q := 2) rfl (by decide +kernel) (by decide +kernel) (okL_495 hx)
theorem okL_491 (hx : zScr nS xs xn) : zOK l D tc A nS xs mM_law 491 (qL_491 nS xn) := r_callV zEE_ok zTw_gd kls_11 (M2 := mM_X11_set) (na := 2) lb_167 calV_X11_set rfl rfl wl_28 (by decide +kernel) (okL_494 hx)
theorem okL_490 (hx : zScr nS xs xn) : zOK l D tc A nS xs mM_law 490 (qL_490 nS xn) := s_sld hx zEE_script (by decide +kernel) (okL_491 hx)
theorem okL_489 (hx : zScr nS xs xn) : zOK l D tc A nS xs mM_law 489 (qL_489 nS xn) := s_iadd (by decide +kernel) (okL_490 hx)
theorem okL_488 (hx : zScr nS xs xn) : zOK l D tc A nS xs mM_law 488 (qL_488 nS xn) := s_iconst (n := 2) (by decide) (by decide +kernel) (by decide +kernel) (okL_489 hx)
theorem okL_487 (hx : zScr nS xs xn) : zOK l D tc A nS xs mM_law 487 (qL_487 nS xn) := s_iload_n (q := 3) rfl (by decide +kernel) (by decide +kernel) (okL_488 hx)
theorem okL_486 (hx : zScr nS xs xn) : zOK l D tc A nS xs mM_law 486 (qL_486 nS xn) := s_aload_n (q := 0) rfl (by decide +kernel) (by decide +kernel) (okL_487 hx)
theorem okL_485 (hx : zScr nS xs xn) : zOK l D tc A nS xs mM_law 485 (qL_485 nS xn) := s_sld hx zEE_script (by decide +kernel) (okL_486 hx)
theorem okL_484 (hx : zScr nS xs xn) : zOK l D tc A nS xs mM_law 484 (qL_484 nS xn) := s_iadd (by decide +kernel) (okL_485 hx)
theorem okL_483 (hx : zScr nS xs xn) : zOK l D tc A nS xs mM_law 483 (qL_483 nS xn) := s_iconst (n := 1) (by decide) (by decide +kernel) (by decide +kernel) (okL_484 hx)
theorem okL_482 (hx : zScr nS xs xn) : zOK l D tc A nS xs mM_law 482 (qL_482 nS xn) := s_iload_n (q := 3) rfl (by decide +kernel) (by decide +kernel) (okL_483 hx)
theorem okL_481 (hx : zScr nS xs xn) : zOK l D tc A nS xs mM_law 481 (qL_481 nS xn) := s_aload_n (q := 0) rfl (by decide +kernel) (by decide +kernel) (okL_482 hx)
theorem okL_480 (hx : zScr nS xs xn) : zOK l D tc A nS xs mM_law 480 (qL_480 nS xn) := s_aload_n (q := 1) rfl (by decide +kernel) (by decide +kernel) (okL_481 hx)
theorem okL_479 (hx : zScr nS xs xn) : zOK l D tc A nS xs mM_law 479 (qL_479 nS xn) := s_zret rfl (by decide +kernel)
theorem okL_478 (hx : zScr nS xs xn) : zOK l D tc A nS xs mM_law 478 (qL_478 nS xn) := s_iconst (n := 0) (by decide) (by decide +kernel) (by decide +kernel) (okL_479 hx)
theorem okL_475 (hx : zScr nS xs xn) : zOK l D tc A nS xs mM_law 475 (qL_475 nS xn) := s_icmp_eq (tgt := 582) (off := 107) (by decide +kernel) (by decide) (okL_582 hx) (okL_478 hx)
theorem okL_472 (hx : zScr nS xs xn) : zOK l D tc A nS xs mM_law 472 (qL_472 nS xn) := r_callV zEE_ok zTw_gd kls_12 (M2 := mM_X12_poke) (na := 2) lb_253 calV_X12_poke rfl rfl wl_32 (by decide +kernel) (okL_475 hx)
theorem okL_471 (hx : zScr nS xs xn) : zOK l D tc A nS xs mM_law 471 (qL_471 nS xn) := s_sld hx zEE_script (by decide +kernel) (okL_472 hx)
theorem okL_470 (hx : zScr nS xs xn) : zOK l D tc A nS xs mM_law 470 (qL_470 nS xn) := s_iadd (by decide +kernel) (okL_471 hx)
theorem okL_469 (hx : zScr nS xs xn) : zOK l D tc A nS xs mM_law 469 (qL_469 nS xn) := s_iconst (n := 2) (by decide) (by decide +kernel) (by decide +kernel) (okL_470 hx)
theorem okL_468 (hx : zScr nS xs xn) : zOK l D tc A nS xs mM_law 468 (qL_468 nS xn) := s_iload_n (q := 3) rfl (by decide +kernel) (by decide +kernel) (okL_469 hx)
theorem okL_467 (hx : zScr nS xs xn) : zOK l D tc A nS xs mM_law 467 (qL_467 nS xn) := s_aload_n (q := 0) rfl (by decide +kernel) (by decide +kernel) (okL_468 hx)
theorem okL_466 (hx : zScr nS xs xn) : zOK l D tc A nS xs mM_law 466 (qL_466 nS xn) := s_sld hx zEE_script (by decide +kernel) (okL_467 hx)
theorem okL_465 (hx : zScr nS xs xn) : zOK l D tc A nS xs mM_law 465 (qL_465 nS xn) := s_iadd (by decide +kernel) (okL_466 hx)
theorem okL_464 (hx : zScr nS xs xn) : zOK l D tc A nS xs mM_law 464 (qL_464 nS xn) := s_iconst (n := 1) (by decide) (by decide +kernel) (by decide +kernel) (okL_465 hx)
theorem okL_463 (hx : zScr nS xs xn) : zOK l D tc A nS xs mM_law 463 (qL_463 nS xn) := s_iload_n (q := 3) rfl (by decide +kernel) (by decide +kernel) (okL_464 hx)
theorem okL_462 (hx : zScr nS xs xn) : zOK l D tc A nS xs mM_law 462 (qL_462 nS xn) := s_aload_n (q := 0) rfl (by decide +kernel) (by decide +kernel) (okL_463 hx)
theorem okL_461 (hx : zScr nS xs xn) : zOK l D tc A nS xs mM_law 461 (qL_461 nS xn) := s_aload_n (q := 2) rfl (by decide +kernel) (by decide +kernel) (okL_462 hx)
theorem okL_458 (hx : zScr nS xs xn) : zOK l D tc A nS xs mM_law 458 (qL_458 nS xn) := r_callV zEE_ok zTw_gd kls_11 (M2 := mM_X11_poke) (na := 2) lb_161 calV_X11_poke rfl rfl wl_36 (by decide +kernel) (okL_461 hx)
theorem okL_457 (hx : zScr nS xs xn) : zOK l D tc A nS xs mM_law 457 (qL_457 nS xn) := s_sld hx zEE_script (by decide +kernel) (okL_458 hx)
theorem okL_456 (hx : zScr nS xs xn) : zOK l D tc A nS xs mM_law 456 (qL_456 nS xn) := s_iadd (by decide +kernel) (okL_457 hx)
theorem okL_455 (hx : zScr nS xs xn) : zOK l D tc A nS xs mM_law 455 (qL_455 nS xn) := s_iconst (n := 2) (by decide) (by decide +kernel) (by decide +kernel) (okL_456 hx)
theorem okL_454 (hx : zScr nS xs xn) : zOK l D tc A nS xs mM_law 454 (qL_454 nS xn) := s_iload_n (q := 3) rfl (by decide +kernel) (by decide +kernel) (okL_455 hx)
theorem okL_453 (hx : zScr nS xs xn) : zOK l D tc A nS xs mM_law 453 (qL_453 nS xn) := s_aload_n (q := 0) rfl (by decide +kernel) (by decide +kernel) (okL_454 hx)
theorem okL_452 (hx : zScr nS xs xn) : zOK l D tc A nS xs mM_law 452 (qL_452 nS xn) := s_sld hx zEE_script (by decide +kernel) (okL_453 hx)
theorem okL_451 (hx : zScr nS xs xn) : zOK l D tc A nS xs mM_law 451 (qL_451 nS xn) := s_iadd (by decide +kernel) (okL_452 hx)
theorem okL_450 (hx : zScr nS xs xn) : zOK l D tc A nS xs mM_law 450 (qL_450 nS xn) := s_iconst (n := 1) (by decide) (by decide +kernel) (by decide +kernel) (okL_451 hx)
theorem okL_449 (hx : zScr nS xs xn) : zOK l D tc A nS xs mM_law 449 (qL_449 nS xn) := s_iload_n (q := 3) rfl (by decide +kernel) (by decide +kernel) (okL_450 hx)
theorem okL_448 (hx : zScr nS xs xn) : zOK l D tc A nS xs mM_law 448 (qL_448 nS xn) := s_aload_n (q := 0) rfl (by decide +kernel) (by decide +kernel) (okL_449 hx)
theorem okL_447 (hx : zScr nS xs xn) : zOK l D tc A nS xs mM_law 447 (qL_447 nS xn) := s_aload_n (q := 1) rfl (by decide +kernel) (by decide +kernel) (okL_448 hx)
theorem okL_444 (hx : zScr nS xs xn) : zOK l D tc A nS xs mM_law 444 (qL_444 nS xn) := s_goto (tgt := 582) (off := 138) (by decide +kernel) (by decide) (okL_582 hx)
theorem okL_441 (hx : zScr nS xs xn) : zOK l D tc A nS xs mM_law 441 (qL_441 nS xn) := r_callV zEE_ok zTw_gd kls_12 (M2 := mM_X12_reset) (na := 0) lb_258 calV_X12_reset rfl rfl wl_40 (by decide +kernel) (okL_444 hx)
theorem okL_440 (hx : zScr nS xs xn) : zOK l D tc A nS xs mM_law 440 (qL_440 nS xn) := s_aload_n (q := 2) rfl (by decide +kernel) (by decide +kernel) (okL_441 hx)
theorem okL_437 (hx : zScr nS xs xn) : zOK l D tc A nS xs mM_law 437 (qL_437 nS xn) := r_callV zEE_ok zTw_gd kls_11 (M2 := mM_X11_reset) (na := 0) lb_165 calV_X11_reset rfl rfl wl_41 (by decide +kernel) (okL_440 hx)
theorem okL_436 (hx : zScr nS xs xn) : zOK l D tc A nS xs mM_law 436 (qL_436 nS xn) := s_aload_n (q := 1) rfl (by decide +kernel) (by decide +kernel) (okL_437 hx)
theorem okL_435 (hx : zScr nS xs xn) : zOK l D tc A nS xs mM_law 435 (qL_435 nS xn) := s_zret rfl (by decide +kernel)
theorem okL_434 (hx : zScr nS xs xn) : zOK l D tc A nS xs mM_law 434 (qL_434 nS xn) := s_iconst (n := 0) (by decide) (by decide +kernel) (by decide +kernel) (okL_435 hx)
theorem okL_431 (hx : zScr nS xs xn) : zOK l D tc A nS xs mM_law 431 (qL_431 nS xn) := s_icmp_eq (tgt := 582) (off := 151) (by decide +kernel) (by decide) (okL_582 hx) (okL_434 hx)
theorem okL_428 (hx : zScr nS xs xn) : zOK l D tc A nS xs mM_law 428 (qL_428 nS xn) := r_callV zEE_ok zTw_gd kls_12 (M2 := mM_X12_letter) (na := 2) lb_239 calV_X12_letter rfl rfl wl_45 (by decide +kernel) (okL_431 hx)
theorem okL_427 (hx : zScr nS xs xn) : zOK l D tc A nS xs mM_law 427 (qL_427 nS xn) := s_sld hx zEE_script (by decide +kernel) (okL_428 hx)
theorem okL_426 (hx : zScr nS xs xn) : zOK l D tc A nS xs mM_law 426 (qL_426 nS xn) := s_iadd (by decide +kernel) (okL_427 hx)
theorem okL_425 (hx : zScr nS xs xn) : zOK l D tc A nS xs mM_law 425 (qL_425 nS xn) := s_iconst (n := 2) (by decide) (by decide +kernel) (by decide +kernel) (okL_426 hx)
theorem okL_424 (hx : zScr nS xs xn) : zOK l D tc A nS xs mM_law 424 (qL_424 nS xn) := s_iload_n (q := 3) rfl (by decide +kernel) (by decide +kernel) (okL_425 hx)
theorem okL_423 (hx : zScr nS xs xn) : zOK l D tc A nS xs mM_law 423 (qL_423 nS xn) := s_aload_n (q := 0) rfl (by decide +kernel) (by decide +kernel) (okL_424 hx)
theorem okL_422 (hx : zScr nS xs xn) : zOK l D tc A nS xs mM_law 422 (qL_422 nS xn) := s_sld hx zEE_script (by decide +kernel) (okL_423 hx)
theorem okL_421 (hx : zScr nS xs xn) : zOK l D tc A nS xs mM_law 421 (qL_421 nS xn) := s_iadd (by decide +kernel) (okL_422 hx)
theorem okL_420 (hx : zScr nS xs xn) : zOK l D tc A nS xs mM_law 420 (qL_420 nS xn) := s_iconst (n := 1) (by decide) (by decide +kernel) (by decide +kernel) (okL_421 hx)
theorem okL_419 (hx : zScr nS xs xn) : zOK l D tc A nS xs mM_law 419 (qL_419 nS xn) := s_iload_n (q := 3) rfl (by decide +kernel) (by decide +kernel) (okL_420 hx)
theorem okL_418 (hx : zScr nS xs xn) : zOK l D tc A nS xs mM_law 418 (qL_418 nS xn) := s_aload_n (q := 0) rfl (by decide +kernel) (by decide +kernel) (okL_419 hx)
theorem okL_417 (hx : zScr nS xs xn) : zOK l D tc A nS xs mM_law 417 (qL_417 nS xn) := s_aload_n (q := 2) rfl (by decide +kernel) (by decide +kernel) (okL_418 hx)
theorem okL_414 (hx : zScr nS xs xn) : zOK l D tc A nS xs mM_law 414 (qL_414 nS xn) := r_callV zEE_ok zTw_gd kls_11 (M2 := mM_X11_letter) (na := 2) lb_155 calV_X11_letter rfl rfl wl_49 (by decide +kernel) (okL_417 hx)
theorem okL_413 (hx : zScr nS xs xn) : zOK l D tc A nS xs mM_law 413 (qL_413 nS xn) := s_sld hx zEE_script (by decide +kernel) (okL_414 hx)
theorem okL_412 (hx : zScr nS xs xn) : zOK l D tc A nS xs mM_law 412 (qL_412 nS xn) := s_iadd (by decide +kernel) (okL_413 hx)
theorem okL_411 (hx : zScr nS xs xn) : zOK l D tc A nS xs mM_law 411 (qL_411 nS xn) := s_iconst (n := 2) (by decide) (by decide +kernel) (by decide +kernel) (okL_412 hx)
theorem okL_410 (hx : zScr nS xs xn) : zOK l D tc A nS xs mM_law 410 (qL_410 nS xn) := s_iload_n (q := 3) rfl (by decide +kernel) (by decide +kernel) (okL_411 hx)
theorem okL_409 (hx : zScr nS xs xn) : zOK l D tc A nS xs mM_law 409 (qL_409 nS xn) := s_aload_n (q := 0) rfl (by decide +kernel) (by decide +kernel) (okL_410 hx)
theorem okL_408 (hx : zScr nS xs xn) : zOK l D tc A nS xs mM_law 408 (qL_408 nS xn) := s_sld hx zEE_script (by decide +kernel) (okL_409 hx)
theorem okL_407 (hx : zScr nS xs xn) : zOK l D tc A nS xs mM_law 407 (qL_407 nS xn) := s_iadd (by decide +kernel) (okL_408 hx)
theorem okL_406 (hx : zScr nS xs xn) : zOK l D tc A nS xs mM_law 406 (qL_406 nS xn) := s_iconst (n := 1) (by decide) (by decide +kernel) (by decide +kernel) (okL_407 hx)
theorem okL_405 (hx : zScr nS xs xn) : zOK l D tc A nS xs mM_law 405 (qL_405 nS xn) := s_iload_n (q := 3) rfl (by decide +kernel) (by decide +kernel) (okL_406 hx)
theorem okL_404 (hx : zScr nS xs xn) : zOK l D tc A nS xs mM_law 404 (qL_404 nS xn) := s_aload_n (q := 0) rfl (by decide +kernel) (by decide +kernel) (okL_405 hx)
theorem okL_403 (hx : zScr nS xs xn) : zOK l D tc A nS xs mM_law 403 (qL_403 nS xn) := s_aload_n (q := 1) rfl (by decide +kernel) (by decide +kernel) (okL_404 hx)
theorem okL_402 (hx : zScr nS xs xn) : zOK l D tc A nS xs mM_law 402 (qL_402 nS xn) := s_zret rfl (by decide +kernel)
theorem okL_401 (hx : zScr nS xs xn) : zOK l D tc A nS xs mM_law 401 (qL_401 nS xn) := s_iconst (n := 0) (by decide) (by decide +kernel) (by decide +kernel) (okL_402 hx)
theorem okL_398 (hx : zScr nS xs xn) : zOK l D tc A nS xs mM_law 398 (qL_398 nS xn) := s_icmp_eq (tgt := 582) (off := 184) (by decide +kernel) (by decide) (okL_582 hx) (okL_401 hx)
theorem okL_395 (hx : zScr nS xs xn) : zOK l D tc A nS xs mM_law 395 (qL_395 nS xn) := r_callV zEE_ok zTw_gd kls_12 (M2 := mM_X12_input) (na := 1) lb_219 calV_X12_input rfl rfl wl_53 (by decide +kernel) (okL_398 hx)
theorem okL_394 (hx : zScr nS xs xn) : zOK l D tc A nS xs mM_law 394 (qL_394 nS xn) := s_sld hx zEE_script (by decide +kernel) (okL_395 hx)
theorem okL_393 (hx : zScr nS xs xn) : zOK l D tc A nS xs mM_law 393 (qL_393 nS xn) := s_iadd (by decide +kernel) (okL_394 hx)
theorem okL_392 (hx : zScr nS xs xn) : zOK l D tc A nS xs mM_law 392 (qL_392 nS xn) := s_iconst (n := 1) (by decide) (by decide +kernel) (by decide +kernel) (okL_393 hx)
theorem okL_391 (hx : zScr nS xs xn) : zOK l D tc A nS xs mM_law 391 (qL_391 nS xn) := s_iload_n (q := 3) rfl (by decide +kernel) (by decide +kernel) (okL_392 hx)
theorem okL_390 (hx : zScr nS xs xn) : zOK l D tc A nS xs mM_law 390 (qL_390 nS xn) := s_aload_n (q := 0) rfl (by decide +kernel) (by decide +kernel) (okL_391 hx)
theorem okL_389 (hx : zScr nS xs xn) : zOK l D tc A nS xs mM_law 389 (qL_389 nS xn) := s_aload_n (q := 2) rfl (by decide +kernel) (by decide +kernel) (okL_390 hx)
theorem okL_386 (hx : zScr nS xs xn) : zOK l D tc A nS xs mM_law 386 (qL_386 nS xn) := r_callV zEE_ok zTw_gd kls_11 (M2 := mM_X11_input) (na := 1) lb_153 calV_X11_input rfl rfl wl_57 (by decide +kernel) (okL_389 hx)
theorem okL_385 (hx : zScr nS xs xn) : zOK l D tc A nS xs mM_law 385 (qL_385 nS xn) := s_sld hx zEE_script (by decide +kernel) (okL_386 hx)
theorem okL_384 (hx : zScr nS xs xn) : zOK l D tc A nS xs mM_law 384 (qL_384 nS xn) := s_iadd (by decide +kernel) (okL_385 hx)
theorem okL_383 (hx : zScr nS xs xn) : zOK l D tc A nS xs mM_law 383 (qL_383 nS xn) := s_iconst (n := 1) (by decide) (by decide +kernel) (by decide +kernel) (okL_384 hx)
theorem okL_382 (hx : zScr nS xs xn) : zOK l D tc A nS xs mM_law 382 (qL_382 nS xn) := s_iload_n (q := 3) rfl (by decide +kernel) (by decide +kernel) (okL_383 hx)
theorem okL_381 (hx : zScr nS xs xn) : zOK l D tc A nS xs mM_law 381 (qL_381 nS xn) := s_aload_n (q := 0) rfl (by decide +kernel) (by decide +kernel) (okL_382 hx)
theorem okL_380 (hx : zScr nS xs xn) : zOK l D tc A nS xs mM_law 380 (qL_380 nS xn) := s_aload_n (q := 1) rfl (by decide +kernel) (by decide +kernel) (okL_381 hx)
theorem okL_379 (hx : zScr nS xs xn) : zOK l D tc A nS xs mM_law 379 (qL_379 nS xn) := s_zret rfl (by decide +kernel)
theorem okL_378 (hx : zScr nS xs xn) : zOK l D tc A nS xs mM_law 378 (qL_378 nS xn) := s_iconst (n := 0) (by decide) (by decide +kernel) (by decide +kernel) (okL_379 hx)
theorem okL_375 (hx : zScr nS xs xn) : zOK l D tc A nS xs mM_law 375 (qL_375 nS xn) := s_icmp_eq (tgt := 582) (off := 207) (by decide +kernel) (by decide) (okL_582 hx) (okL_378 hx)
theorem okL_372 (hx : zScr nS xs xn) : zOK l D tc A nS xs mM_law 372 (qL_372 nS xn) := r_callV zEE_ok zTw_gd kls_12 (M2 := mM_X12_out) (na := 1) lb_249 calV_X12_out rfl rfl wl_61 (by decide +kernel) (okL_375 hx)
theorem okL_371 (hx : zScr nS xs xn) : zOK l D tc A nS xs mM_law 371 (qL_371 nS xn) := s_sld hx zEE_script (by decide +kernel) (okL_372 hx)
theorem okL_370 (hx : zScr nS xs xn) : zOK l D tc A nS xs mM_law 370 (qL_370 nS xn) := s_iadd (by decide +kernel) (okL_371 hx)
theorem okL_369 (hx : zScr nS xs xn) : zOK l D tc A nS xs mM_law 369 (qL_369 nS xn) := s_iconst (n := 1) (by decide) (by decide +kernel) (by decide +kernel) (okL_370 hx)
theorem okL_368 (hx : zScr nS xs xn) : zOK l D tc A nS xs mM_law 368 (qL_368 nS xn) := s_iload_n (q := 3) rfl (by decide +kernel) (by decide +kernel) (okL_369 hx)
theorem okL_367 (hx : zScr nS xs xn) : zOK l D tc A nS xs mM_law 367 (qL_367 nS xn) := s_aload_n (q := 0) rfl (by decide +kernel) (by decide +kernel) (okL_368 hx)
theorem okL_366 (hx : zScr nS xs xn) : zOK l D tc A nS xs mM_law 366 (qL_366 nS xn) := s_aload_n (q := 2) rfl (by decide +kernel) (by decide +kernel) (okL_367 hx)
theorem okL_363 (hx : zScr nS xs xn) : zOK l D tc A nS xs mM_law 363 (qL_363 nS xn) := r_callV zEE_ok zTw_gd kls_11 (M2 := mM_X11_out) (na := 1) lb_159 calV_X11_out rfl rfl wl_65 (by decide +kernel) (okL_366 hx)
theorem okL_362 (hx : zScr nS xs xn) : zOK l D tc A nS xs mM_law 362 (qL_362 nS xn) := s_sld hx zEE_script (by decide +kernel) (okL_363 hx)
theorem okL_361 (hx : zScr nS xs xn) : zOK l D tc A nS xs mM_law 361 (qL_361 nS xn) := s_iadd (by decide +kernel) (okL_362 hx)
theorem okL_360 (hx : zScr nS xs xn) : zOK l D tc A nS xs mM_law 360 (qL_360 nS xn) := s_iconst (n := 1) (by decide) (by decide +kernel) (by decide +kernel) (okL_361 hx)
theorem okL_359 (hx : zScr nS xs xn) : zOK l D tc A nS xs mM_law 359 (qL_359 nS xn) := s_iload_n (q := 3) rfl (by decide +kernel) (by decide +kernel) (okL_360 hx)
theorem okL_358 (hx : zScr nS xs xn) : zOK l D tc A nS xs mM_law 358 (qL_358 nS xn) := s_aload_n (q := 0) rfl (by decide +kernel) (by decide +kernel) (okL_359 hx)
theorem okL_357 (hx : zScr nS xs xn) : zOK l D tc A nS xs mM_law 357 (qL_357 nS xn) := s_aload_n (q := 1) rfl (by decide +kernel) (by decide +kernel) (okL_358 hx)
theorem okL_356 (hx : zScr nS xs xn) : zOK l D tc A nS xs mM_law 356 (qL_356 nS xn) := s_zret rfl (by decide +kernel)
theorem okL_355 (hx : zScr nS xs xn) : zOK l D tc A nS xs mM_law 355 (qL_355 nS xn) := s_iconst (n := 0) (by decide) (by decide +kernel) (by decide +kernel) (okL_356 hx)
theorem okL_352 (hx : zScr nS xs xn) : zOK l D tc A nS xs mM_law 352 (qL_352 nS xn) := s_icmp_eq (tgt := 582) (off := 230) (by decide +kernel) (by decide) (okL_582 hx) (okL_355 hx)
theorem okL_349 (hx : zScr nS xs xn) : zOK l D tc A nS xs mM_law 349 (qL_349 nS xn) := r_callV zEE_ok zTw_gd kls_12 (M2 := mM_X12_shown) (na := 1) lb_273 calV_X12_shown rfl rfl wl_69 (by decide +kernel) (okL_352 hx)
theorem okL_348 (hx : zScr nS xs xn) : zOK l D tc A nS xs mM_law 348 (qL_348 nS xn) := s_sld hx zEE_script (by decide +kernel) (okL_349 hx)
theorem okL_347 (hx : zScr nS xs xn) : zOK l D tc A nS xs mM_law 347 (qL_347 nS xn) := s_iadd (by decide +kernel) (okL_348 hx)
theorem okL_346 (hx : zScr nS xs xn) : zOK l D tc A nS xs mM_law 346 (qL_346 nS xn) := s_iconst (n := 1) (by decide) (by decide +kernel) (by decide +kernel) (okL_347 hx)
theorem okL_345 (hx : zScr nS xs xn) : zOK l D tc A nS xs mM_law 345 (qL_345 nS xn) := s_iload_n (q := 3) rfl (by decide +kernel) (by decide +kernel) (okL_346 hx)
theorem okL_344 (hx : zScr nS xs xn) : zOK l D tc A nS xs mM_law 344 (qL_344 nS xn) := s_aload_n (q := 0) rfl (by decide +kernel) (by decide +kernel) (okL_345 hx)
theorem okL_343 (hx : zScr nS xs xn) : zOK l D tc A nS xs mM_law 343 (qL_343 nS xn) := s_aload_n (q := 2) rfl (by decide +kernel) (by decide +kernel) (okL_344 hx)
theorem okL_340 (hx : zScr nS xs xn) : zOK l D tc A nS xs mM_law 340 (qL_340 nS xn) := r_callV zEE_ok zTw_gd kls_11 (M2 := mM_X11_shown) (na := 1) lb_168 calV_X11_shown rfl rfl wl_73 (by decide +kernel) (okL_343 hx)
theorem okL_339 (hx : zScr nS xs xn) : zOK l D tc A nS xs mM_law 339 (qL_339 nS xn) := s_sld hx zEE_script (by decide +kernel) (okL_340 hx)
theorem okL_338 (hx : zScr nS xs xn) : zOK l D tc A nS xs mM_law 338 (qL_338 nS xn) := s_iadd (by decide +kernel) (okL_339 hx)
theorem okL_337 (hx : zScr nS xs xn) : zOK l D tc A nS xs mM_law 337 (qL_337 nS xn) := s_iconst (n := 1) (by decide) (by decide +kernel) (by decide +kernel) (okL_338 hx)
theorem okL_336 (hx : zScr nS xs xn) : zOK l D tc A nS xs mM_law 336 (qL_336 nS xn) := s_iload_n (q := 3) rfl (by decide +kernel) (by decide +kernel) (okL_337 hx)
theorem okL_335 (hx : zScr nS xs xn) : zOK l D tc A nS xs mM_law 335 (qL_335 nS xn) := s_aload_n (q := 0) rfl (by decide +kernel) (by decide +kernel) (okL_336 hx)
theorem okL_334 (hx : zScr nS xs xn) : zOK l D tc A nS xs mM_law 334 (qL_334 nS xn) := s_aload_n (q := 1) rfl (by decide +kernel) (by decide +kernel) (okL_335 hx)
theorem okL_333 (hx : zScr nS xs xn) : zOK l D tc A nS xs mM_law 333 (qL_333 nS xn) := s_zret rfl (by decide +kernel)
theorem okL_332 (hx : zScr nS xs xn) : zOK l D tc A nS xs mM_law 332 (qL_332 nS xn) := s_iconst (n := 0) (by decide) (by decide +kernel) (by decide +kernel) (okL_333 hx)
theorem okL_329 (hx : zScr nS xs xn) : zOK l D tc A nS xs mM_law 329 (qL_329 nS xn) := s_icmp_eq (tgt := 582) (off := 253) (by decide +kernel) (by decide) (okL_582 hx) (okL_332 hx)
theorem okL_326 (hx : zScr nS xs xn) : zOK l D tc A nS xs mM_law 326 (qL_326 nS xn) := r_callV zEE_ok zTw_gd kls_12 (M2 := mM_X12_register) (na := 1) lb_257 calV_X12_register rfl rfl wl_77 (by decide +kernel) (okL_329 hx)
theorem okL_325 (hx : zScr nS xs xn) : zOK l D tc A nS xs mM_law 325 (qL_325 nS xn) := s_sld hx zEE_script (by decide +kernel) (okL_326 hx)
theorem okL_324 (hx : zScr nS xs xn) : zOK l D tc A nS xs mM_law 324 (qL_324 nS xn) := s_iadd (by decide +kernel) (okL_325 hx)
theorem okL_323 (hx : zScr nS xs xn) : zOK l D tc A nS xs mM_law 323 (qL_323 nS xn) := s_iconst (n := 1) (by decide) (by decide +kernel) (by decide +kernel) (okL_324 hx)
theorem okL_322 (hx : zScr nS xs xn) : zOK l D tc A nS xs mM_law 322 (qL_322 nS xn) := s_iload_n (q := 3) rfl (by decide +kernel) (by decide +kernel) (okL_323 hx)
theorem okL_321 (hx : zScr nS xs xn) : zOK l D tc A nS xs mM_law 321 (qL_321 nS xn) := s_aload_n (q := 0) rfl (by decide +kernel) (by decide +kernel) (okL_322 hx)
theorem okL_320 (hx : zScr nS xs xn) : zOK l D tc A nS xs mM_law 320 (qL_320 nS xn) := s_aload_n (q := 2) rfl (by decide +kernel) (by decide +kernel) (okL_321 hx)
theorem okL_317 (hx : zScr nS xs xn) : zOK l D tc A nS xs mM_law 317 (qL_317 nS xn) := r_callV zEE_ok zTw_gd kls_11 (M2 := mM_X11_register) (na := 1) lb_164 calV_X11_register rfl rfl wl_81 (by decide +kernel) (okL_320 hx)
theorem okL_316 (hx : zScr nS xs xn) : zOK l D tc A nS xs mM_law 316 (qL_316 nS xn) := s_sld hx zEE_script (by decide +kernel) (okL_317 hx)
theorem okL_315 (hx : zScr nS xs xn) : zOK l D tc A nS xs mM_law 315 (qL_315 nS xn) := s_iadd (by decide +kernel) (okL_316 hx)
theorem okL_314 (hx : zScr nS xs xn) : zOK l D tc A nS xs mM_law 314 (qL_314 nS xn) := s_iconst (n := 1) (by decide) (by decide +kernel) (by decide +kernel) (okL_315 hx)
theorem okL_313 (hx : zScr nS xs xn) : zOK l D tc A nS xs mM_law 313 (qL_313 nS xn) := s_iload_n (q := 3) rfl (by decide +kernel) (by decide +kernel) (okL_314 hx)
theorem okL_312 (hx : zScr nS xs xn) : zOK l D tc A nS xs mM_law 312 (qL_312 nS xn) := s_aload_n (q := 0) rfl (by decide +kernel) (by decide +kernel) (okL_313 hx)
theorem okL_311 (hx : zScr nS xs xn) : zOK l D tc A nS xs mM_law 311 (qL_311 nS xn) := s_aload_n (q := 1) rfl (by decide +kernel) (by decide +kernel) (okL_312 hx)
theorem okL_310 (hx : zScr nS xs xn) : zOK l D tc A nS xs mM_law 310 (qL_310 nS xn) := s_zret rfl (by decide +kernel)
theorem okL_309 (hx : zScr nS xs xn) : zOK l D tc A nS xs mM_law 309 (qL_309 nS xn) := s_iconst (n := 0) (by decide) (by decide +kernel) (by decide +kernel) (okL_310 hx)
theorem okL_306 (hx : zScr nS xs xn) : zOK l D tc A nS xs mM_law 306 (qL_306 nS xn) := s_icmp_eq (tgt := 582) (off := 276) (by decide +kernel) (by decide) (okL_582 hx) (okL_309 hx)
theorem okL_303 (hx : zScr nS xs xn) : zOK l D tc A nS xs mM_law 303 (qL_303 nS xn) := r_callV zEE_ok zTw_gd kls_12 (M2 := mM_X12_word_) (na := 1) lb_295 calV_X12_word_ rfl rfl wl_85 (by decide +kernel) (okL_306 hx)
theorem okL_302 (hx : zScr nS xs xn) : zOK l D tc A nS xs mM_law 302 (qL_302 nS xn) := s_sld hx zEE_script (by decide +kernel) (okL_303 hx)
theorem okL_301 (hx : zScr nS xs xn) : zOK l D tc A nS xs mM_law 301 (qL_301 nS xn) := s_iadd (by decide +kernel) (okL_302 hx)
theorem okL_300 (hx : zScr nS xs xn) : zOK l D tc A nS xs mM_law 300 (qL_300 nS xn) := s_iconst (n := 1) (by decide) (by decide +kernel) (by decide +kernel) (okL_301 hx)
theorem okL_299 (hx : zScr nS xs xn) : zOK l D tc A nS xs mM_law 299 (qL_299 nS xn) := s_iload_n (q := 3) rfl (by decide +kernel) (by decide +kernel) (okL_300 hx)
theorem okL_298 (hx : zScr nS xs xn) : zOK l D tc A nS xs mM_law 298 (qL_298 nS xn) := s_aload_n (q := 0) rfl (by decide +kernel) (by decide +kernel) (okL_299 hx)
theorem okL_297 (hx : zScr nS xs xn) : zOK l D tc A nS xs mM_law 297 (qL_297 nS xn) := s_aload_n (q := 2) rfl (by decide +kernel) (by decide +kernel) (okL_298 hx)
theorem okL_294 (hx : zScr nS xs xn) : zOK l D tc A nS xs mM_law 294 (qL_294 nS xn) := r_callV zEE_ok zTw_gd kls_11 (M2 := mM_X11_word) (na := 1) lb_174 calV_X11_word rfl rfl wl_89 (by decide +kernel) (okL_297 hx)
theorem okL_293 (hx : zScr nS xs xn) : zOK l D tc A nS xs mM_law 293 (qL_293 nS xn) := s_sld hx zEE_script (by decide +kernel) (okL_294 hx)
theorem okL_292 (hx : zScr nS xs xn) : zOK l D tc A nS xs mM_law 292 (qL_292 nS xn) := s_iadd (by decide +kernel) (okL_293 hx)
theorem okL_291 (hx : zScr nS xs xn) : zOK l D tc A nS xs mM_law 291 (qL_291 nS xn) := s_iconst (n := 1) (by decide) (by decide +kernel) (by decide +kernel) (okL_292 hx)
theorem okL_290 (hx : zScr nS xs xn) : zOK l D tc A nS xs mM_law 290 (qL_290 nS xn) := s_iload_n (q := 3) rfl (by decide +kernel) (by decide +kernel) (okL_291 hx)
theorem okL_289 (hx : zScr nS xs xn) : zOK l D tc A nS xs mM_law 289 (qL_289 nS xn) := s_aload_n (q := 0) rfl (by decide +kernel) (by decide +kernel) (okL_290 hx)
theorem okL_288 (hx : zScr nS xs xn) : zOK l D tc A nS xs mM_law 288 (qL_288 nS xn) := s_aload_n (q := 1) rfl (by decide +kernel) (by decide +kernel) (okL_289 hx)
theorem okL_287 (hx : zScr nS xs xn) : zOK l D tc A nS xs mM_law 287 (qL_287 nS xn) := s_zret rfl (by decide +kernel)
theorem okL_286 (hx : zScr nS xs xn) : zOK l D tc A nS xs mM_law 286 (qL_286 nS xn) := s_iconst (n := 0) (by decide) (by decide +kernel) (by decide +kernel) (okL_287 hx)
theorem okL_283 (hx : zScr nS xs xn) : zOK l D tc A nS xs mM_law 283 (qL_283 nS xn) := s_icmp_eq (tgt := 582) (off := 299) (by decide +kernel) (by decide) (okL_582 hx) (okL_286 hx)
theorem okL_280 (hx : zScr nS xs xn) : zOK l D tc A nS xs mM_law 280 (qL_280 nS xn) := r_callV zEE_ok zTw_gd kls_12 (M2 := mM_X12_look) (na := 1) lb_242 calV_X12_look rfl rfl wl_93 (by decide +kernel) (okL_283 hx)
theorem okL_279 (hx : zScr nS xs xn) : zOK l D tc A nS xs mM_law 279 (qL_279 nS xn) := s_sld hx zEE_script (by decide +kernel) (okL_280 hx)
theorem okL_278 (hx : zScr nS xs xn) : zOK l D tc A nS xs mM_law 278 (qL_278 nS xn) := s_iadd (by decide +kernel) (okL_279 hx)
theorem okL_277 (hx : zScr nS xs xn) : zOK l D tc A nS xs mM_law 277 (qL_277 nS xn) := s_iconst (n := 1) (by decide) (by decide +kernel) (by decide +kernel) (okL_278 hx)
theorem okL_276 (hx : zScr nS xs xn) : zOK l D tc A nS xs mM_law 276 (qL_276 nS xn) := s_iload_n (q := 3) rfl (by decide +kernel) (by decide +kernel) (okL_277 hx)
theorem okL_275 (hx : zScr nS xs xn) : zOK l D tc A nS xs mM_law 275 (qL_275 nS xn) := s_aload_n (q := 0) rfl (by decide +kernel) (by decide +kernel) (okL_276 hx)
theorem okL_274 (hx : zScr nS xs xn) : zOK l D tc A nS xs mM_law 274 (qL_274 nS xn) := s_aload_n (q := 2) rfl (by decide +kernel) (by decide +kernel) (okL_275 hx)
theorem okL_271 (hx : zScr nS xs xn) : zOK l D tc A nS xs mM_law 271 (qL_271 nS xn) := r_callV zEE_ok zTw_gd kls_11 (M2 := mM_X11_look) (na := 1) lb_158 calV_X11_look rfl rfl wl_97 (by decide +kernel) (okL_274 hx)
theorem okL_270 (hx : zScr nS xs xn) : zOK l D tc A nS xs mM_law 270 (qL_270 nS xn) := s_sld hx zEE_script (by decide +kernel) (okL_271 hx)
theorem okL_269 (hx : zScr nS xs xn) : zOK l D tc A nS xs mM_law 269 (qL_269 nS xn) := s_iadd (by decide +kernel) (okL_270 hx)
theorem okL_268 (hx : zScr nS xs xn) : zOK l D tc A nS xs mM_law 268 (qL_268 nS xn) := s_iconst (n := 1) (by decide) (by decide +kernel) (by decide +kernel) (okL_269 hx)
theorem okL_267 (hx : zScr nS xs xn) : zOK l D tc A nS xs mM_law 267 (qL_267 nS xn) := s_iload_n (q := 3) rfl (by decide +kernel) (by decide +kernel) (okL_268 hx)
theorem okL_266 (hx : zScr nS xs xn) : zOK l D tc A nS xs mM_law 266 (qL_266 nS xn) := s_aload_n (q := 0) rfl (by decide +kernel) (by decide +kernel) (okL_267 hx)
theorem okL_265 (hx : zScr nS xs xn) : zOK l D tc A nS xs mM_law 265 (qL_265 nS xn) := s_aload_n (q := 1) rfl (by decide +kernel) (by decide +kernel) (okL_266 hx)
theorem okL_264 (hx : zScr nS xs xn) : zOK l D tc A nS xs mM_law 264 (qL_264 nS xn) := s_zret rfl (by decide +kernel)
theorem okL_263 (hx : zScr nS xs xn) : zOK l D tc A nS xs mM_law 263 (qL_263 nS xn) := s_iconst (n := 0) (by decide) (by decide +kernel) (by decide +kernel) (okL_264 hx)
theorem okL_260 (hx : zScr nS xs xn) : zOK l D tc A nS xs mM_law 260 (qL_260 nS xn) := s_icmp_eq (tgt := 582) (off := 322) (by decide +kernel) (by decide) (okL_582 hx) (okL_263 hx)
theorem okL_257 (hx : zScr nS xs xn) : zOK l D tc A nS xs mM_law 257 (qL_257 nS xn) := r_callV zEE_ok zTw_gd kls_12 (M2 := mM_X12_run) (na := 1) lb_266 calV_X12_run rfl rfl wl_101 (by decide +kernel) (okL_260 hx)
theorem okL_256 (hx : zScr nS xs xn) : zOK l D tc A nS xs mM_law 256 (qL_256 nS xn) := s_sld hx zEE_script (by decide +kernel) (okL_257 hx)
theorem okL_255 (hx : zScr nS xs xn) : zOK l D tc A nS xs mM_law 255 (qL_255 nS xn) := s_iadd (by decide +kernel) (okL_256 hx)
theorem okL_254 (hx : zScr nS xs xn) : zOK l D tc A nS xs mM_law 254 (qL_254 nS xn) := s_iconst (n := 1) (by decide) (by decide +kernel) (by decide +kernel) (okL_255 hx)
theorem okL_253 (hx : zScr nS xs xn) : zOK l D tc A nS xs mM_law 253 (qL_253 nS xn) := s_iload_n (q := 3) rfl (by decide +kernel) (by decide +kernel) (okL_254 hx)
theorem okL_252 (hx : zScr nS xs xn) : zOK l D tc A nS xs mM_law 252 (qL_252 nS xn) := s_aload_n (q := 0) rfl (by decide +kernel) (by decide +kernel) (okL_253 hx)
theorem okL_251 (hx : zScr nS xs xn) : zOK l D tc A nS xs mM_law 251 (qL_251 nS xn) := s_aload_n (q := 2) rfl (by decide +kernel) (by decide +kernel) (okL_252 hx)
theorem okL_248 (hx : zScr nS xs xn) : zOK l D tc A nS xs mM_law 248 (qL_248 nS xn) := r_callV zEE_ok zTw_gd kls_11 (M2 := mM_X11_run) (na := 1) lb_166 calV_X11_run rfl rfl wl_105 (by decide +kernel) (okL_251 hx)
theorem okL_247 (hx : zScr nS xs xn) : zOK l D tc A nS xs mM_law 247 (qL_247 nS xn) := s_sld hx zEE_script (by decide +kernel) (okL_248 hx)
theorem okL_246 (hx : zScr nS xs xn) : zOK l D tc A nS xs mM_law 246 (qL_246 nS xn) := s_iadd (by decide +kernel) (okL_247 hx)
theorem okL_245 (hx : zScr nS xs xn) : zOK l D tc A nS xs mM_law 245 (qL_245 nS xn) := s_iconst (n := 1) (by decide) (by decide +kernel) (by decide +kernel) (okL_246 hx)
theorem okL_244 (hx : zScr nS xs xn) : zOK l D tc A nS xs mM_law 244 (qL_244 nS xn) := s_iload_n (q := 3) rfl (by decide +kernel) (by decide +kernel) (okL_245 hx)
theorem okL_243 (hx : zScr nS xs xn) : zOK l D tc A nS xs mM_law 243 (qL_243 nS xn) := s_aload_n (q := 0) rfl (by decide +kernel) (by decide +kernel) (okL_244 hx)
theorem okL_242 (hx : zScr nS xs xn) : zOK l D tc A nS xs mM_law 242 (qL_242 nS xn) := s_aload_n (q := 1) rfl (by decide +kernel) (by decide +kernel) (okL_243 hx)
theorem okL_241 (hx : zScr nS xs xn) : zOK l D tc A nS xs mM_law 241 (qL_241 nS xn) := s_zret rfl (by decide +kernel)
theorem okL_240 (hx : zScr nS xs xn) : zOK l D tc A nS xs mM_law 240 (qL_240 nS xn) := s_iconst (n := 0) (by decide) (by decide +kernel) (by decide +kernel) (okL_241 hx)
theorem okL_237 (hx : zScr nS xs xn) : zOK l D tc A nS xs mM_law 237 (qL_237 nS xn) := s_icmp_eq (tgt := 582) (off := 345) (by decide +kernel) (by decide) (okL_582 hx) (okL_240 hx)
theorem okL_234 (hx : zScr nS xs xn) : zOK l D tc A nS xs mM_law 234 (qL_234 nS xn) := r_callV zEE_ok zTw_gd kls_12 (M2 := mM_X12_fault) (na := 1) lb_201 calV_X12_fault rfl rfl wl_109 (by decide +kernel) (okL_237 hx)
theorem okL_233 (hx : zScr nS xs xn) : zOK l D tc A nS xs mM_law 233 (qL_233 nS xn) := s_sld hx zEE_script (by decide +kernel) (okL_234 hx)
theorem okL_232 (hx : zScr nS xs xn) : zOK l D tc A nS xs mM_law 232 (qL_232 nS xn) := s_iadd (by decide +kernel) (okL_233 hx)
theorem okL_231 (hx : zScr nS xs xn) : zOK l D tc A nS xs mM_law 231 (qL_231 nS xn) := s_iconst (n := 1) (by decide) (by decide +kernel) (by decide +kernel) (okL_232 hx)
theorem okL_230 (hx : zScr nS xs xn) : zOK l D tc A nS xs mM_law 230 (qL_230 nS xn) := s_iload_n (q := 3) rfl (by decide +kernel) (by decide +kernel) (okL_231 hx)
theorem okL_229 (hx : zScr nS xs xn) : zOK l D tc A nS xs mM_law 229 (qL_229 nS xn) := s_aload_n (q := 0) rfl (by decide +kernel) (by decide +kernel) (okL_230 hx)
theorem okL_228 (hx : zScr nS xs xn) : zOK l D tc A nS xs mM_law 228 (qL_228 nS xn) := s_aload_n (q := 2) rfl (by decide +kernel) (by decide +kernel) (okL_229 hx)
theorem okL_225 (hx : zScr nS xs xn) : zOK l D tc A nS xs mM_law 225 (qL_225 nS xn) := r_callV zEE_ok zTw_gd kls_11 (M2 := mM_X11_fault) (na := 1) lb_147 calV_X11_fault rfl rfl wl_113 (by decide +kernel) (okL_228 hx)
theorem okL_224 (hx : zScr nS xs xn) : zOK l D tc A nS xs mM_law 224 (qL_224 nS xn) := s_sld hx zEE_script (by decide +kernel) (okL_225 hx)
theorem okL_223 (hx : zScr nS xs xn) : zOK l D tc A nS xs mM_law 223 (qL_223 nS xn) := s_iadd (by decide +kernel) (okL_224 hx)
theorem okL_222 (hx : zScr nS xs xn) : zOK l D tc A nS xs mM_law 222 (qL_222 nS xn) := s_iconst (n := 1) (by decide) (by decide +kernel) (by decide +kernel) (okL_223 hx)
theorem okL_221 (hx : zScr nS xs xn) : zOK l D tc A nS xs mM_law 221 (qL_221 nS xn) := s_iload_n (q := 3) rfl (by decide +kernel) (by decide +kernel) (okL_222 hx)
theorem okL_220 (hx : zScr nS xs xn) : zOK l D tc A nS xs mM_law 220 (qL_220 nS xn) := s_aload_n (q := 0) rfl (by decide +kernel) (by decide +kernel) (okL_221 hx)
theorem okL_219 (hx : zScr nS xs xn) : zOK l D tc A nS xs mM_law 219 (qL_219 nS xn) := s_aload_n (q := 1) rfl (by decide +kernel) (by decide +kernel) (okL_220 hx)
theorem okL_218 (hx : zScr nS xs xn) : zOK l D tc A nS xs mM_law 218 (qL_218 nS xn) := s_zret rfl (by decide +kernel)
theorem okL_217 (hx : zScr nS xs xn) : zOK l D tc A nS xs mM_law 217 (qL_217 nS xn) := s_iconst (n := 0) (by decide) (by decide +kernel) (by decide +kernel) (okL_218 hx)
theorem okL_214 (hx : zScr nS xs xn) : zOK l D tc A nS xs mM_law 214 (qL_214 nS xn) := s_icmp_eq (tgt := 582) (off := 368) (by decide +kernel) (by decide) (okL_582 hx) (okL_217 hx)
theorem okL_211 (hx : zScr nS xs xn) : zOK l D tc A nS xs mM_law 211 (qL_211 nS xn) := r_callV zEE_ok zTw_gd kls_12 (M2 := mM_X12_load) (na := 0) lb_241 calV_X12_load rfl rfl wl_117 (by decide +kernel) (okL_214 hx)
theorem okL_210 (hx : zScr nS xs xn) : zOK l D tc A nS xs mM_law 210 (qL_210 nS xn) := s_aload_n (q := 2) rfl (by decide +kernel) (by decide +kernel) (okL_211 hx)
theorem okL_207 (hx : zScr nS xs xn) : zOK l D tc A nS xs mM_law 207 (qL_207 nS xn) := r_callV zEE_ok zTw_gd kls_11 (M2 := mM_X11_load) (na := 0) lb_156 calV_X11_load rfl rfl wl_121 (by decide +kernel) (okL_210 hx)
theorem okL_206 (hx : zScr nS xs xn) : zOK l D tc A nS xs mM_law 206 (qL_206 nS xn) := s_aload_n (q := 1) rfl (by decide +kernel) (by decide +kernel) (okL_207 hx)
theorem okL_205 (hx : zScr nS xs xn) : zOK l D tc A nS xs mM_law 205 (qL_205 nS xn) := s_zret rfl (by decide +kernel)
theorem okL_204 (hx : zScr nS xs xn) : zOK l D tc A nS xs mM_law 204 (qL_204 nS xn) := s_iconst (n := 0) (by decide) (by decide +kernel) (by decide +kernel) (okL_205 hx)
theorem okL_201 (hx : zScr nS xs xn) : zOK l D tc A nS xs mM_law 201 (qL_201 nS xn) := s_icmp_eq (tgt := 582) (off := 381) (by decide +kernel) (by decide) (okL_582 hx) (okL_204 hx)
theorem okL_198 (hx : zScr nS xs xn) : zOK l D tc A nS xs mM_law 198 (qL_198 nS xn) := r_callV zEE_ok zTw_gd kls_12 (M2 := mM_X12_end) (na := 1) lb_200 calV_X12_end rfl rfl wl_125 (by decide +kernel) (okL_201 hx)
theorem okL_197 (hx : zScr nS xs xn) : zOK l D tc A nS xs mM_law 197 (qL_197 nS xn) := s_sld hx zEE_script (by decide +kernel) (okL_198 hx)
theorem okL_196 (hx : zScr nS xs xn) : zOK l D tc A nS xs mM_law 196 (qL_196 nS xn) := s_iadd (by decide +kernel) (okL_197 hx)
theorem okL_195 (hx : zScr nS xs xn) : zOK l D tc A nS xs mM_law 195 (qL_195 nS xn) := s_iconst (n := 1) (by decide) (by decide +kernel) (by decide +kernel) (okL_196 hx)
theorem okL_194 (hx : zScr nS xs xn) : zOK l D tc A nS xs mM_law 194 (qL_194 nS xn) := s_iload_n (q := 3) rfl (by decide +kernel) (by decide +kernel) (okL_195 hx)
theorem okL_193 (hx : zScr nS xs xn) : zOK l D tc A nS xs mM_law 193 (qL_193 nS xn) := s_aload_n (q := 0) rfl (by decide +kernel) (by decide +kernel) (okL_194 hx)
theorem okL_192 (hx : zScr nS xs xn) : zOK l D tc A nS xs mM_law 192 (qL_192 nS xn) := s_aload_n (q := 2) rfl (by decide +kernel) (by decide +kernel) (okL_193 hx)
theorem okL_189 (hx : zScr nS xs xn) : zOK l D tc A nS xs mM_law 189 (qL_189 nS xn) := r_callV zEE_ok zTw_gd kls_11 (M2 := mM_X11_end) (na := 1) lb_146 calV_X11_end rfl rfl wl_129 (by decide +kernel) (okL_192 hx)
theorem okL_188 (hx : zScr nS xs xn) : zOK l D tc A nS xs mM_law 188 (qL_188 nS xn) := s_sld hx zEE_script (by decide +kernel) (okL_189 hx)
theorem okL_187 (hx : zScr nS xs xn) : zOK l D tc A nS xs mM_law 187 (qL_187 nS xn) := s_iadd (by decide +kernel) (okL_188 hx)
theorem okL_186 (hx : zScr nS xs xn) : zOK l D tc A nS xs mM_law 186 (qL_186 nS xn) := s_iconst (n := 1) (by decide) (by decide +kernel) (by decide +kernel) (okL_187 hx)
theorem okL_185 (hx : zScr nS xs xn) : zOK l D tc A nS xs mM_law 185 (qL_185 nS xn) := s_iload_n (q := 3) rfl (by decide +kernel) (by decide +kernel) (okL_186 hx)
theorem okL_184 (hx : zScr nS xs xn) : zOK l D tc A nS xs mM_law 184 (qL_184 nS xn) := s_aload_n (q := 0) rfl (by decide +kernel) (by decide +kernel) (okL_185 hx)
theorem okL_183 (hx : zScr nS xs xn) : zOK l D tc A nS xs mM_law 183 (qL_183 nS xn) := s_aload_n (q := 1) rfl (by decide +kernel) (by decide +kernel) (okL_184 hx)
theorem okL_182 (hx : zScr nS xs xn) : zOK l D tc A nS xs mM_law 182 (qL_182 nS xn) := s_zret rfl (by decide +kernel)
theorem okL_181 (hx : zScr nS xs xn) : zOK l D tc A nS xs mM_law 181 (qL_181 nS xn) := s_iconst (n := 0) (by decide) (by decide +kernel) (by decide +kernel) (okL_182 hx)
theorem okL_178 (hx : zScr nS xs xn) : zOK l D tc A nS xs mM_law 178 (qL_178 nS xn) := s_icmp_eq (tgt := 582) (off := 404) (by decide +kernel) (by decide) (okL_582 hx) (okL_181 hx)
theorem okL_175 (hx : zScr nS xs xn) : zOK l D tc A nS xs mM_law 175 (qL_175 nS xn) := r_callV zEE_ok zTw_gd kls_12 (M2 := mM_X12_feed) (na := 5) lb_202 calV_X12_feed rfl rfl wl_133 (by decide +kernel) (okL_178 hx)
theorem okL_174 (hx : zScr nS xs xn) : zOK l D tc A nS xs mM_law 174 (qL_174 nS xn) := s_sld hx zEE_script (by decide +kernel) (okL_175 hx)
theorem okL_173 (hx : zScr nS xs xn) : zOK l D tc A nS xs mM_law 173 (qL_173 nS xn) := s_iadd (by decide +kernel) (okL_174 hx)
theorem okL_172 (hx : zScr nS xs xn) : zOK l D tc A nS xs mM_law 172 (qL_172 nS xn) := s_iconst (n := 5) (by decide) (by decide +kernel) (by decide +kernel) (okL_173 hx)
theorem okL_171 (hx : zScr nS xs xn) : zOK l D tc A nS xs mM_law 171 (qL_171 nS xn) := s_iload_n (q := 3) rfl (by decide +kernel) (by decide +kernel) (okL_172 hx)
theorem okL_170 (hx : zScr nS xs xn) : zOK l D tc A nS xs mM_law 170 (qL_170 nS xn) := s_aload_n (q := 0) rfl (by decide +kernel) (by decide +kernel) (okL_171 hx)
theorem okL_169 (hx : zScr nS xs xn) : zOK l D tc A nS xs mM_law 169 (qL_169 nS xn) := s_sld hx zEE_script (by decide +kernel) (okL_170 hx)
theorem okL_168 (hx : zScr nS xs xn) : zOK l D tc A nS xs mM_law 168 (qL_168 nS xn) := s_iadd (by decide +kernel) (okL_169 hx)
theorem okL_167 (hx : zScr nS xs xn) : zOK l D tc A nS xs mM_law 167 (qL_167 nS xn) := s_iconst (n := 4) (by decide) (by decide +kernel) (by decide +kernel) (okL_168 hx)
theorem okL_166 (hx : zScr nS xs xn) : zOK l D tc A nS xs mM_law 166 (qL_166 nS xn) := s_iload_n (q := 3) rfl (by decide +kernel) (by decide +kernel) (okL_167 hx)
theorem okL_165 (hx : zScr nS xs xn) : zOK l D tc A nS xs mM_law 165 (qL_165 nS xn) := s_aload_n (q := 0) rfl (by decide +kernel) (by decide +kernel) (okL_166 hx)
theorem okL_164 (hx : zScr nS xs xn) : zOK l D tc A nS xs mM_law 164 (qL_164 nS xn) := s_sld hx zEE_script (by decide +kernel) (okL_165 hx)
theorem okL_163 (hx : zScr nS xs xn) : zOK l D tc A nS xs mM_law 163 (qL_163 nS xn) := s_iadd (by decide +kernel) (okL_164 hx)
theorem okL_162 (hx : zScr nS xs xn) : zOK l D tc A nS xs mM_law 162 (qL_162 nS xn) := s_iconst (n := 3) (by decide) (by decide +kernel) (by decide +kernel) (okL_163 hx)
theorem okL_161 (hx : zScr nS xs xn) : zOK l D tc A nS xs mM_law 161 (qL_161 nS xn) := s_iload_n (q := 3) rfl (by decide +kernel) (by decide +kernel) (okL_162 hx)
theorem okL_160 (hx : zScr nS xs xn) : zOK l D tc A nS xs mM_law 160 (qL_160 nS xn) := s_aload_n (q := 0) rfl (by decide +kernel) (by decide +kernel) (okL_161 hx)
theorem okL_159 (hx : zScr nS xs xn) : zOK l D tc A nS xs mM_law 159 (qL_159 nS xn) := s_sld hx zEE_script (by decide +kernel) (okL_160 hx)
theorem okL_158 (hx : zScr nS xs xn) : zOK l D tc A nS xs mM_law 158 (qL_158 nS xn) := s_iadd (by decide +kernel) (okL_159 hx)
theorem okL_157 (hx : zScr nS xs xn) : zOK l D tc A nS xs mM_law 157 (qL_157 nS xn) := s_iconst (n := 2) (by decide) (by decide +kernel) (by decide +kernel) (okL_158 hx)
theorem okL_156 (hx : zScr nS xs xn) : zOK l D tc A nS xs mM_law 156 (qL_156 nS xn) := s_iload_n (q := 3) rfl (by decide +kernel) (by decide +kernel) (okL_157 hx)
theorem okL_155 (hx : zScr nS xs xn) : zOK l D tc A nS xs mM_law 155 (qL_155 nS xn) := s_aload_n (q := 0) rfl (by decide +kernel) (by decide +kernel) (okL_156 hx)
theorem okL_154 (hx : zScr nS xs xn) : zOK l D tc A nS xs mM_law 154 (qL_154 nS xn) := s_sld hx zEE_script (by decide +kernel) (okL_155 hx)
theorem okL_153 (hx : zScr nS xs xn) : zOK l D tc A nS xs mM_law 153 (qL_153 nS xn) := s_iadd (by decide +kernel) (okL_154 hx)
theorem okL_152 (hx : zScr nS xs xn) : zOK l D tc A nS xs mM_law 152 (qL_152 nS xn) := s_iconst (n := 1) (by decide) (by decide +kernel) (by decide +kernel) (okL_153 hx)
theorem okL_151 (hx : zScr nS xs xn) : zOK l D tc A nS xs mM_law 151 (qL_151 nS xn) := s_iload_n (q := 3) rfl (by decide +kernel) (by decide +kernel) (okL_152 hx)
theorem okL_150 (hx : zScr nS xs xn) : zOK l D tc A nS xs mM_law 150 (qL_150 nS xn) := s_aload_n (q := 0) rfl (by decide +kernel) (by decide +kernel) (okL_151 hx)
theorem okL_149 (hx : zScr nS xs xn) : zOK l D tc A nS xs mM_law 149 (qL_149 nS xn) := s_aload_n (q := 2) rfl (by decide +kernel) (by decide +kernel) (okL_150 hx)
theorem okL_146 (hx : zScr nS xs xn) : zOK l D tc A nS xs mM_law 146 (qL_146 nS xn) := r_callV zEE_ok zTw_gd kls_11 (M2 := mM_X11_feed) (na := 5) lb_148 calV_X11_feed rfl rfl wl_137 (by decide +kernel) (okL_149 hx)
theorem okL_145 (hx : zScr nS xs xn) : zOK l D tc A nS xs mM_law 145 (qL_145 nS xn) := s_sld hx zEE_script (by decide +kernel) (okL_146 hx)
theorem okL_144 (hx : zScr nS xs xn) : zOK l D tc A nS xs mM_law 144 (qL_144 nS xn) := s_iadd (by decide +kernel) (okL_145 hx)
theorem okL_143 (hx : zScr nS xs xn) : zOK l D tc A nS xs mM_law 143 (qL_143 nS xn) := s_iconst (n := 5) (by decide) (by decide +kernel) (by decide +kernel) (okL_144 hx)
theorem okL_142 (hx : zScr nS xs xn) : zOK l D tc A nS xs mM_law 142 (qL_142 nS xn) := s_iload_n (q := 3) rfl (by decide +kernel) (by decide +kernel) (okL_143 hx)
theorem okL_141 (hx : zScr nS xs xn) : zOK l D tc A nS xs mM_law 141 (qL_141 nS xn) := s_aload_n (q := 0) rfl (by decide +kernel) (by decide +kernel) (okL_142 hx)
theorem okL_140 (hx : zScr nS xs xn) : zOK l D tc A nS xs mM_law 140 (qL_140 nS xn) := s_sld hx zEE_script (by decide +kernel) (okL_141 hx)
theorem okL_139 (hx : zScr nS xs xn) : zOK l D tc A nS xs mM_law 139 (qL_139 nS xn) := s_iadd (by decide +kernel) (okL_140 hx)
theorem okL_138 (hx : zScr nS xs xn) : zOK l D tc A nS xs mM_law 138 (qL_138 nS xn) := s_iconst (n := 4) (by decide) (by decide +kernel) (by decide +kernel) (okL_139 hx)
theorem okL_137 (hx : zScr nS xs xn) : zOK l D tc A nS xs mM_law 137 (qL_137 nS xn) := s_iload_n (q := 3) rfl (by decide +kernel) (by decide +kernel) (okL_138 hx)
theorem okL_136 (hx : zScr nS xs xn) : zOK l D tc A nS xs mM_law 136 (qL_136 nS xn) := s_aload_n (q := 0) rfl (by decide +kernel) (by decide +kernel) (okL_137 hx)
theorem okL_135 (hx : zScr nS xs xn) : zOK l D tc A nS xs mM_law 135 (qL_135 nS xn) := s_sld hx zEE_script (by decide +kernel) (okL_136 hx)
theorem okL_134 (hx : zScr nS xs xn) : zOK l D tc A nS xs mM_law 134 (qL_134 nS xn) := s_iadd (by decide +kernel) (okL_135 hx)
theorem okL_133 (hx : zScr nS xs xn) : zOK l D tc A nS xs mM_law 133 (qL_133 nS xn) := s_iconst (n := 3) (by decide) (by decide +kernel) (by decide +kernel) (okL_134 hx)
theorem okL_132 (hx : zScr nS xs xn) : zOK l D tc A nS xs mM_law 132 (qL_132 nS xn) := s_iload_n (q := 3) rfl (by decide +kernel) (by decide +kernel) (okL_133 hx)
theorem okL_131 (hx : zScr nS xs xn) : zOK l D tc A nS xs mM_law 131 (qL_131 nS xn) := s_aload_n (q := 0) rfl (by decide +kernel) (by decide +kernel) (okL_132 hx)
theorem okL_130 (hx : zScr nS xs xn) : zOK l D tc A nS xs mM_law 130 (qL_130 nS xn) := s_sld hx zEE_script (by decide +kernel) (okL_131 hx)
theorem okL_129 (hx : zScr nS xs xn) : zOK l D tc A nS xs mM_law 129 (qL_129 nS xn) := s_iadd (by decide +kernel) (okL_130 hx)
theorem okL_128 (hx : zScr nS xs xn) : zOK l D tc A nS xs mM_law 128 (qL_128 nS xn) := s_iconst (n := 2) (by decide) (by decide +kernel) (by decide +kernel) (okL_129 hx)
theorem okL_127 (hx : zScr nS xs xn) : zOK l D tc A nS xs mM_law 127 (qL_127 nS xn) := s_iload_n (q := 3) rfl (by decide +kernel) (by decide +kernel) (okL_128 hx)
theorem okL_126 (hx : zScr nS xs xn) : zOK l D tc A nS xs mM_law 126 (qL_126 nS xn) := s_aload_n (q := 0) rfl (by decide +kernel) (by decide +kernel) (okL_127 hx)
theorem okL_125 (hx : zScr nS xs xn) : zOK l D tc A nS xs mM_law 125 (qL_125 nS xn) := s_sld hx zEE_script (by decide +kernel) (okL_126 hx)
theorem okL_124 (hx : zScr nS xs xn) : zOK l D tc A nS xs mM_law 124 (qL_124 nS xn) := s_iadd (by decide +kernel) (okL_125 hx)
theorem okL_123 (hx : zScr nS xs xn) : zOK l D tc A nS xs mM_law 123 (qL_123 nS xn) := s_iconst (n := 1) (by decide) (by decide +kernel) (by decide +kernel) (okL_124 hx)
theorem okL_122 (hx : zScr nS xs xn) : zOK l D tc A nS xs mM_law 122 (qL_122 nS xn) := s_iload_n (q := 3) rfl (by decide +kernel) (by decide +kernel) (okL_123 hx)
theorem okL_121 (hx : zScr nS xs xn) : zOK l D tc A nS xs mM_law 121 (qL_121 nS xn) := s_aload_n (q := 0) rfl (by decide +kernel) (by decide +kernel) (okL_122 hx)
theorem okL_120 (hx : zScr nS xs xn) : zOK l D tc A nS xs mM_law 120 (qL_120 nS xn) := s_aload_n (q := 1) rfl (by decide +kernel) (by decide +kernel) (okL_121 hx)
theorem okL_33 (hx : zScr nS xs xn) : zOK l D tc A nS xs mM_law 33 (qL_33 nS xn) := r_tsw (ts := [(87, 120, (qL_120 nS xn)), (150, 183, (qL_183 nS xn)), (173, 206, (qL_206 nS xn)), (186, 219, (qL_219 nS xn)), (209, 242, (qL_242 nS xn)), (232, 265, (qL_265 nS xn)), (255, 288, (qL_288 nS xn)), (278, 311, (qL_311 nS xn)), (301, 334, (qL_334 nS xn)), (324, 357, (qL_357 nS xn)), (347, 380, (qL_380 nS xn)), (370, 403, (qL_403 nS xn)), (403, 436, (qL_436 nS xn)), (414, 447, (qL_447 nS xn)), (447, 480, (qL_480 nS xn)), (480, 513, (qL_513 nS xn)), (503, 536, (qL_536 nS xn)), (526, 559, (qL_559 nS xn))]) (dflt := 549) (hi := 17) (offs := #[87, 150, 173, 186, 209, 232, 255, 278, 301, 324, 347, 370, 403, 414, 447, 480, 503, 526]) (len := 87) (tgt := 582) (by decide +kernel) rfl rfl (Nat.le_of_ble_eq_true rfl) (by decide) (okL_582 hx) (List.forall_mem_cons.mpr ⟨⟨by show ((33 : Nat) : Int) + (87 : Int) = ((120 : Nat) : Int); decide, (okL_120 hx)⟩, (List.forall_mem_cons.mpr ⟨⟨by show ((33 : Nat) : Int) + (150 : Int) = ((183 : Nat) : Int); decide, (okL_183 hx)⟩, (List.forall_mem_cons.mpr ⟨⟨by show ((33 : Nat) : Int) + (173 : Int) = ((206 : Nat) : Int); decide, (okL_206 hx)⟩, (List.forall_mem_cons.mpr ⟨⟨by show ((33 : Nat) : Int) + (186 : Int) = ((219 : Nat) : Int); decide, (okL_219 hx)⟩, (List.forall_mem_cons.mpr ⟨⟨by show ((33 : Nat) : Int) + (209 : Int) = ((242 : Nat) : Int); decide, (okL_242 hx)⟩, (List.forall_mem_cons.mpr ⟨⟨by show ((33 : Nat) : Int) + (232 : Int) = ((265 : Nat) : Int); decide, (okL_265 hx)⟩, (List.forall_mem_cons.mpr ⟨⟨by show ((33 : Nat) : Int) + (255 : Int) = ((288 : Nat) : Int); decide, (okL_288 hx)⟩, (List.forall_mem_cons.mpr ⟨⟨by show ((33 : Nat) : Int) + (278 : Int) = ((311 : Nat) : Int); decide, (okL_311 hx)⟩, (List.forall_mem_cons.mpr ⟨⟨by show ((33 : Nat) : Int) + (301 : Int) = ((334 : Nat) : Int); decide, (okL_334 hx)⟩, (List.forall_mem_cons.mpr ⟨⟨by show ((33 : Nat) : Int) + (324 : Int) = ((357 : Nat) : Int); decide, (okL_357 hx)⟩, (List.forall_mem_cons.mpr ⟨⟨by show ((33 : Nat) : Int) + (347 : Int) = ((380 : Nat) : Int); decide, (okL_380 hx)⟩, (List.forall_mem_cons.mpr ⟨⟨by show ((33 : Nat) : Int) + (370 : Int) = ((403 : Nat) : Int); decide, (okL_403 hx)⟩, (List.forall_mem_cons.mpr ⟨⟨by show ((33 : Nat) : Int) + (403 : Int) = ((436 : Nat) : Int); decide, (okL_436 hx)⟩, (List.forall_mem_cons.mpr ⟨⟨by show ((33 : Nat) : Int) + (414 : Int) = ((447 : Nat) : Int); decide, (okL_447 hx)⟩, (List.forall_mem_cons.mpr ⟨⟨by show ((33 : Nat) : Int) + (447 : Int) = ((480 : Nat) : Int); decide, (okL_480 hx)⟩, (List.forall_mem_cons.mpr ⟨⟨by show ((33 : Nat) : Int) + (480 : Int) = ((513 : Nat) : Int); decide, (okL_513 hx)⟩, (List.forall_mem_cons.mpr ⟨⟨by show ((33 : Nat) : Int) + (503 : Int) = ((536 : Nat) : Int); decide, (okL_536 hx)⟩, (List.forall_mem_cons.mpr ⟨⟨by show ((33 : Nat) : Int) + (526 : Int) = ((559 : Nat) : Int); decide, (okL_559 hx)⟩, fun _ h => absurd h List.not_mem_nil⟩)⟩)⟩)⟩)⟩)⟩)⟩)⟩)⟩)⟩)⟩)⟩)⟩)⟩)⟩)⟩)⟩)⟩)
theorem okL_32 (hx : zScr nS xs xn) : zOK l D tc A nS xs mM_law 32 (qL_32 nS xn) := s_iand (by decide +kernel) (okL_33 hx)
theorem okL_30 (hx : zScr nS xs xn) : zOK l D tc A nS xs mM_law 30 (qL_30 nS xn) := s_bipush (n := 31) (by decide) (by decide +kernel) (by decide +kernel) (okL_32 hx)
theorem okL_29 (hx : zScr nS xs xn) : zOK l D tc A nS xs mM_law 29 (qL_29 nS xn) := s_sld hx zEE_script (by decide +kernel) (okL_30 hx)
theorem okL_28 (hx : zScr nS xs xn) : zOK l D tc A nS xs mM_law 28 (qL_28 nS xn) := s_iload_n (q := 3) rfl (by decide +kernel) (by decide +kernel) (okL_29 hx)
theorem okL_27 (hx : zScr nS xs xn) : zOK l D tc A nS xs mM_law 27 (qL_27 nS xn) := s_aload_n (q := 0) rfl (by decide +kernel) (by decide +kernel) (okL_28 hx)
theorem okL_24 (hx : zScr nS xs xn) : zOK l D tc A nS xs mM_law 24 (qL_24 nS xn) := s_icmp_gt (tgt := 588) (off := 564) (by decide +kernel) (by decide) (okL_588 hx) (okL_27 hx)
theorem okL_23 (hx : zScr nS xs xn) : zOK l D tc A nS xs mM_law 23 (qL_23 nS xn) := s_isub (by decide +kernel) (okL_24 hx)
theorem okL_21 (hx : zScr nS xs xn) : zOK l D tc A nS xs mM_law 21 (qL_21 nS xn) := s_bipush (n := 6) (by decide) (by decide +kernel) (by decide +kernel) (okL_23 hx)
theorem okL_20 (hx : zScr nS xs xn) : zOK l D tc A nS xs mM_law 20 (qL_20 nS xn) := s_slen hx.1 zEE_script (by decide +kernel) (okL_21 hx)
theorem okL_19 (hx : zScr nS xs xn) : zOK l D tc A nS xs mM_law 19 (qL_19 nS xn) := s_aload_n (q := 0) rfl (by decide +kernel) (by decide +kernel) (okL_20 hx)
theorem okL_18 (hx : zScr nS xs xn) : zOK l D tc A nS xs mM_law 18 (qL_18 nS xn) := s_iload_n (q := 3) rfl (by decide +kernel) (by decide +kernel) (okL_19 hx)
theorem okL_17 (hx : zScr nS xs xn) : zOK l D tc A nS xs mM_law 17 (qL_17 nS xn) := s_istore_n (q := 3) rfl (by decide +kernel) (by decide +kernel) (okL_18 hx)
theorem okL_16 (hx : zScr nS xs xn) : zOK l D tc A nS xs mM_law 16 (qL_16 nS xn) := s_iconst (n := 0) (by decide) (by decide +kernel) (by decide +kernel) (okL_17 hx)
theorem okL_15 (hx : zScr nS xs xn) : zOK l D tc A nS xs mM_law 15 (qL_15 nS xn) := s_astore_n (q := 2) rfl (by decide +kernel) (by decide +kernel) (okL_16 hx)
theorem okL_12 (hx : zScr nS xs xn) : zOK l D tc A nS xs mM_law 12 (qL_12 nS xn) := r_callI zEE_ok zTw_gd (M2 := mM_X12_init) (na := 0) rfl lb_218 calI_X12_init rfl rfl wl_141 (by decide +kernel) (okL_15 hx)
theorem okL_11 (hx : zScr nS xs xn) : zOK l D tc A nS xs mM_law 11 (qL_11 nS xn) := s_dup (by decide +kernel) (okL_12 hx)
theorem okL_8 (hx : zScr nS xs xn) : zOK l D tc A nS xs mM_law 8 (qL_8 nS xn) := r_new (N := 114) rfl kls_12 rfl rfl (by decide) zdf_12 rfl wl_144 wl_145 w_690 (by decide +kernel) (okL_11 hx)
theorem okL_7 (hx : zScr nS xs xn) : zOK l D tc A nS xs mM_law 7 (qL_7 nS xn) := s_astore_n (q := 1) rfl (by decide +kernel) (by decide +kernel) (okL_8 hx)
theorem okL_4 (hx : zScr nS xs xn) : zOK l D tc A nS xs mM_law 4 (qL_4 nS xn) := r_callI zEE_ok zTw_gd (M2 := mM_X11_init) (na := 0) rfl lb_152 calI_X11_init rfl rfl wl_146 (by decide +kernel) (okL_7 hx)
theorem okL_3 (hx : zScr nS xs xn) : zOK l D tc A nS xs mM_law 3 (qL_3 nS xn) := s_dup (by decide +kernel) (okL_4 hx)
theorem okL_0 (hx : zScr nS xs xn) : zOK l D tc A nS xs mM_law 0 (qL_0 nS xn) := r_new (N := 18) rfl kls_11 rfl rfl (by decide) zdf_11 rfl wl_149 wl_150 w_405 (by decide +kernel) (okL_3 hx)
end ZLawRows
