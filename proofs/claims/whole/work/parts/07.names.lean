/-! words of the tables, methods, sites: printed by program -/
theorem wT_1_0 : (Cond.initialized "ScopeTreeLaw") ∈ aw_TB := aw_tb (List.mem_append_right _ (List.mem_append_left _ (List.mem_of_getElem? (i := 0) rfl))) rfl
theorem wT_1_1 : (Cond.initialized "ScopeTree") ∈ aw_TB := aw_tb (List.mem_append_right _ (List.mem_append_left _ (List.mem_of_getElem? (i := 1) rfl))) rfl
theorem wT_1_2 : (Cond.initialized "ScopeTree$Archive") ∈ aw_TB := aw_tb (List.mem_append_right _ (List.mem_append_left _ (List.mem_of_getElem? (i := 2) rfl))) rfl
theorem wT_1_3 : (Cond.initialized "ScopeTree$Loader") ∈ aw_TB := aw_tb (List.mem_append_right _ (List.mem_append_left _ (List.mem_of_getElem? (i := 3) rfl))) rfl
theorem wT_1_4 : (Cond.initialized "ScopeTree$Type") ∈ aw_TB := aw_tb (List.mem_append_right _ (List.mem_append_left _ (List.mem_of_getElem? (i := 4) rfl))) rfl
theorem wT_1_5 : (Cond.initialized "ScopeTree$Scope") ∈ aw_TB := aw_tb (List.mem_append_right _ (List.mem_append_left _ (List.mem_of_getElem? (i := 5) rfl))) rfl
theorem wT_1_6 : (Cond.initialized "ScopeTree$Path") ∈ aw_TB := aw_tb (List.mem_append_right _ (List.mem_append_left _ (List.mem_of_getElem? (i := 6) rfl))) rfl
theorem wT_1_7 : (Cond.initialized "java/lang/Enum") ∈ aw_TB := aw_tb (List.mem_append_right _ (List.mem_append_left _ (List.mem_of_getElem? (i := 7) rfl))) rfl
theorem wT_1_8 : (Cond.initialized "ScopeTree$State") ∈ aw_TB := aw_tb (List.mem_append_right _ (List.mem_append_left _ (List.mem_of_getElem? (i := 8) rfl))) rfl
theorem wT_1_9 : (Cond.initialized "ScopeTreeModel") ∈ aw_TB := aw_tb (List.mem_append_right _ (List.mem_append_left _ (List.mem_of_getElem? (i := 9) rfl))) rfl
theorem wT_1_10 : (Cond.initialized "java/lang/Throwable") ∈ aw_TB := aw_tb (List.mem_append_right _ (List.mem_append_left _ (List.mem_of_getElem? (i := 10) rfl))) rfl
theorem wT_1_11 : (Cond.initialized "java/lang/Exception") ∈ aw_TB := aw_tb (List.mem_append_right _ (List.mem_append_left _ (List.mem_of_getElem? (i := 11) rfl))) rfl
theorem wT_1_12 : (Cond.initialized "java/lang/RuntimeException") ∈ aw_TB := aw_tb (List.mem_append_right _ (List.mem_append_left _ (List.mem_of_getElem? (i := 12) rfl))) rfl
theorem wT_1_13 : (Cond.initialized "java/lang/IllegalArgumentException") ∈ aw_TB := aw_tb (List.mem_append_right _ (List.mem_append_left _ (List.mem_of_getElem? (i := 13) rfl))) rfl
theorem wT_1_14 : (Cond.initialized "java/lang/Record") ∈ aw_TB := aw_tb (List.mem_append_right _ (List.mem_append_left _ (List.mem_of_getElem? (i := 14) rfl))) rfl
theorem wT_1_15 : (Cond.initialized "ScopeTree$ClassFile") ∈ aw_TB := aw_tb (List.mem_append_right _ (List.mem_append_left _ (List.mem_of_getElem? (i := 15) rfl))) rfl
theorem wT_1_16 : (Cond.initialized "java/lang/Math") ∈ aw_TB := aw_tb (List.mem_append_right _ (List.mem_append_left _ (List.mem_of_getElem? (i := 16) rfl))) rfl
theorem wT_1_17 : (Cond.initialized "java/lang/IllegalStateException") ∈ aw_TB := aw_tb (List.mem_append_right _ (List.mem_append_left _ (List.mem_of_getElem? (i := 17) rfl))) rfl
theorem wT_1_18 : (Cond.initialized "ScopeTree$Descriptor") ∈ aw_TB := aw_tb (List.mem_append_right _ (List.mem_append_left _ (List.mem_of_getElem? (i := 18) rfl))) rfl
theorem wT_1_19 : (Cond.initialized "ScopeTree$Filter") ∈ aw_TB := aw_tb (List.mem_append_right _ (List.mem_append_left _ (List.mem_of_getElem? (i := 19) rfl))) rfl
theorem wT_1_20 : (Cond.initialized "java/lang/UnsupportedOperationException") ∈ aw_TB := aw_tb (List.mem_append_right _ (List.mem_append_left _ (List.mem_of_getElem? (i := 20) rfl))) rfl
theorem wT_1_21 : (Cond.initialized "java/util/NoSuchElementException") ∈ aw_TB := aw_tb (List.mem_append_right _ (List.mem_append_left _ (List.mem_of_getElem? (i := 21) rfl))) rfl
theorem wT_1_22 : (Cond.classLink "ScopeTreeLaw" 8 "ScopeTree") ∈ aw_TB := aw_tb (List.mem_append_right _ (List.mem_append_left _ (List.mem_of_getElem? (i := 22) rfl))) rfl
theorem wT_1_23 : (Cond.instantiable "ScopeTree" 8) ∈ aw_TB := aw_tb (List.mem_append_right _ (List.mem_append_left _ (List.mem_of_getElem? (i := 23) rfl))) rfl
theorem wT_1_24 : (Cond.methodLink "ScopeTreeLaw" 68 ⟨"ScopeTree", "<init>", "()V"⟩) ∈ aw_TB := aw_tb (List.mem_append_right _ (List.mem_append_left _ (List.mem_of_getElem? (i := 24) rfl))) rfl
theorem wT_1_25 : (Cond.instanceMethod ⟨"ScopeTree", "<init>", "()V"⟩) ∈ aw_TB := aw_tb (List.mem_append_right _ (List.mem_append_left _ (List.mem_of_getElem? (i := 25) rfl))) rfl
theorem wT_1_26 : (Cond.code ⟨"ScopeTree", "<init>", "()V"⟩ prog_1_method_1_code 3 none) ∈ aw_TB := aw_tb (List.mem_append_right _ (List.mem_append_left _ (List.mem_of_getElem? (i := 26) rfl))) rfl
theorem wT_1_27 : (Cond.methodLink "ScopeTree" 1 ⟨"java/lang/Object", "<init>", "()V"⟩) ∈ aw_TB := aw_tb (List.mem_append_right _ (List.mem_append_left _ (List.mem_of_getElem? (i := 27) rfl))) rfl
theorem wT_1_28 : (Cond.instanceMethod ⟨"java/lang/Object", "<init>", "()V"⟩) ∈ aw_TB := aw_tb (List.mem_append_right _ (List.mem_append_left _ (List.mem_of_getElem? (i := 28) rfl))) rfl
theorem wT_1_29 : (Cond.code ⟨"java/lang/Object", "<init>", "()V"⟩ object_method_1_code 1 none) ∈ aw_TB := aw_tb (List.mem_append_right _ (List.mem_append_left _ (List.mem_of_getElem? (i := 29) rfl))) rfl
theorem wT_1_30 : (Cond.classLink "ScopeTree" 9 "ScopeTree$Archive") ∈ aw_TB := aw_tb (List.mem_append_right _ (List.mem_append_left _ (List.mem_of_getElem? (i := 30) rfl))) rfl
theorem wT_1_32 : (Cond.classLink "ScopeTree" 15 "ScopeTree$Scope") ∈ aw_TB := aw_tb (List.mem_append_right _ (List.mem_append_left _ (List.mem_of_getElem? (i := 32) rfl))) rfl
theorem wT_1_34 : (Cond.classLink "ScopeTree" 21 "ScopeTree$Loader") ∈ aw_TB := aw_tb (List.mem_append_right _ (List.mem_append_left _ (List.mem_of_getElem? (i := 34) rfl))) rfl
theorem wT_1_36 : (Cond.classLink "ScopeTree" 27 "ScopeTree$Type") ∈ aw_TB := aw_tb (List.mem_append_right _ (List.mem_append_left _ (List.mem_of_getElem? (i := 36) rfl))) rfl
theorem wT_1_38 : (Cond.instantiable "ScopeTree$Archive" 4) ∈ aw_TB := aw_tb (List.mem_append_right _ (List.mem_append_left _ (List.mem_of_getElem? (i := 38) rfl))) rfl
theorem wN_1_39 : (Cond.methodLinkNest "ScopeTree" 40 ⟨"ScopeTree$Archive", "<init>", "()V"⟩ "ScopeTree") ∈ aw_NB := aw_nb (List.mem_append_right _ (List.mem_append_left _ (List.mem_of_getElem? (i := 39) rfl))) rfl
theorem wT_1_40 : (Cond.instanceMethod ⟨"ScopeTree$Archive", "<init>", "()V"⟩) ∈ aw_TB := aw_tb (List.mem_append_right _ (List.mem_append_left _ (List.mem_of_getElem? (i := 40) rfl))) rfl
theorem wT_1_41 : (Cond.code ⟨"ScopeTree$Archive", "<init>", "()V"⟩ prog_2_method_1_code 1 none) ∈ aw_TB := aw_tb (List.mem_append_right _ (List.mem_append_left _ (List.mem_of_getElem? (i := 41) rfl))) rfl
theorem wT_1_42 : (Cond.methodLink "ScopeTree$Archive" 3 ⟨"java/lang/Object", "<init>", "()V"⟩) ∈ aw_TB := aw_tb (List.mem_append_right _ (List.mem_append_left _ (List.mem_of_getElem? (i := 42) rfl))) rfl
theorem wT_1_43 : (Cond.classLink "ScopeTree$Archive" 9 "ScopeTree$ClassFile") ∈ aw_TB := aw_tb (List.mem_append_right _ (List.mem_append_left _ (List.mem_of_getElem? (i := 43) rfl))) rfl
theorem wT_1_45 : (Cond.classLink "ScopeTree$Archive" 17 "ScopeTree$Descriptor") ∈ aw_TB := aw_tb (List.mem_append_right _ (List.mem_append_left _ (List.mem_of_getElem? (i := 45) rfl))) rfl
theorem wT_1_47 : (Cond.fieldLink "ScopeTree$Archive" 11 "ScopeTree$Archive" "files" "[LScopeTree$ClassFile;") ∈ aw_TB := aw_tb (List.mem_append_right _ (List.mem_append_left _ (List.mem_of_getElem? (i := 47) rfl))) rfl
theorem wT_1_48 : (Cond.fieldLink "ScopeTree$Archive" 27 "ScopeTree$Archive" "fileCount" "I") ∈ aw_TB := aw_tb (List.mem_append_right _ (List.mem_append_left _ (List.mem_of_getElem? (i := 48) rfl))) rfl
theorem wN_1_49 : (Cond.fieldLinkNest "ScopeTree" 107 "ScopeTree$Archive" "fileCount" "I" "ScopeTree") ∈ aw_NB := aw_nb (List.mem_append_right _ (List.mem_append_left _ (List.mem_of_getElem? (i := 49) rfl))) rfl
theorem wT_1_50 : (Cond.fieldLink "ScopeTree$Archive" 19 "ScopeTree$Archive" "descriptors" "[LScopeTree$Descriptor;") ∈ aw_TB := aw_tb (List.mem_append_right _ (List.mem_append_left _ (List.mem_of_getElem? (i := 50) rfl))) rfl
theorem wT_1_51 : (Cond.fieldLink "ScopeTree$Archive" 34 "ScopeTree$Archive" "descriptorCount" "I") ∈ aw_TB := aw_tb (List.mem_append_right _ (List.mem_append_left _ (List.mem_of_getElem? (i := 51) rfl))) rfl
theorem wN_1_52 : (Cond.fieldLinkNest "ScopeTree" 123 "ScopeTree$Archive" "descriptorCount" "I" "ScopeTree") ∈ aw_NB := aw_nb (List.mem_append_right _ (List.mem_append_left _ (List.mem_of_getElem? (i := 52) rfl))) rfl
theorem wT_1_53 : (Cond.laysFinal "ScopeTree$Archive" "ScopeTree$Archive" "files" "[LScopeTree$ClassFile;") ∈ aw_TB := aw_tb (List.mem_append_right _ (List.mem_append_left _ (List.mem_of_getElem? (i := 53) rfl))) rfl
theorem wT_1_54 : (Cond.soleField "ScopeTree$Archive" "files") ∈ aw_TB := aw_tb (List.mem_append_right _ (List.mem_append_left _ (List.mem_of_getElem? (i := 54) rfl))) rfl
theorem wT_1_55 : (Cond.lays "ScopeTree$Archive" "ScopeTree$Archive" "fileCount" "I") ∈ aw_TB := aw_tb (List.mem_append_right _ (List.mem_append_left _ (List.mem_of_getElem? (i := 55) rfl))) rfl
theorem wT_1_56 : (Cond.soleField "ScopeTree$Archive" "fileCount") ∈ aw_TB := aw_tb (List.mem_append_right _ (List.mem_append_left _ (List.mem_of_getElem? (i := 56) rfl))) rfl
theorem wT_1_57 : (Cond.laysFinal "ScopeTree$Archive" "ScopeTree$Archive" "descriptors" "[LScopeTree$Descriptor;") ∈ aw_TB := aw_tb (List.mem_append_right _ (List.mem_append_left _ (List.mem_of_getElem? (i := 57) rfl))) rfl
theorem wT_1_58 : (Cond.soleField "ScopeTree$Archive" "descriptors") ∈ aw_TB := aw_tb (List.mem_append_right _ (List.mem_append_left _ (List.mem_of_getElem? (i := 58) rfl))) rfl
theorem wT_1_59 : (Cond.lays "ScopeTree$Archive" "ScopeTree$Archive" "descriptorCount" "I") ∈ aw_TB := aw_tb (List.mem_append_right _ (List.mem_append_left _ (List.mem_of_getElem? (i := 59) rfl))) rfl
theorem wT_1_60 : (Cond.soleField "ScopeTree$Archive" "descriptorCount") ∈ aw_TB := aw_tb (List.mem_append_right _ (List.mem_append_left _ (List.mem_of_getElem? (i := 60) rfl))) rfl
theorem wT_1_61 : (Cond.superclass "ScopeTree$Archive" "java/lang/Object") ∈ aw_TB := aw_tb (List.mem_append_right _ (List.mem_append_left _ (List.mem_of_getElem? (i := 61) rfl))) rfl
theorem wT_1_62 : (Cond.arrayClass .int) ∈ aw_TB := aw_tb (List.mem_append_right _ (List.mem_append_left _ (List.mem_of_getElem? (i := 62) rfl))) rfl
theorem wT_1_63 : (Cond.instantiable "ScopeTree$Loader" 8) ∈ aw_TB := aw_tb (List.mem_append_right _ (List.mem_append_left _ (List.mem_of_getElem? (i := 63) rfl))) rfl
theorem wN_1_64 : (Cond.methodLinkNest "ScopeTree" 41 ⟨"ScopeTree$Loader", "<init>", "(IILScopeTree$Loader;[LScopeTree$Archive;LScopeTree$Filter;)V"⟩ "ScopeTree") ∈ aw_NB := aw_nb (List.mem_append_right _ (List.mem_append_left _ (List.mem_of_getElem? (i := 64) rfl))) rfl
theorem wT_1_65 : (Cond.instanceMethod ⟨"ScopeTree$Loader", "<init>", "(IILScopeTree$Loader;[LScopeTree$Archive;LScopeTree$Filter;)V"⟩) ∈ aw_TB := aw_tb (List.mem_append_right _ (List.mem_append_left _ (List.mem_of_getElem? (i := 65) rfl))) rfl
theorem wT_1_66 : (Cond.code ⟨"ScopeTree$Loader", "<init>", "(IILScopeTree$Loader;[LScopeTree$Archive;LScopeTree$Filter;)V"⟩ prog_6_method_1_code 6 none) ∈ aw_TB := aw_tb (List.mem_append_right _ (List.mem_append_left _ (List.mem_of_getElem? (i := 66) rfl))) rfl
theorem wT_1_67 : (Cond.methodLink "ScopeTree$Loader" 1 ⟨"java/lang/Object", "<init>", "()V"⟩) ∈ aw_TB := aw_tb (List.mem_append_right _ (List.mem_append_left _ (List.mem_of_getElem? (i := 67) rfl))) rfl
theorem wT_1_68 : (Cond.fieldLink "ScopeTree$Loader" 7 "ScopeTree$Loader" "number" "I") ∈ aw_TB := aw_tb (List.mem_append_right _ (List.mem_append_left _ (List.mem_of_getElem? (i := 68) rfl))) rfl
theorem wN_1_69 : (Cond.fieldLinkNest "ScopeTree" 192 "ScopeTree$Loader" "number" "I" "ScopeTree") ∈ aw_NB := aw_nb (List.mem_append_right _ (List.mem_append_left _ (List.mem_of_getElem? (i := 69) rfl))) rfl
theorem wT_1_70 : (Cond.fieldLink "ScopeTree$Loader" 13 "ScopeTree$Loader" "kind" "I") ∈ aw_TB := aw_tb (List.mem_append_right _ (List.mem_append_left _ (List.mem_of_getElem? (i := 70) rfl))) rfl
theorem wN_1_71 : (Cond.fieldLinkNest "ScopeTree" 207 "ScopeTree$Loader" "kind" "I" "ScopeTree") ∈ aw_NB := aw_nb (List.mem_append_right _ (List.mem_append_left _ (List.mem_of_getElem? (i := 71) rfl))) rfl
theorem wT_1_72 : (Cond.fieldLink "ScopeTree$Loader" 16 "ScopeTree$Loader" "parent" "LScopeTree$Loader;") ∈ aw_TB := aw_tb (List.mem_append_right _ (List.mem_append_left _ (List.mem_of_getElem? (i := 72) rfl))) rfl
theorem wN_1_73 : (Cond.fieldLinkNest "ScopeTree" 210 "ScopeTree$Loader" "parent" "LScopeTree$Loader;" "ScopeTree") ∈ aw_NB := aw_nb (List.mem_append_right _ (List.mem_append_left _ (List.mem_of_getElem? (i := 73) rfl))) rfl
theorem wT_1_74 : (Cond.fieldLink "ScopeTree$Loader" 20 "ScopeTree$Loader" "contents" "[LScopeTree$Archive;") ∈ aw_TB := aw_tb (List.mem_append_right _ (List.mem_append_left _ (List.mem_of_getElem? (i := 74) rfl))) rfl
theorem wT_1_75 : (Cond.fieldLink "ScopeTree$Loader" 24 "ScopeTree$Loader" "filter" "LScopeTree$Filter;") ∈ aw_TB := aw_tb (List.mem_append_right _ (List.mem_append_left _ (List.mem_of_getElem? (i := 75) rfl))) rfl
theorem wN_1_76 : (Cond.fieldLinkNest "ScopeTree" 301 "ScopeTree$Loader" "filter" "LScopeTree$Filter;" "ScopeTree") ∈ aw_NB := aw_nb (List.mem_append_right _ (List.mem_append_left _ (List.mem_of_getElem? (i := 76) rfl))) rfl
theorem wN_1_77 : (Cond.fieldLinkNest "ScopeTree" 70 "ScopeTree$Loader" "holders" "I" "ScopeTree") ∈ aw_NB := aw_nb (List.mem_append_right _ (List.mem_append_left _ (List.mem_of_getElem? (i := 77) rfl))) rfl
theorem wN_1_78 : (Cond.fieldLinkNest "ScopeTree" 212 "ScopeTree$Loader" "definedCount" "I" "ScopeTree") ∈ aw_NB := aw_nb (List.mem_append_right _ (List.mem_append_left _ (List.mem_of_getElem? (i := 78) rfl))) rfl
theorem wN_1_79 : (Cond.fieldLinkNest "ScopeTree" 235 "ScopeTree$Loader" "isGone" "Z" "ScopeTree") ∈ aw_NB := aw_nb (List.mem_append_right _ (List.mem_append_left _ (List.mem_of_getElem? (i := 79) rfl))) rfl
theorem wT_1_80 : (Cond.laysFinal "ScopeTree$Loader" "ScopeTree$Loader" "number" "I") ∈ aw_TB := aw_tb (List.mem_append_right _ (List.mem_append_left _ (List.mem_of_getElem? (i := 80) rfl))) rfl
theorem wT_1_81 : (Cond.soleField "ScopeTree$Loader" "number") ∈ aw_TB := aw_tb (List.mem_append_right _ (List.mem_append_left _ (List.mem_of_getElem? (i := 81) rfl))) rfl
theorem wT_1_82 : (Cond.laysFinal "ScopeTree$Loader" "ScopeTree$Loader" "kind" "I") ∈ aw_TB := aw_tb (List.mem_append_right _ (List.mem_append_left _ (List.mem_of_getElem? (i := 82) rfl))) rfl
theorem wT_1_83 : (Cond.soleField "ScopeTree$Loader" "kind") ∈ aw_TB := aw_tb (List.mem_append_right _ (List.mem_append_left _ (List.mem_of_getElem? (i := 83) rfl))) rfl
theorem wT_1_84 : (Cond.laysFinal "ScopeTree$Loader" "ScopeTree$Loader" "parent" "LScopeTree$Loader;") ∈ aw_TB := aw_tb (List.mem_append_right _ (List.mem_append_left _ (List.mem_of_getElem? (i := 84) rfl))) rfl
theorem wT_1_85 : (Cond.soleField "ScopeTree$Loader" "parent") ∈ aw_TB := aw_tb (List.mem_append_right _ (List.mem_append_left _ (List.mem_of_getElem? (i := 85) rfl))) rfl
theorem wT_1_86 : (Cond.laysFinal "ScopeTree$Loader" "ScopeTree$Loader" "contents" "[LScopeTree$Archive;") ∈ aw_TB := aw_tb (List.mem_append_right _ (List.mem_append_left _ (List.mem_of_getElem? (i := 86) rfl))) rfl
theorem wT_1_87 : (Cond.soleField "ScopeTree$Loader" "contents") ∈ aw_TB := aw_tb (List.mem_append_right _ (List.mem_append_left _ (List.mem_of_getElem? (i := 87) rfl))) rfl
theorem wT_1_88 : (Cond.laysFinal "ScopeTree$Loader" "ScopeTree$Loader" "filter" "LScopeTree$Filter;") ∈ aw_TB := aw_tb (List.mem_append_right _ (List.mem_append_left _ (List.mem_of_getElem? (i := 88) rfl))) rfl
theorem wT_1_89 : (Cond.soleField "ScopeTree$Loader" "filter") ∈ aw_TB := aw_tb (List.mem_append_right _ (List.mem_append_left _ (List.mem_of_getElem? (i := 89) rfl))) rfl
theorem wT_1_90 : (Cond.lays "ScopeTree$Loader" "ScopeTree$Loader" "holders" "I") ∈ aw_TB := aw_tb (List.mem_append_right _ (List.mem_append_left _ (List.mem_of_getElem? (i := 90) rfl))) rfl
theorem wT_1_91 : (Cond.soleField "ScopeTree$Loader" "holders") ∈ aw_TB := aw_tb (List.mem_append_right _ (List.mem_append_left _ (List.mem_of_getElem? (i := 91) rfl))) rfl
theorem wT_1_92 : (Cond.lays "ScopeTree$Loader" "ScopeTree$Loader" "definedCount" "I") ∈ aw_TB := aw_tb (List.mem_append_right _ (List.mem_append_left _ (List.mem_of_getElem? (i := 92) rfl))) rfl
theorem wT_1_93 : (Cond.soleField "ScopeTree$Loader" "definedCount") ∈ aw_TB := aw_tb (List.mem_append_right _ (List.mem_append_left _ (List.mem_of_getElem? (i := 93) rfl))) rfl
theorem wT_1_94 : (Cond.lays "ScopeTree$Loader" "ScopeTree$Loader" "isGone" "Z") ∈ aw_TB := aw_tb (List.mem_append_right _ (List.mem_append_left _ (List.mem_of_getElem? (i := 94) rfl))) rfl
theorem wT_1_95 : (Cond.soleField "ScopeTree$Loader" "isGone") ∈ aw_TB := aw_tb (List.mem_append_right _ (List.mem_append_left _ (List.mem_of_getElem? (i := 95) rfl))) rfl
theorem wT_1_96 : (Cond.superclass "ScopeTree$Loader" "java/lang/Object") ∈ aw_TB := aw_tb (List.mem_append_right _ (List.mem_append_left _ (List.mem_of_getElem? (i := 96) rfl))) rfl
theorem wT_1_97 : (Cond.instantiable "ScopeTree$Type" 5) ∈ aw_TB := aw_tb (List.mem_append_right _ (List.mem_append_left _ (List.mem_of_getElem? (i := 97) rfl))) rfl
theorem wN_1_98 : (Cond.methodLinkNest "ScopeTree" 44 ⟨"ScopeTree$Type", "<init>", "(IIILScopeTree$Loader;LScopeTree$Type;)V"⟩ "ScopeTree") ∈ aw_NB := aw_nb (List.mem_append_right _ (List.mem_append_left _ (List.mem_of_getElem? (i := 98) rfl))) rfl
theorem wT_1_99 : (Cond.instanceMethod ⟨"ScopeTree$Type", "<init>", "(IIILScopeTree$Loader;LScopeTree$Type;)V"⟩) ∈ aw_TB := aw_tb (List.mem_append_right _ (List.mem_append_left _ (List.mem_of_getElem? (i := 99) rfl))) rfl
theorem wT_1_100 : (Cond.code ⟨"ScopeTree$Type", "<init>", "(IIILScopeTree$Loader;LScopeTree$Type;)V"⟩ prog_10_method_1_code 6 none) ∈ aw_TB := aw_tb (List.mem_append_right _ (List.mem_append_left _ (List.mem_of_getElem? (i := 100) rfl))) rfl
theorem wT_1_101 : (Cond.methodLink "ScopeTree$Type" 1 ⟨"java/lang/Object", "<init>", "()V"⟩) ∈ aw_TB := aw_tb (List.mem_append_right _ (List.mem_append_left _ (List.mem_of_getElem? (i := 101) rfl))) rfl
theorem wT_1_102 : (Cond.fieldLink "ScopeTree$Type" 7 "ScopeTree$Type" "number" "I") ∈ aw_TB := aw_tb (List.mem_append_right _ (List.mem_append_left _ (List.mem_of_getElem? (i := 102) rfl))) rfl
theorem wN_1_103 : (Cond.fieldLinkNest "ScopeTree" 224 "ScopeTree$Type" "number" "I" "ScopeTree") ∈ aw_NB := aw_nb (List.mem_append_right _ (List.mem_append_left _ (List.mem_of_getElem? (i := 103) rfl))) rfl
theorem wT_1_104 : (Cond.fieldLink "ScopeTree$Type" 13 "ScopeTree$Type" "name" "I") ∈ aw_TB := aw_tb (List.mem_append_right _ (List.mem_append_left _ (List.mem_of_getElem? (i := 104) rfl))) rfl
theorem wN_1_105 : (Cond.fieldLinkNest "ScopeTree" 229 "ScopeTree$Type" "name" "I" "ScopeTree") ∈ aw_NB := aw_nb (List.mem_append_right _ (List.mem_append_left _ (List.mem_of_getElem? (i := 105) rfl))) rfl
theorem wT_1_106 : (Cond.fieldLink "ScopeTree$Type" 16 "ScopeTree$Type" "version" "I") ∈ aw_TB := aw_tb (List.mem_append_right _ (List.mem_append_left _ (List.mem_of_getElem? (i := 106) rfl))) rfl
theorem wN_1_107 : (Cond.fieldLinkNest "ScopeTree" 239 "ScopeTree$Type" "version" "I" "ScopeTree") ∈ aw_NB := aw_nb (List.mem_append_right _ (List.mem_append_left _ (List.mem_of_getElem? (i := 107) rfl))) rfl
theorem wT_1_108 : (Cond.fieldLink "ScopeTree$Type" 19 "ScopeTree$Type" "definer" "LScopeTree$Loader;") ∈ aw_TB := aw_tb (List.mem_append_right _ (List.mem_append_left _ (List.mem_of_getElem? (i := 108) rfl))) rfl
theorem wN_1_109 : (Cond.fieldLinkNest "ScopeTree" 232 "ScopeTree$Type" "definer" "LScopeTree$Loader;" "ScopeTree") ∈ aw_NB := aw_nb (List.mem_append_right _ (List.mem_append_left _ (List.mem_of_getElem? (i := 109) rfl))) rfl
theorem wT_1_110 : (Cond.fieldLink "ScopeTree$Type" 23 "ScopeTree$Type" "superType" "LScopeTree$Type;") ∈ aw_TB := aw_tb (List.mem_append_right _ (List.mem_append_left _ (List.mem_of_getElem? (i := 110) rfl))) rfl
theorem wN_1_111 : (Cond.fieldLinkNest "ScopeTree" 242 "ScopeTree$Type" "superType" "LScopeTree$Type;" "ScopeTree") ∈ aw_NB := aw_nb (List.mem_append_right _ (List.mem_append_left _ (List.mem_of_getElem? (i := 111) rfl))) rfl
theorem wT_1_112 : (Cond.laysFinal "ScopeTree$Type" "ScopeTree$Type" "number" "I") ∈ aw_TB := aw_tb (List.mem_append_right _ (List.mem_append_left _ (List.mem_of_getElem? (i := 112) rfl))) rfl
theorem wT_1_113 : (Cond.soleField "ScopeTree$Type" "number") ∈ aw_TB := aw_tb (List.mem_append_right _ (List.mem_append_left _ (List.mem_of_getElem? (i := 113) rfl))) rfl
theorem wT_1_114 : (Cond.laysFinal "ScopeTree$Type" "ScopeTree$Type" "name" "I") ∈ aw_TB := aw_tb (List.mem_append_right _ (List.mem_append_left _ (List.mem_of_getElem? (i := 114) rfl))) rfl
theorem wT_1_115 : (Cond.soleField "ScopeTree$Type" "name") ∈ aw_TB := aw_tb (List.mem_append_right _ (List.mem_append_left _ (List.mem_of_getElem? (i := 115) rfl))) rfl
theorem wT_1_116 : (Cond.laysFinal "ScopeTree$Type" "ScopeTree$Type" "version" "I") ∈ aw_TB := aw_tb (List.mem_append_right _ (List.mem_append_left _ (List.mem_of_getElem? (i := 116) rfl))) rfl
theorem wT_1_117 : (Cond.soleField "ScopeTree$Type" "version") ∈ aw_TB := aw_tb (List.mem_append_right _ (List.mem_append_left _ (List.mem_of_getElem? (i := 117) rfl))) rfl
theorem wT_1_118 : (Cond.laysFinal "ScopeTree$Type" "ScopeTree$Type" "definer" "LScopeTree$Loader;") ∈ aw_TB := aw_tb (List.mem_append_right _ (List.mem_append_left _ (List.mem_of_getElem? (i := 118) rfl))) rfl
theorem wT_1_119 : (Cond.soleField "ScopeTree$Type" "definer") ∈ aw_TB := aw_tb (List.mem_append_right _ (List.mem_append_left _ (List.mem_of_getElem? (i := 119) rfl))) rfl
theorem wT_1_120 : (Cond.laysFinal "ScopeTree$Type" "ScopeTree$Type" "superType" "LScopeTree$Type;") ∈ aw_TB := aw_tb (List.mem_append_right _ (List.mem_append_left _ (List.mem_of_getElem? (i := 120) rfl))) rfl
theorem wT_1_121 : (Cond.soleField "ScopeTree$Type" "superType") ∈ aw_TB := aw_tb (List.mem_append_right _ (List.mem_append_left _ (List.mem_of_getElem? (i := 121) rfl))) rfl
theorem wT_1_122 : (Cond.superclass "ScopeTree$Type" "java/lang/Object") ∈ aw_TB := aw_tb (List.mem_append_right _ (List.mem_append_left _ (List.mem_of_getElem? (i := 122) rfl))) rfl
theorem wT_1_123 : (Cond.instantiable "ScopeTree$Scope" 10) ∈ aw_TB := aw_tb (List.mem_append_right _ (List.mem_append_left _ (List.mem_of_getElem? (i := 123) rfl))) rfl
theorem wN_1_124 : (Cond.methodLinkNest "ScopeTree" 51 ⟨"ScopeTree$Scope", "<init>", "(LScopeTree$Scope;)V"⟩ "ScopeTree") ∈ aw_NB := aw_nb (List.mem_append_right _ (List.mem_append_left _ (List.mem_of_getElem? (i := 124) rfl))) rfl
theorem wT_1_125 : (Cond.instanceMethod ⟨"ScopeTree$Scope", "<init>", "(LScopeTree$Scope;)V"⟩) ∈ aw_TB := aw_tb (List.mem_append_right _ (List.mem_append_left _ (List.mem_of_getElem? (i := 125) rfl))) rfl
theorem wT_1_126 : (Cond.code ⟨"ScopeTree$Scope", "<init>", "(LScopeTree$Scope;)V"⟩ prog_8_method_1_code 2 none) ∈ aw_TB := aw_tb (List.mem_append_right _ (List.mem_append_left _ (List.mem_of_getElem? (i := 126) rfl))) rfl
theorem wT_1_127 : (Cond.methodLink "ScopeTree$Scope" 3 ⟨"java/lang/Object", "<init>", "()V"⟩) ∈ aw_TB := aw_tb (List.mem_append_right _ (List.mem_append_left _ (List.mem_of_getElem? (i := 127) rfl))) rfl
theorem wT_1_128 : (Cond.classLink "ScopeTree$Scope" 9 "ScopeTree$Path") ∈ aw_TB := aw_tb (List.mem_append_right _ (List.mem_append_left _ (List.mem_of_getElem? (i := 128) rfl))) rfl
theorem wT_1_129 : (Cond.instantiable "ScopeTree$Path" 2) ∈ aw_TB := aw_tb (List.mem_append_right _ (List.mem_append_left _ (List.mem_of_getElem? (i := 129) rfl))) rfl
theorem wN_1_130 : (Cond.methodLinkNest "ScopeTree$Scope" 11 ⟨"ScopeTree$Path", "<init>", "()V"⟩ "ScopeTree") ∈ aw_NB := aw_nb (List.mem_append_right _ (List.mem_append_left _ (List.mem_of_getElem? (i := 130) rfl))) rfl
theorem wT_1_131 : (Cond.instanceMethod ⟨"ScopeTree$Path", "<init>", "()V"⟩) ∈ aw_TB := aw_tb (List.mem_append_right _ (List.mem_append_left _ (List.mem_of_getElem? (i := 131) rfl))) rfl
theorem wT_1_132 : (Cond.code ⟨"ScopeTree$Path", "<init>", "()V"⟩ prog_7_method_1_code 1 none) ∈ aw_TB := aw_tb (List.mem_append_right _ (List.mem_append_left _ (List.mem_of_getElem? (i := 132) rfl))) rfl
theorem wT_1_133 : (Cond.methodLink "ScopeTree$Path" 3 ⟨"java/lang/Object", "<init>", "()V"⟩) ∈ aw_TB := aw_tb (List.mem_append_right _ (List.mem_append_left _ (List.mem_of_getElem? (i := 133) rfl))) rfl
theorem wT_1_134 : (Cond.fieldLink "ScopeTree$Path" 9 "ScopeTree$Path" "archives" "[I") ∈ aw_TB := aw_tb (List.mem_append_right _ (List.mem_append_left _ (List.mem_of_getElem? (i := 134) rfl))) rfl
theorem wN_1_135 : (Cond.fieldLinkNest "ScopeTree" 306 "ScopeTree$Path" "archives" "[I" "ScopeTree") ∈ aw_NB := aw_nb (List.mem_append_right _ (List.mem_append_left _ (List.mem_of_getElem? (i := 135) rfl))) rfl
theorem wT_1_136 : (Cond.fieldLink "ScopeTree$Path" 15 "ScopeTree$Path" "length" "I") ∈ aw_TB := aw_tb (List.mem_append_right _ (List.mem_append_left _ (List.mem_of_getElem? (i := 136) rfl))) rfl
theorem wN_1_137 : (Cond.fieldLinkNest "ScopeTree" 286 "ScopeTree$Path" "length" "I" "ScopeTree") ∈ aw_NB := aw_nb (List.mem_append_right _ (List.mem_append_left _ (List.mem_of_getElem? (i := 137) rfl))) rfl
theorem wT_1_138 : (Cond.laysFinal "ScopeTree$Path" "ScopeTree$Path" "archives" "[I") ∈ aw_TB := aw_tb (List.mem_append_right _ (List.mem_append_left _ (List.mem_of_getElem? (i := 138) rfl))) rfl
theorem wT_1_139 : (Cond.soleField "ScopeTree$Path" "archives") ∈ aw_TB := aw_tb (List.mem_append_right _ (List.mem_append_left _ (List.mem_of_getElem? (i := 139) rfl))) rfl
theorem wT_1_140 : (Cond.lays "ScopeTree$Path" "ScopeTree$Path" "length" "I") ∈ aw_TB := aw_tb (List.mem_append_right _ (List.mem_append_left _ (List.mem_of_getElem? (i := 140) rfl))) rfl
theorem wT_1_141 : (Cond.soleField "ScopeTree$Path" "length") ∈ aw_TB := aw_tb (List.mem_append_right _ (List.mem_append_left _ (List.mem_of_getElem? (i := 141) rfl))) rfl
theorem wT_1_142 : (Cond.superclass "ScopeTree$Path" "java/lang/Object") ∈ aw_TB := aw_tb (List.mem_append_right _ (List.mem_append_left _ (List.mem_of_getElem? (i := 142) rfl))) rfl
theorem wT_1_143 : (Cond.fieldLink "ScopeTree$Scope" 21 "ScopeTree$State" "OPEN" "LScopeTree$State;") ∈ aw_TB := aw_tb (List.mem_append_right _ (List.mem_append_left _ (List.mem_of_getElem? (i := 143) rfl))) rfl
theorem wT_1_145 : (Cond.classLink "ScopeTree$Scope" 30 "ScopeTree$Type") ∈ aw_TB := aw_tb (List.mem_append_right _ (List.mem_append_left _ (List.mem_of_getElem? (i := 145) rfl))) rfl
theorem wT_1_146 : (Cond.fieldLink "ScopeTree$Scope" 36 "ScopeTree$Scope" "parent" "LScopeTree$Scope;") ∈ aw_TB := aw_tb (List.mem_append_right _ (List.mem_append_left _ (List.mem_of_getElem? (i := 146) rfl))) rfl
theorem wN_1_147 : (Cond.fieldLinkNest "ScopeTree" 166 "ScopeTree$Scope" "parent" "LScopeTree$Scope;" "ScopeTree") ∈ aw_NB := aw_nb (List.mem_append_right _ (List.mem_append_left _ (List.mem_of_getElem? (i := 147) rfl))) rfl
theorem wT_1_148 : (Cond.fieldLink "ScopeTree$Scope" 12 "ScopeTree$Scope" "localPath" "LScopeTree$Path;") ∈ aw_TB := aw_tb (List.mem_append_right _ (List.mem_append_left _ (List.mem_of_getElem? (i := 148) rfl))) rfl
theorem wN_1_149 : (Cond.fieldLinkNest "ScopeTree" 152 "ScopeTree$Scope" "localPath" "LScopeTree$Path;" "ScopeTree") ∈ aw_NB := aw_nb (List.mem_append_right _ (List.mem_append_left _ (List.mem_of_getElem? (i := 149) rfl))) rfl
theorem wT_1_150 : (Cond.fieldLink "ScopeTree$Scope" 18 "ScopeTree$Scope" "exportPath" "LScopeTree$Path;") ∈ aw_TB := aw_tb (List.mem_append_right _ (List.mem_append_left _ (List.mem_of_getElem? (i := 150) rfl))) rfl
theorem wN_1_151 : (Cond.fieldLinkNest "ScopeTree" 142 "ScopeTree$Scope" "exportPath" "LScopeTree$Path;" "ScopeTree") ∈ aw_NB := aw_nb (List.mem_append_right _ (List.mem_append_left _ (List.mem_of_getElem? (i := 151) rfl))) rfl
theorem wN_1_152 : (Cond.fieldLinkNest "ScopeTree" 162 "ScopeTree$Scope" "filter" "LScopeTree$Filter;" "ScopeTree") ∈ aw_NB := aw_nb (List.mem_append_right _ (List.mem_append_left _ (List.mem_of_getElem? (i := 152) rfl))) rfl
theorem wT_1_153 : (Cond.fieldLink "ScopeTree$Scope" 27 "ScopeTree$Scope" "state" "LScopeTree$State;") ∈ aw_TB := aw_tb (List.mem_append_right _ (List.mem_append_left _ (List.mem_of_getElem? (i := 153) rfl))) rfl
theorem wN_1_154 : (Cond.fieldLinkNest "ScopeTree" 60 "ScopeTree$Scope" "state" "LScopeTree$State;" "ScopeTree") ∈ aw_NB := aw_nb (List.mem_append_right _ (List.mem_append_left _ (List.mem_of_getElem? (i := 154) rfl))) rfl
theorem wN_1_155 : (Cond.fieldLinkNest "ScopeTree" 185 "ScopeTree$Scope" "baseLoader" "LScopeTree$Loader;" "ScopeTree") ∈ aw_NB := aw_nb (List.mem_append_right _ (List.mem_append_left _ (List.mem_of_getElem? (i := 155) rfl))) rfl
theorem wN_1_156 : (Cond.fieldLinkNest "ScopeTree" 63 "ScopeTree$Scope" "exportLoader" "LScopeTree$Loader;" "ScopeTree") ∈ aw_NB := aw_nb (List.mem_append_right _ (List.mem_append_left _ (List.mem_of_getElem? (i := 156) rfl))) rfl
theorem wN_1_157 : (Cond.fieldLinkNest "ScopeTree" 67 "ScopeTree$Scope" "localLoader" "LScopeTree$Loader;" "ScopeTree") ∈ aw_NB := aw_nb (List.mem_append_right _ (List.mem_append_left _ (List.mem_of_getElem? (i := 157) rfl))) rfl
theorem wT_1_158 : (Cond.fieldLink "ScopeTree$Scope" 32 "ScopeTree$Scope" "applied" "[LScopeTree$Type;") ∈ aw_TB := aw_tb (List.mem_append_right _ (List.mem_append_left _ (List.mem_of_getElem? (i := 158) rfl))) rfl
theorem wN_1_159 : (Cond.fieldLinkNest "ScopeTree" 272 "ScopeTree$Scope" "applied" "[LScopeTree$Type;" "ScopeTree") ∈ aw_NB := aw_nb (List.mem_append_right _ (List.mem_append_left _ (List.mem_of_getElem? (i := 159) rfl))) rfl
theorem wT_1_160 : (Cond.fieldLink "ScopeTree$Scope" 40 "ScopeTree$Scope" "appliedCount" "I") ∈ aw_TB := aw_tb (List.mem_append_right _ (List.mem_append_left _ (List.mem_of_getElem? (i := 160) rfl))) rfl
theorem wN_1_161 : (Cond.fieldLinkNest "ScopeTree" 269 "ScopeTree$Scope" "appliedCount" "I" "ScopeTree") ∈ aw_NB := aw_nb (List.mem_append_right _ (List.mem_append_left _ (List.mem_of_getElem? (i := 161) rfl))) rfl
theorem wT_1_162 : (Cond.laysFinal "ScopeTree$Scope" "ScopeTree$Scope" "parent" "LScopeTree$Scope;") ∈ aw_TB := aw_tb (List.mem_append_right _ (List.mem_append_left _ (List.mem_of_getElem? (i := 162) rfl))) rfl
theorem wT_1_163 : (Cond.soleField "ScopeTree$Scope" "parent") ∈ aw_TB := aw_tb (List.mem_append_right _ (List.mem_append_left _ (List.mem_of_getElem? (i := 163) rfl))) rfl
theorem wT_1_164 : (Cond.laysFinal "ScopeTree$Scope" "ScopeTree$Scope" "localPath" "LScopeTree$Path;") ∈ aw_TB := aw_tb (List.mem_append_right _ (List.mem_append_left _ (List.mem_of_getElem? (i := 164) rfl))) rfl
theorem wT_1_165 : (Cond.soleField "ScopeTree$Scope" "localPath") ∈ aw_TB := aw_tb (List.mem_append_right _ (List.mem_append_left _ (List.mem_of_getElem? (i := 165) rfl))) rfl
theorem wT_1_166 : (Cond.laysFinal "ScopeTree$Scope" "ScopeTree$Scope" "exportPath" "LScopeTree$Path;") ∈ aw_TB := aw_tb (List.mem_append_right _ (List.mem_append_left _ (List.mem_of_getElem? (i := 166) rfl))) rfl
theorem wT_1_167 : (Cond.soleField "ScopeTree$Scope" "exportPath") ∈ aw_TB := aw_tb (List.mem_append_right _ (List.mem_append_left _ (List.mem_of_getElem? (i := 167) rfl))) rfl
theorem wT_1_168 : (Cond.lays "ScopeTree$Scope" "ScopeTree$Scope" "filter" "LScopeTree$Filter;") ∈ aw_TB := aw_tb (List.mem_append_right _ (List.mem_append_left _ (List.mem_of_getElem? (i := 168) rfl))) rfl
theorem wT_1_169 : (Cond.soleField "ScopeTree$Scope" "filter") ∈ aw_TB := aw_tb (List.mem_append_right _ (List.mem_append_left _ (List.mem_of_getElem? (i := 169) rfl))) rfl
theorem wT_1_170 : (Cond.lays "ScopeTree$Scope" "ScopeTree$Scope" "state" "LScopeTree$State;") ∈ aw_TB := aw_tb (List.mem_append_right _ (List.mem_append_left _ (List.mem_of_getElem? (i := 170) rfl))) rfl
theorem wT_1_171 : (Cond.soleField "ScopeTree$Scope" "state") ∈ aw_TB := aw_tb (List.mem_append_right _ (List.mem_append_left _ (List.mem_of_getElem? (i := 171) rfl))) rfl
theorem wT_1_172 : (Cond.lays "ScopeTree$Scope" "ScopeTree$Scope" "baseLoader" "LScopeTree$Loader;") ∈ aw_TB := aw_tb (List.mem_append_right _ (List.mem_append_left _ (List.mem_of_getElem? (i := 172) rfl))) rfl
theorem wT_1_173 : (Cond.soleField "ScopeTree$Scope" "baseLoader") ∈ aw_TB := aw_tb (List.mem_append_right _ (List.mem_append_left _ (List.mem_of_getElem? (i := 173) rfl))) rfl
theorem wT_1_174 : (Cond.lays "ScopeTree$Scope" "ScopeTree$Scope" "exportLoader" "LScopeTree$Loader;") ∈ aw_TB := aw_tb (List.mem_append_right _ (List.mem_append_left _ (List.mem_of_getElem? (i := 174) rfl))) rfl
theorem wT_1_175 : (Cond.soleField "ScopeTree$Scope" "exportLoader") ∈ aw_TB := aw_tb (List.mem_append_right _ (List.mem_append_left _ (List.mem_of_getElem? (i := 175) rfl))) rfl
theorem wT_1_176 : (Cond.lays "ScopeTree$Scope" "ScopeTree$Scope" "localLoader" "LScopeTree$Loader;") ∈ aw_TB := aw_tb (List.mem_append_right _ (List.mem_append_left _ (List.mem_of_getElem? (i := 176) rfl))) rfl
theorem wT_1_177 : (Cond.soleField "ScopeTree$Scope" "localLoader") ∈ aw_TB := aw_tb (List.mem_append_right _ (List.mem_append_left _ (List.mem_of_getElem? (i := 177) rfl))) rfl
theorem wT_1_178 : (Cond.laysFinal "ScopeTree$Scope" "ScopeTree$Scope" "applied" "[LScopeTree$Type;") ∈ aw_TB := aw_tb (List.mem_append_right _ (List.mem_append_left _ (List.mem_of_getElem? (i := 178) rfl))) rfl
theorem wT_1_179 : (Cond.soleField "ScopeTree$Scope" "applied") ∈ aw_TB := aw_tb (List.mem_append_right _ (List.mem_append_left _ (List.mem_of_getElem? (i := 179) rfl))) rfl
theorem wT_1_180 : (Cond.lays "ScopeTree$Scope" "ScopeTree$Scope" "appliedCount" "I") ∈ aw_TB := aw_tb (List.mem_append_right _ (List.mem_append_left _ (List.mem_of_getElem? (i := 180) rfl))) rfl
theorem wT_1_181 : (Cond.soleField "ScopeTree$Scope" "appliedCount") ∈ aw_TB := aw_tb (List.mem_append_right _ (List.mem_append_left _ (List.mem_of_getElem? (i := 181) rfl))) rfl
theorem wT_1_182 : (Cond.superclass "ScopeTree$Scope" "java/lang/Object") ∈ aw_TB := aw_tb (List.mem_append_right _ (List.mem_append_left _ (List.mem_of_getElem? (i := 182) rfl))) rfl
theorem wT_1_183 : (Cond.fieldLink "ScopeTree" 54 "ScopeTree$State" "LOCKED" "LScopeTree$State;") ∈ aw_TB := aw_tb (List.mem_append_right _ (List.mem_append_left _ (List.mem_of_getElem? (i := 183) rfl))) rfl
theorem wT_1_185 : (Cond.fieldLink "ScopeTree" 11 "ScopeTree" "archives" "[LScopeTree$Archive;") ∈ aw_TB := aw_tb (List.mem_append_right _ (List.mem_append_left _ (List.mem_of_getElem? (i := 185) rfl))) rfl
theorem wT_1_186 : (Cond.fieldLink "ScopeTree" 17 "ScopeTree" "scopes" "[LScopeTree$Scope;") ∈ aw_TB := aw_tb (List.mem_append_right _ (List.mem_append_left _ (List.mem_of_getElem? (i := 186) rfl))) rfl
theorem wT_1_187 : (Cond.fieldLink "ScopeTree" 73 "ScopeTree" "scopeCount" "I") ∈ aw_TB := aw_tb (List.mem_append_right _ (List.mem_append_left _ (List.mem_of_getElem? (i := 187) rfl))) rfl
theorem wT_1_188 : (Cond.fieldLink "ScopeTree" 23 "ScopeTree" "loaders" "[LScopeTree$Loader;") ∈ aw_TB := aw_tb (List.mem_append_right _ (List.mem_append_left _ (List.mem_of_getElem? (i := 188) rfl))) rfl
theorem wT_1_189 : (Cond.fieldLink "ScopeTree" 29 "ScopeTree" "types" "[LScopeTree$Type;") ∈ aw_TB := aw_tb (List.mem_append_right _ (List.mem_append_left _ (List.mem_of_getElem? (i := 189) rfl))) rfl
theorem wT_1_190 : (Cond.fieldLink "ScopeTree" 47 "ScopeTree" "typeCount" "I") ∈ aw_TB := aw_tb (List.mem_append_right _ (List.mem_append_left _ (List.mem_of_getElem? (i := 190) rfl))) rfl
theorem wT_1_191 : (Cond.fieldLink "ScopeTree" 33 "ScopeTree" "openLoaders" "[LScopeTree$Loader;") ∈ aw_TB := aw_tb (List.mem_append_right _ (List.mem_append_left _ (List.mem_of_getElem? (i := 191) rfl))) rfl
theorem wT_1_192 : (Cond.fieldLink "ScopeTree" 36 "ScopeTree" "openNames" "[I") ∈ aw_TB := aw_tb (List.mem_append_right _ (List.mem_append_left _ (List.mem_of_getElem? (i := 192) rfl))) rfl
theorem wT_1_193 : (Cond.laysFinal "ScopeTree" "ScopeTree" "archives" "[LScopeTree$Archive;") ∈ aw_TB := aw_tb (List.mem_append_right _ (List.mem_append_left _ (List.mem_of_getElem? (i := 193) rfl))) rfl
theorem wT_1_194 : (Cond.soleField "ScopeTree" "archives") ∈ aw_TB := aw_tb (List.mem_append_right _ (List.mem_append_left _ (List.mem_of_getElem? (i := 194) rfl))) rfl
theorem wT_1_195 : (Cond.laysFinal "ScopeTree" "ScopeTree" "scopes" "[LScopeTree$Scope;") ∈ aw_TB := aw_tb (List.mem_append_right _ (List.mem_append_left _ (List.mem_of_getElem? (i := 195) rfl))) rfl
theorem wT_1_196 : (Cond.soleField "ScopeTree" "scopes") ∈ aw_TB := aw_tb (List.mem_append_right _ (List.mem_append_left _ (List.mem_of_getElem? (i := 196) rfl))) rfl
theorem wT_1_197 : (Cond.lays "ScopeTree" "ScopeTree" "scopeCount" "I") ∈ aw_TB := aw_tb (List.mem_append_right _ (List.mem_append_left _ (List.mem_of_getElem? (i := 197) rfl))) rfl
theorem wT_1_198 : (Cond.soleField "ScopeTree" "scopeCount") ∈ aw_TB := aw_tb (List.mem_append_right _ (List.mem_append_left _ (List.mem_of_getElem? (i := 198) rfl))) rfl
theorem wT_1_199 : (Cond.laysFinal "ScopeTree" "ScopeTree" "loaders" "[LScopeTree$Loader;") ∈ aw_TB := aw_tb (List.mem_append_right _ (List.mem_append_left _ (List.mem_of_getElem? (i := 199) rfl))) rfl
theorem wT_1_200 : (Cond.soleField "ScopeTree" "loaders") ∈ aw_TB := aw_tb (List.mem_append_right _ (List.mem_append_left _ (List.mem_of_getElem? (i := 200) rfl))) rfl
theorem wT_1_201 : (Cond.laysFinal "ScopeTree" "ScopeTree" "types" "[LScopeTree$Type;") ∈ aw_TB := aw_tb (List.mem_append_right _ (List.mem_append_left _ (List.mem_of_getElem? (i := 201) rfl))) rfl
theorem wT_1_202 : (Cond.soleField "ScopeTree" "types") ∈ aw_TB := aw_tb (List.mem_append_right _ (List.mem_append_left _ (List.mem_of_getElem? (i := 202) rfl))) rfl
theorem wT_1_203 : (Cond.lays "ScopeTree" "ScopeTree" "typeCount" "I") ∈ aw_TB := aw_tb (List.mem_append_right _ (List.mem_append_left _ (List.mem_of_getElem? (i := 203) rfl))) rfl
theorem wT_1_204 : (Cond.soleField "ScopeTree" "typeCount") ∈ aw_TB := aw_tb (List.mem_append_right _ (List.mem_append_left _ (List.mem_of_getElem? (i := 204) rfl))) rfl
theorem wT_1_205 : (Cond.laysFinal "ScopeTree" "ScopeTree" "openLoaders" "[LScopeTree$Loader;") ∈ aw_TB := aw_tb (List.mem_append_right _ (List.mem_append_left _ (List.mem_of_getElem? (i := 205) rfl))) rfl
theorem wT_1_206 : (Cond.soleField "ScopeTree" "openLoaders") ∈ aw_TB := aw_tb (List.mem_append_right _ (List.mem_append_left _ (List.mem_of_getElem? (i := 206) rfl))) rfl
theorem wT_1_207 : (Cond.laysFinal "ScopeTree" "ScopeTree" "openNames" "[I") ∈ aw_TB := aw_tb (List.mem_append_right _ (List.mem_append_left _ (List.mem_of_getElem? (i := 207) rfl))) rfl
theorem wT_1_208 : (Cond.soleField "ScopeTree" "openNames") ∈ aw_TB := aw_tb (List.mem_append_right _ (List.mem_append_left _ (List.mem_of_getElem? (i := 208) rfl))) rfl
theorem wT_1_209 : (Cond.superclass "ScopeTree" "java/lang/Object") ∈ aw_TB := aw_tb (List.mem_append_right _ (List.mem_append_left _ (List.mem_of_getElem? (i := 209) rfl))) rfl
theorem wT_1_210 : (Cond.methodLink "ScopeTreeLaw" 114 ⟨"ScopeTree", "look", "(II)I"⟩) ∈ aw_TB := aw_tb (List.mem_append_right _ (List.mem_append_left _ (List.mem_of_getElem? (i := 210) rfl))) rfl
theorem wT_1_211 : (Cond.instanceMethod ⟨"ScopeTree", "look", "(II)I"⟩) ∈ aw_TB := aw_tb (List.mem_append_right _ (List.mem_append_left _ (List.mem_of_getElem? (i := 211) rfl))) rfl
theorem wT_1_212 : (Cond.selects "ScopeTree" ⟨"ScopeTree", "look", "(II)I"⟩ ⟨"ScopeTree", "look", "(II)I"⟩) ∈ aw_TB := aw_tb (List.mem_append_right _ (List.mem_append_left _ (List.mem_of_getElem? (i := 212) rfl))) rfl
theorem wT_1_213 : (Cond.code ⟨"ScopeTree", "look", "(II)I"⟩ prog_1_method_11_code 4 (some .int)) ∈ aw_TB := aw_tb (List.mem_append_right _ (List.mem_append_left _ (List.mem_of_getElem? (i := 213) rfl))) rfl
theorem wT_1_214 : (Cond.methodLink "ScopeTree" 80 ⟨"ScopeTree", "isBelow", "(II)Z"⟩) ∈ aw_TB := aw_tb (List.mem_append_right _ (List.mem_append_left _ (List.mem_of_getElem? (i := 214) rfl))) rfl
theorem wT_1_215 : (Cond.static ⟨"ScopeTree", "isBelow", "(II)Z"⟩) ∈ aw_TB := aw_tb (List.mem_append_right _ (List.mem_append_left _ (List.mem_of_getElem? (i := 215) rfl))) rfl
theorem wT_1_216 : (Cond.code ⟨"ScopeTree", "isBelow", "(II)Z"⟩ prog_1_method_17_code 2 (some .boolean)) ∈ aw_TB := aw_tb (List.mem_append_right _ (List.mem_append_left _ (List.mem_of_getElem? (i := 216) rfl))) rfl
theorem wT_1_217 : (Cond.methodLink "ScopeTreeLaw" 72 ⟨"ScopeTreeLaw", "file", "(LScopeTree;IIII[J)I"⟩) ∈ aw_TB := aw_tb (List.mem_append_right _ (List.mem_append_left _ (List.mem_of_getElem? (i := 217) rfl))) rfl
theorem wT_1_218 : (Cond.static ⟨"ScopeTreeLaw", "file", "(LScopeTree;IIII[J)I"⟩) ∈ aw_TB := aw_tb (List.mem_append_right _ (List.mem_append_left _ (List.mem_of_getElem? (i := 218) rfl))) rfl
theorem wT_1_219 : (Cond.codeWith ⟨"ScopeTreeLaw", "file", "(LScopeTree;IIII[J)I"⟩ method_3_code 7 (some .int) [(0, 14, 17, 13), (0, 14, 21, 15)]) ∈ aw_TB := aw_tb (List.mem_append_right _ (List.mem_append_left _ (List.mem_of_getElem? (i := 219) rfl))) rfl
theorem wT_1_220 : (Cond.classLink "ScopeTreeLaw" 13 "java/lang/IllegalArgumentException") ∈ aw_TB := aw_tb (List.mem_append_right _ (List.mem_append_left _ (List.mem_of_getElem? (i := 220) rfl))) rfl
theorem wT_1_221 : (Cond.classLink "ScopeTreeLaw" 15 "java/lang/IllegalStateException") ∈ aw_TB := aw_tb (List.mem_append_right _ (List.mem_append_left _ (List.mem_of_getElem? (i := 221) rfl))) rfl
theorem wT_1_222 : (Cond.methodLink "ScopeTreeLaw" 7 ⟨"ScopeTree", "file", "(IIII)I"⟩) ∈ aw_TB := aw_tb (List.mem_append_right _ (List.mem_append_left _ (List.mem_of_getElem? (i := 222) rfl))) rfl
theorem wT_1_223 : (Cond.instanceMethod ⟨"ScopeTree", "file", "(IIII)I"⟩) ∈ aw_TB := aw_tb (List.mem_append_right _ (List.mem_append_left _ (List.mem_of_getElem? (i := 223) rfl))) rfl
theorem wT_1_224 : (Cond.selects "ScopeTree" ⟨"ScopeTree", "file", "(IIII)I"⟩ ⟨"ScopeTree", "file", "(IIII)I"⟩) ∈ aw_TB := aw_tb (List.mem_append_right _ (List.mem_append_left _ (List.mem_of_getElem? (i := 224) rfl))) rfl
theorem wT_1_225 : (Cond.code ⟨"ScopeTree", "file", "(IIII)I"⟩ prog_1_method_2_code 6 (some .int)) ∈ aw_TB := aw_tb (List.mem_append_right _ (List.mem_append_left _ (List.mem_of_getElem? (i := 225) rfl))) rfl
theorem wT_1_226 : (Cond.methodLink "ScopeTree" 76 ⟨"ScopeTree", "archiveAt", "(I)LScopeTree$Archive;"⟩) ∈ aw_TB := aw_tb (List.mem_append_right _ (List.mem_append_left _ (List.mem_of_getElem? (i := 226) rfl))) rfl
theorem wT_1_228 : (Cond.instanceMethod ⟨"ScopeTree", "archiveAt", "(I)LScopeTree$Archive;"⟩) ∈ aw_TB := aw_tb (List.mem_append_right _ (List.mem_append_left _ (List.mem_of_getElem? (i := 228) rfl))) rfl
theorem wT_1_229 : (Cond.code ⟨"ScopeTree", "archiveAt", "(I)LScopeTree$Archive;"⟩ prog_1_method_18_code 2 (some (.object "ScopeTree$Archive"))) ∈ aw_TB := aw_tb (List.mem_append_right _ (List.mem_append_left _ (List.mem_of_getElem? (i := 229) rfl))) rfl
theorem wT_1_230 : (Cond.classLink "ScopeTree" 84 "java/lang/IllegalArgumentException") ∈ aw_TB := aw_tb (List.mem_append_right _ (List.mem_append_left _ (List.mem_of_getElem? (i := 230) rfl))) rfl
theorem wT_1_231 : (Cond.instantiable "java/lang/IllegalArgumentException" 6) ∈ aw_TB := aw_tb (List.mem_append_right _ (List.mem_append_left _ (List.mem_of_getElem? (i := 231) rfl))) rfl
theorem wN_1_232 : (Cond.castable "java/lang/IllegalArgumentException" "java/lang/IllegalArgumentException") ∈ aw_NB := aw_nb (List.mem_append_right _ (List.mem_append_left _ (List.mem_of_getElem? (i := 232) rfl))) rfl
theorem wN_1_233 : (Cond.declares ⟨"java/lang/RuntimeException", "<init>", "()V"⟩) ∈ aw_NB := aw_nb (List.mem_append_right _ (List.mem_append_left _ (List.mem_of_getElem? (i := 233) rfl))) rfl
theorem wN_1_234 : (Cond.declares ⟨"java/lang/RuntimeException", "<init>", "(Ljava/lang/String;)V"⟩) ∈ aw_NB := aw_nb (List.mem_append_right _ (List.mem_append_left _ (List.mem_of_getElem? (i := 234) rfl))) rfl
theorem wN_1_235 : (Cond.declares ⟨"java/lang/Exception", "<init>", "()V"⟩) ∈ aw_NB := aw_nb (List.mem_append_right _ (List.mem_append_left _ (List.mem_of_getElem? (i := 235) rfl))) rfl
theorem wN_1_236 : (Cond.declares ⟨"java/lang/Exception", "<init>", "(Ljava/lang/String;)V"⟩) ∈ aw_NB := aw_nb (List.mem_append_right _ (List.mem_append_left _ (List.mem_of_getElem? (i := 236) rfl))) rfl
theorem wN_1_237 : (Cond.declares ⟨"java/lang/Throwable", "<init>", "()V"⟩) ∈ aw_NB := aw_nb (List.mem_append_right _ (List.mem_append_left _ (List.mem_of_getElem? (i := 237) rfl))) rfl
theorem wN_1_238 : (Cond.declares ⟨"java/lang/Throwable", "<init>", "(Ljava/lang/String;)V"⟩) ∈ aw_NB := aw_nb (List.mem_append_right _ (List.mem_append_left _ (List.mem_of_getElem? (i := 238) rfl))) rfl
theorem wT_1_239 : (Cond.selects "java/lang/IllegalArgumentException" ⟨"java/lang/Throwable", "fillInStackTrace", "(I)Ljava/lang/Throwable;"⟩ ⟨"java/lang/Throwable", "fillInStackTrace", "(I)Ljava/lang/Throwable;"⟩) ∈ aw_TB := aw_tb (List.mem_append_right _ (List.mem_append_left _ (List.mem_of_getElem? (i := 239) rfl))) rfl
theorem wT_2_0 : (Cond.selects "java/lang/IllegalArgumentException" ⟨"java/lang/Throwable", "fillInStackTrace", "()Ljava/lang/Throwable;"⟩ ⟨"java/lang/Throwable", "fillInStackTrace", "()Ljava/lang/Throwable;"⟩) ∈ aw_TB := aw_tb (List.mem_append_right _ (List.mem_append_right _ (List.mem_append_left _ (List.mem_of_getElem? (i := 0) rfl)))) rfl
theorem wT_2_1 : (Cond.lays "java/lang/IllegalArgumentException" "java/lang/Throwable" "cause" "Ljava/lang/Throwable;") ∈ aw_TB := aw_tb (List.mem_append_right _ (List.mem_append_right _ (List.mem_append_left _ (List.mem_of_getElem? (i := 1) rfl)))) rfl
theorem wT_2_2 : (Cond.lays "java/lang/Throwable" "java/lang/Throwable" "cause" "Ljava/lang/Throwable;") ∈ aw_TB := aw_tb (List.mem_append_right _ (List.mem_append_right _ (List.mem_append_left _ (List.mem_of_getElem? (i := 2) rfl)))) rfl
theorem wT_2_3 : (Cond.lays "java/lang/IllegalArgumentException" "java/lang/Throwable" "stackTrace" "[Ljava/lang/StackTraceElement;") ∈ aw_TB := aw_tb (List.mem_append_right _ (List.mem_append_right _ (List.mem_append_left _ (List.mem_of_getElem? (i := 3) rfl)))) rfl
theorem wT_2_4 : (Cond.lays "java/lang/Throwable" "java/lang/Throwable" "stackTrace" "[Ljava/lang/StackTraceElement;") ∈ aw_TB := aw_tb (List.mem_append_right _ (List.mem_append_right _ (List.mem_append_left _ (List.mem_of_getElem? (i := 4) rfl)))) rfl
theorem wT_2_5 : (Cond.lays "java/lang/IllegalArgumentException" "java/lang/Throwable" "suppressedExceptions" "Ljava/util/List;") ∈ aw_TB := aw_tb (List.mem_append_right _ (List.mem_append_right _ (List.mem_append_left _ (List.mem_of_getElem? (i := 5) rfl)))) rfl
theorem wT_2_6 : (Cond.lays "java/lang/Throwable" "java/lang/Throwable" "suppressedExceptions" "Ljava/util/List;") ∈ aw_TB := aw_tb (List.mem_append_right _ (List.mem_append_right _ (List.mem_append_left _ (List.mem_of_getElem? (i := 6) rfl)))) rfl
theorem wT_2_7 : (Cond.lays "java/lang/IllegalArgumentException" "java/lang/Throwable" "detailMessage" "Ljava/lang/String;") ∈ aw_TB := aw_tb (List.mem_append_right _ (List.mem_append_right _ (List.mem_append_left _ (List.mem_of_getElem? (i := 7) rfl)))) rfl
theorem wT_2_8 : (Cond.lays "java/lang/Throwable" "java/lang/Throwable" "detailMessage" "Ljava/lang/String;") ∈ aw_TB := aw_tb (List.mem_append_right _ (List.mem_append_right _ (List.mem_append_left _ (List.mem_of_getElem? (i := 8) rfl)))) rfl
theorem wT_2_9 : (Cond.lays "java/lang/IllegalArgumentException" "java/lang/Throwable" "backtrace" "Ljava/lang/Object;") ∈ aw_TB := aw_tb (List.mem_append_right _ (List.mem_append_right _ (List.mem_append_left _ (List.mem_of_getElem? (i := 9) rfl)))) rfl
theorem wT_2_10 : (Cond.lays "java/lang/Throwable" "java/lang/Throwable" "backtrace" "Ljava/lang/Object;") ∈ aw_TB := aw_tb (List.mem_append_right _ (List.mem_append_right _ (List.mem_append_left _ (List.mem_of_getElem? (i := 10) rfl)))) rfl
theorem wT_2_11 : (Cond.fieldLink "java/lang/Throwable" 198 "java/lang/Throwable" "backtrace" "Ljava/lang/Object;") ∈ aw_TB := aw_tb (List.mem_append_right _ (List.mem_append_right _ (List.mem_append_left _ (List.mem_of_getElem? (i := 11) rfl)))) rfl
theorem wT_2_12 : (Cond.superclass "java/lang/Throwable" "java/lang/Object") ∈ aw_TB := aw_tb (List.mem_append_right _ (List.mem_append_right _ (List.mem_append_left _ (List.mem_of_getElem? (i := 12) rfl)))) rfl
theorem wT_2_13 : (Cond.instanceMethod ⟨"java/lang/Throwable", "<init>", "()V"⟩) ∈ aw_TB := aw_tb (List.mem_append_right _ (List.mem_append_right _ (List.mem_append_left _ (List.mem_of_getElem? (i := 13) rfl)))) rfl
theorem wT_2_14 : (Cond.code ⟨"java/lang/Throwable", "<init>", "()V"⟩ prog_21_method_1_code 1 none) ∈ aw_TB := aw_tb (List.mem_append_right _ (List.mem_append_right _ (List.mem_append_left _ (List.mem_of_getElem? (i := 14) rfl)))) rfl
theorem wT_2_15 : (Cond.methodLink "java/lang/Throwable" 1 ⟨"java/lang/Object", "<init>", "()V"⟩) ∈ aw_TB := aw_tb (List.mem_append_right _ (List.mem_append_right _ (List.mem_append_left _ (List.mem_of_getElem? (i := 15) rfl)))) rfl
theorem wT_2_16 : (Cond.fieldLink "java/lang/Throwable" 13 "java/lang/Throwable" "UNASSIGNED_STACK" "[Ljava/lang/StackTraceElement;") ∈ aw_TB := aw_tb (List.mem_append_right _ (List.mem_append_right _ (List.mem_append_left _ (List.mem_of_getElem? (i := 16) rfl)))) rfl
theorem wT_2_18 : (Cond.fieldLink "java/lang/Throwable" 20 "java/lang/Throwable" "SUPPRESSED_SENTINEL" "Ljava/util/List;") ∈ aw_TB := aw_tb (List.mem_append_right _ (List.mem_append_right _ (List.mem_append_left _ (List.mem_of_getElem? (i := 18) rfl)))) rfl
theorem wT_2_20 : (Cond.methodLink "java/lang/Throwable" 27 ⟨"java/lang/Throwable", "fillInStackTrace", "()Ljava/lang/Throwable;"⟩) ∈ aw_TB := aw_tb (List.mem_append_right _ (List.mem_append_right _ (List.mem_append_left _ (List.mem_of_getElem? (i := 20) rfl)))) rfl
theorem wT_2_21 : (Cond.instanceMethod ⟨"java/lang/Throwable", "fillInStackTrace", "()Ljava/lang/Throwable;"⟩) ∈ aw_TB := aw_tb (List.mem_append_right _ (List.mem_append_right _ (List.mem_append_left _ (List.mem_of_getElem? (i := 21) rfl)))) rfl
theorem wT_2_22 : (Cond.sameMethod "java/lang/Throwable" "java/lang/Throwable" "fillInStackTrace" "()Ljava/lang/Throwable;") ∈ aw_TB := aw_tb (List.mem_append_right _ (List.mem_append_right _ (List.mem_append_left _ (List.mem_of_getElem? (i := 22) rfl)))) rfl
theorem wT_2_23 : (Cond.selects "java/lang/IllegalStateException" ⟨"java/lang/Throwable", "fillInStackTrace", "()Ljava/lang/Throwable;"⟩ ⟨"java/lang/Throwable", "fillInStackTrace", "()Ljava/lang/Throwable;"⟩) ∈ aw_TB := aw_tb (List.mem_append_right _ (List.mem_append_right _ (List.mem_append_left _ (List.mem_of_getElem? (i := 23) rfl)))) rfl
theorem wT_2_24 : (Cond.selects "java/lang/UnsupportedOperationException" ⟨"java/lang/Throwable", "fillInStackTrace", "()Ljava/lang/Throwable;"⟩ ⟨"java/lang/Throwable", "fillInStackTrace", "()Ljava/lang/Throwable;"⟩) ∈ aw_TB := aw_tb (List.mem_append_right _ (List.mem_append_right _ (List.mem_append_left _ (List.mem_of_getElem? (i := 24) rfl)))) rfl
theorem wT_2_25 : (Cond.selects "java/util/NoSuchElementException" ⟨"java/lang/Throwable", "fillInStackTrace", "()Ljava/lang/Throwable;"⟩ ⟨"java/lang/Throwable", "fillInStackTrace", "()Ljava/lang/Throwable;"⟩) ∈ aw_TB := aw_tb (List.mem_append_right _ (List.mem_append_right _ (List.mem_append_left _ (List.mem_of_getElem? (i := 25) rfl)))) rfl
theorem wT_2_26 : (Cond.codeSync ⟨"java/lang/Throwable", "fillInStackTrace", "()Ljava/lang/Throwable;"⟩ prog_21_method_18_code 1 (some (.object "java/lang/Throwable"))) ∈ aw_TB := aw_tb (List.mem_append_right _ (List.mem_append_right _ (List.mem_append_left _ (List.mem_of_getElem? (i := 26) rfl)))) rfl
theorem wT_2_27 : (Cond.methodLink "java/lang/Throwable" 202 ⟨"java/lang/Throwable", "fillInStackTrace", "(I)Ljava/lang/Throwable;"⟩) ∈ aw_TB := aw_tb (List.mem_append_right _ (List.mem_append_right _ (List.mem_append_left _ (List.mem_of_getElem? (i := 27) rfl)))) rfl
theorem wT_2_29 : (Cond.instanceMethod ⟨"java/lang/Throwable", "fillInStackTrace", "(I)Ljava/lang/Throwable;"⟩) ∈ aw_TB := aw_tb (List.mem_append_right _ (List.mem_append_right _ (List.mem_append_left _ (List.mem_of_getElem? (i := 29) rfl)))) rfl
theorem wT_2_30 : (Cond.instantiable "java/lang/Throwable" 6) ∈ aw_TB := aw_tb (List.mem_append_right _ (List.mem_append_right _ (List.mem_append_left _ (List.mem_of_getElem? (i := 30) rfl)))) rfl
theorem wT_2_31 : (Cond.native ⟨"java/lang/Throwable", "fillInStackTrace", "(I)Ljava/lang/Throwable;"⟩) ∈ aw_TB := aw_tb (List.mem_append_right _ (List.mem_append_right _ (List.mem_append_left _ (List.mem_of_getElem? (i := 31) rfl)))) rfl
theorem wT_2_33 : (Cond.methodLink "ScopeTree" 88 ⟨"java/lang/IllegalArgumentException", "<init>", "(Ljava/lang/String;)V"⟩) ∈ aw_TB := aw_tb (List.mem_append_right _ (List.mem_append_right _ (List.mem_append_left _ (List.mem_of_getElem? (i := 33) rfl)))) rfl
theorem wT_2_34 : (Cond.instanceMethod ⟨"java/lang/IllegalArgumentException", "<init>", "(Ljava/lang/String;)V"⟩) ∈ aw_TB := aw_tb (List.mem_append_right _ (List.mem_append_right _ (List.mem_append_left _ (List.mem_of_getElem? (i := 34) rfl)))) rfl
theorem wT_2_35 : (Cond.code ⟨"java/lang/IllegalArgumentException", "<init>", "(Ljava/lang/String;)V"⟩ prog_15_method_2_code 2 none) ∈ aw_TB := aw_tb (List.mem_append_right _ (List.mem_append_right _ (List.mem_append_left _ (List.mem_of_getElem? (i := 35) rfl)))) rfl
theorem wT_2_36 : (Cond.methodLink "java/lang/IllegalArgumentException" 7 ⟨"java/lang/RuntimeException", "<init>", "(Ljava/lang/String;)V"⟩) ∈ aw_TB := aw_tb (List.mem_append_right _ (List.mem_append_right _ (List.mem_append_left _ (List.mem_of_getElem? (i := 36) rfl)))) rfl
theorem wT_2_37 : (Cond.instanceMethod ⟨"java/lang/RuntimeException", "<init>", "(Ljava/lang/String;)V"⟩) ∈ aw_TB := aw_tb (List.mem_append_right _ (List.mem_append_right _ (List.mem_append_left _ (List.mem_of_getElem? (i := 37) rfl)))) rfl
theorem wT_2_38 : (Cond.code ⟨"java/lang/RuntimeException", "<init>", "(Ljava/lang/String;)V"⟩ prog_19_method_2_code 2 none) ∈ aw_TB := aw_tb (List.mem_append_right _ (List.mem_append_right _ (List.mem_append_left _ (List.mem_of_getElem? (i := 38) rfl)))) rfl
theorem wT_2_39 : (Cond.methodLink "java/lang/RuntimeException" 7 ⟨"java/lang/Exception", "<init>", "(Ljava/lang/String;)V"⟩) ∈ aw_TB := aw_tb (List.mem_append_right _ (List.mem_append_right _ (List.mem_append_left _ (List.mem_of_getElem? (i := 39) rfl)))) rfl
theorem wT_2_40 : (Cond.instanceMethod ⟨"java/lang/Exception", "<init>", "(Ljava/lang/String;)V"⟩) ∈ aw_TB := aw_tb (List.mem_append_right _ (List.mem_append_right _ (List.mem_append_left _ (List.mem_of_getElem? (i := 40) rfl)))) rfl
theorem wT_2_41 : (Cond.code ⟨"java/lang/Exception", "<init>", "(Ljava/lang/String;)V"⟩ prog_14_method_2_code 2 none) ∈ aw_TB := aw_tb (List.mem_append_right _ (List.mem_append_right _ (List.mem_append_left _ (List.mem_of_getElem? (i := 41) rfl)))) rfl
theorem wT_2_42 : (Cond.methodLink "java/lang/Exception" 7 ⟨"java/lang/Throwable", "<init>", "(Ljava/lang/String;)V"⟩) ∈ aw_TB := aw_tb (List.mem_append_right _ (List.mem_append_right _ (List.mem_append_left _ (List.mem_of_getElem? (i := 42) rfl)))) rfl
theorem wT_2_43 : (Cond.instanceMethod ⟨"java/lang/Throwable", "<init>", "(Ljava/lang/String;)V"⟩) ∈ aw_TB := aw_tb (List.mem_append_right _ (List.mem_append_right _ (List.mem_append_left _ (List.mem_of_getElem? (i := 43) rfl)))) rfl
theorem wT_2_44 : (Cond.code ⟨"java/lang/Throwable", "<init>", "(Ljava/lang/String;)V"⟩ prog_21_method_2_code 2 none) ∈ aw_TB := aw_tb (List.mem_append_right _ (List.mem_append_right _ (List.mem_append_left _ (List.mem_of_getElem? (i := 44) rfl)))) rfl
theorem wT_2_45 : (Cond.fieldLink "java/lang/Throwable" 198 "java/lang/Throwable" "backtrace" "Ljava/lang/Object;") ∈ aw_TB := aw_tb (List.mem_append_right _ (List.mem_append_right _ (List.mem_append_left _ (List.mem_of_getElem? (i := 45) rfl)))) rfl
theorem wT_2_46 : (Cond.fieldLink "java/lang/Throwable" 31 "java/lang/Throwable" "detailMessage" "Ljava/lang/String;") ∈ aw_TB := aw_tb (List.mem_append_right _ (List.mem_append_right _ (List.mem_append_left _ (List.mem_of_getElem? (i := 46) rfl)))) rfl
theorem wT_2_47 : (Cond.fieldLink "java/lang/Throwable" 7 "java/lang/Throwable" "cause" "Ljava/lang/Throwable;") ∈ aw_TB := aw_tb (List.mem_append_right _ (List.mem_append_right _ (List.mem_append_left _ (List.mem_of_getElem? (i := 47) rfl)))) rfl
theorem wT_2_48 : (Cond.fieldLink "java/lang/Throwable" 17 "java/lang/Throwable" "stackTrace" "[Ljava/lang/StackTraceElement;") ∈ aw_TB := aw_tb (List.mem_append_right _ (List.mem_append_right _ (List.mem_append_left _ (List.mem_of_getElem? (i := 48) rfl)))) rfl
theorem wT_2_49 : (Cond.fieldLink "java/lang/Throwable" 24 "java/lang/Throwable" "suppressedExceptions" "Ljava/util/List;") ∈ aw_TB := aw_tb (List.mem_append_right _ (List.mem_append_right _ (List.mem_append_left _ (List.mem_of_getElem? (i := 49) rfl)))) rfl
theorem wT_2_50 : (Cond.soleField "java/lang/Throwable" "backtrace") ∈ aw_TB := aw_tb (List.mem_append_right _ (List.mem_append_right _ (List.mem_append_left _ (List.mem_of_getElem? (i := 50) rfl)))) rfl
theorem wT_2_51 : (Cond.soleField "java/lang/Throwable" "detailMessage") ∈ aw_TB := aw_tb (List.mem_append_right _ (List.mem_append_right _ (List.mem_append_left _ (List.mem_of_getElem? (i := 51) rfl)))) rfl
theorem wT_2_52 : (Cond.soleField "java/lang/Throwable" "cause") ∈ aw_TB := aw_tb (List.mem_append_right _ (List.mem_append_right _ (List.mem_append_left _ (List.mem_of_getElem? (i := 52) rfl)))) rfl
theorem wT_2_53 : (Cond.soleField "java/lang/Throwable" "stackTrace") ∈ aw_TB := aw_tb (List.mem_append_right _ (List.mem_append_right _ (List.mem_append_left _ (List.mem_of_getElem? (i := 53) rfl)))) rfl
theorem wT_2_54 : (Cond.lays "java/lang/IllegalArgumentException" "java/lang/Throwable" "depth" "I") ∈ aw_TB := aw_tb (List.mem_append_right _ (List.mem_append_right _ (List.mem_append_left _ (List.mem_of_getElem? (i := 54) rfl)))) rfl
theorem wT_2_55 : (Cond.soleField "java/lang/Throwable" "depth") ∈ aw_TB := aw_tb (List.mem_append_right _ (List.mem_append_right _ (List.mem_append_left _ (List.mem_of_getElem? (i := 55) rfl)))) rfl
theorem wT_2_56 : (Cond.soleField "java/lang/Throwable" "suppressedExceptions") ∈ aw_TB := aw_tb (List.mem_append_right _ (List.mem_append_right _ (List.mem_append_left _ (List.mem_of_getElem? (i := 56) rfl)))) rfl
theorem wT_2_57 : (Cond.superclass "java/lang/IllegalArgumentException" "java/lang/RuntimeException") ∈ aw_TB := aw_tb (List.mem_append_right _ (List.mem_append_right _ (List.mem_append_left _ (List.mem_of_getElem? (i := 57) rfl)))) rfl
theorem wT_2_58 : (Cond.arrayClass .byte) ∈ aw_TB := aw_tb (List.mem_append_right _ (List.mem_append_right _ (List.mem_append_left _ (List.mem_of_getElem? (i := 58) rfl)))) rfl
theorem wT_2_61 : (Cond.classLink "ScopeTree" 93 "ScopeTree$ClassFile") ∈ aw_TB := aw_tb (List.mem_append_right _ (List.mem_append_right _ (List.mem_append_left _ (List.mem_of_getElem? (i := 61) rfl)))) rfl
theorem wT_2_62 : (Cond.instantiable "ScopeTree$ClassFile" 3) ∈ aw_TB := aw_tb (List.mem_append_right _ (List.mem_append_right _ (List.mem_append_left _ (List.mem_of_getElem? (i := 62) rfl)))) rfl
theorem wN_2_63 : (Cond.methodLinkNest "ScopeTree" 95 ⟨"ScopeTree$ClassFile", "<init>", "(III)V"⟩ "ScopeTree") ∈ aw_NB := aw_nb (List.mem_append_right _ (List.mem_append_right _ (List.mem_append_left _ (List.mem_of_getElem? (i := 63) rfl)))) rfl
theorem wT_2_64 : (Cond.instanceMethod ⟨"ScopeTree$ClassFile", "<init>", "(III)V"⟩) ∈ aw_TB := aw_tb (List.mem_append_right _ (List.mem_append_right _ (List.mem_append_left _ (List.mem_of_getElem? (i := 64) rfl)))) rfl
theorem wT_2_65 : (Cond.code ⟨"ScopeTree$ClassFile", "<init>", "(III)V"⟩ prog_3_method_1_code 4 none) ∈ aw_TB := aw_tb (List.mem_append_right _ (List.mem_append_right _ (List.mem_append_left _ (List.mem_of_getElem? (i := 65) rfl)))) rfl
theorem wT_2_66 : (Cond.methodLink "ScopeTree$ClassFile" 1 ⟨"java/lang/Record", "<init>", "()V"⟩) ∈ aw_TB := aw_tb (List.mem_append_right _ (List.mem_append_right _ (List.mem_append_left _ (List.mem_of_getElem? (i := 66) rfl)))) rfl
theorem wT_2_67 : (Cond.instanceMethod ⟨"java/lang/Record", "<init>", "()V"⟩) ∈ aw_TB := aw_tb (List.mem_append_right _ (List.mem_append_right _ (List.mem_append_left _ (List.mem_of_getElem? (i := 67) rfl)))) rfl
theorem wT_2_68 : (Cond.code ⟨"java/lang/Record", "<init>", "()V"⟩ prog_18_method_1_code 1 none) ∈ aw_TB := aw_tb (List.mem_append_right _ (List.mem_append_right _ (List.mem_append_left _ (List.mem_of_getElem? (i := 68) rfl)))) rfl
theorem wT_2_69 : (Cond.methodLink "java/lang/Record" 1 ⟨"java/lang/Object", "<init>", "()V"⟩) ∈ aw_TB := aw_tb (List.mem_append_right _ (List.mem_append_right _ (List.mem_append_left _ (List.mem_of_getElem? (i := 69) rfl)))) rfl
theorem wT_2_70 : (Cond.fieldLink "ScopeTree$ClassFile" 7 "ScopeTree$ClassFile" "name" "I") ∈ aw_TB := aw_tb (List.mem_append_right _ (List.mem_append_right _ (List.mem_append_left _ (List.mem_of_getElem? (i := 70) rfl)))) rfl
theorem wN_2_71 : (Cond.fieldLinkNest "ScopeTree$Archive" 37 "ScopeTree$ClassFile" "name" "I" "ScopeTree") ∈ aw_NB := aw_nb (List.mem_append_right _ (List.mem_append_right _ (List.mem_append_left _ (List.mem_of_getElem? (i := 71) rfl)))) rfl
theorem wN_2_72 : (Cond.fieldLinkNest "ScopeTree" 332 "ScopeTree$ClassFile" "name" "I" "ScopeTree") ∈ aw_NB := aw_nb (List.mem_append_right _ (List.mem_append_right _ (List.mem_append_left _ (List.mem_of_getElem? (i := 72) rfl)))) rfl
theorem wT_2_73 : (Cond.fieldLink "ScopeTree$ClassFile" 13 "ScopeTree$ClassFile" "superName" "I") ∈ aw_TB := aw_tb (List.mem_append_right _ (List.mem_append_right _ (List.mem_append_left _ (List.mem_of_getElem? (i := 73) rfl)))) rfl
theorem wN_2_74 : (Cond.fieldLinkNest "ScopeTree" 345 "ScopeTree$ClassFile" "superName" "I" "ScopeTree") ∈ aw_NB := aw_nb (List.mem_append_right _ (List.mem_append_right _ (List.mem_append_left _ (List.mem_of_getElem? (i := 74) rfl)))) rfl
theorem wT_2_75 : (Cond.fieldLink "ScopeTree$ClassFile" 16 "ScopeTree$ClassFile" "version" "I") ∈ aw_TB := aw_tb (List.mem_append_right _ (List.mem_append_right _ (List.mem_append_left _ (List.mem_of_getElem? (i := 75) rfl)))) rfl
theorem wN_2_76 : (Cond.fieldLinkNest "ScopeTree" 356 "ScopeTree$ClassFile" "version" "I" "ScopeTree") ∈ aw_NB := aw_nb (List.mem_append_right _ (List.mem_append_right _ (List.mem_append_left _ (List.mem_of_getElem? (i := 76) rfl)))) rfl
theorem wT_2_77 : (Cond.laysFinal "ScopeTree$ClassFile" "ScopeTree$ClassFile" "name" "I") ∈ aw_TB := aw_tb (List.mem_append_right _ (List.mem_append_right _ (List.mem_append_left _ (List.mem_of_getElem? (i := 77) rfl)))) rfl
theorem wT_2_78 : (Cond.soleField "ScopeTree$ClassFile" "name") ∈ aw_TB := aw_tb (List.mem_append_right _ (List.mem_append_right _ (List.mem_append_left _ (List.mem_of_getElem? (i := 78) rfl)))) rfl
theorem wT_2_79 : (Cond.laysFinal "ScopeTree$ClassFile" "ScopeTree$ClassFile" "superName" "I") ∈ aw_TB := aw_tb (List.mem_append_right _ (List.mem_append_right _ (List.mem_append_left _ (List.mem_of_getElem? (i := 79) rfl)))) rfl
theorem wT_2_80 : (Cond.soleField "ScopeTree$ClassFile" "superName") ∈ aw_TB := aw_tb (List.mem_append_right _ (List.mem_append_right _ (List.mem_append_left _ (List.mem_of_getElem? (i := 80) rfl)))) rfl
theorem wT_2_81 : (Cond.laysFinal "ScopeTree$ClassFile" "ScopeTree$ClassFile" "version" "I") ∈ aw_TB := aw_tb (List.mem_append_right _ (List.mem_append_right _ (List.mem_append_left _ (List.mem_of_getElem? (i := 81) rfl)))) rfl
theorem wT_2_82 : (Cond.soleField "ScopeTree$ClassFile" "version") ∈ aw_TB := aw_tb (List.mem_append_right _ (List.mem_append_right _ (List.mem_append_left _ (List.mem_of_getElem? (i := 82) rfl)))) rfl
theorem wT_2_83 : (Cond.superclass "ScopeTree$ClassFile" "java/lang/Record") ∈ aw_TB := aw_tb (List.mem_append_right _ (List.mem_append_right _ (List.mem_append_left _ (List.mem_of_getElem? (i := 83) rfl)))) rfl
theorem wN_2_84 : (Cond.methodLinkNest "ScopeTree" 98 ⟨"ScopeTree$Archive", "putFile", "(LScopeTree$ClassFile;)Z"⟩ "ScopeTree") ∈ aw_NB := aw_nb (List.mem_append_right _ (List.mem_append_right _ (List.mem_append_left _ (List.mem_of_getElem? (i := 84) rfl)))) rfl
theorem wT_2_86 : (Cond.instanceMethod ⟨"ScopeTree$Archive", "putFile", "(LScopeTree$ClassFile;)Z"⟩) ∈ aw_TB := aw_tb (List.mem_append_right _ (List.mem_append_right _ (List.mem_append_left _ (List.mem_of_getElem? (i := 86) rfl)))) rfl
theorem wT_2_87 : (Cond.code ⟨"ScopeTree$Archive", "putFile", "(LScopeTree$ClassFile;)Z"⟩ prog_2_method_4_code 3 (some .boolean)) ∈ aw_TB := aw_tb (List.mem_append_right _ (List.mem_append_right _ (List.mem_append_left _ (List.mem_of_getElem? (i := 87) rfl)))) rfl
theorem wT_2_88 : (Cond.methodLink "ScopeTree$Archive" 23 ⟨"ScopeTree$Archive", "placeOfFile", "(I)I"⟩) ∈ aw_TB := aw_tb (List.mem_append_right _ (List.mem_append_right _ (List.mem_append_left _ (List.mem_of_getElem? (i := 88) rfl)))) rfl
theorem wT_2_90 : (Cond.instanceMethod ⟨"ScopeTree$Archive", "placeOfFile", "(I)I"⟩) ∈ aw_TB := aw_tb (List.mem_append_right _ (List.mem_append_right _ (List.mem_append_left _ (List.mem_of_getElem? (i := 90) rfl)))) rfl
theorem wT_2_91 : (Cond.code ⟨"ScopeTree$Archive", "placeOfFile", "(I)I"⟩ prog_2_method_6_code 3 (some .int)) ∈ aw_TB := aw_tb (List.mem_append_right _ (List.mem_append_right _ (List.mem_append_left _ (List.mem_of_getElem? (i := 91) rfl)))) rfl
theorem wT_2_92 : (Cond.methodLink "ScopeTree$Archive" 40 ⟨"java/lang/Math", "max", "(II)I"⟩) ∈ aw_TB := aw_tb (List.mem_append_right _ (List.mem_append_right _ (List.mem_append_left _ (List.mem_of_getElem? (i := 92) rfl)))) rfl
theorem wT_2_93 : (Cond.static ⟨"java/lang/Math", "max", "(II)I"⟩) ∈ aw_TB := aw_tb (List.mem_append_right _ (List.mem_append_right _ (List.mem_append_left _ (List.mem_of_getElem? (i := 93) rfl)))) rfl
theorem wT_2_94 : (Cond.code ⟨"java/lang/Math", "max", "(II)I"⟩ prog_17_method_65_code 2 (some .int)) ∈ aw_TB := aw_tb (List.mem_append_right _ (List.mem_append_right _ (List.mem_append_left _ (List.mem_of_getElem? (i := 94) rfl)))) rfl
theorem wT_2_95 : (Cond.classLink "ScopeTree" 102 "java/lang/IllegalStateException") ∈ aw_TB := aw_tb (List.mem_append_right _ (List.mem_append_right _ (List.mem_append_left _ (List.mem_of_getElem? (i := 95) rfl)))) rfl
theorem wT_2_96 : (Cond.instantiable "java/lang/IllegalStateException" 6) ∈ aw_TB := aw_tb (List.mem_append_right _ (List.mem_append_right _ (List.mem_append_left _ (List.mem_of_getElem? (i := 96) rfl)))) rfl
theorem wN_2_97 : (Cond.castable "java/lang/IllegalStateException" "java/lang/IllegalStateException") ∈ aw_NB := aw_nb (List.mem_append_right _ (List.mem_append_right _ (List.mem_append_left _ (List.mem_of_getElem? (i := 97) rfl)))) rfl
theorem wT_2_98 : (Cond.selects "java/lang/IllegalStateException" ⟨"java/lang/Throwable", "fillInStackTrace", "(I)Ljava/lang/Throwable;"⟩ ⟨"java/lang/Throwable", "fillInStackTrace", "(I)Ljava/lang/Throwable;"⟩) ∈ aw_TB := aw_tb (List.mem_append_right _ (List.mem_append_right _ (List.mem_append_left _ (List.mem_of_getElem? (i := 98) rfl)))) rfl
theorem wT_2_99 : (Cond.lays "java/lang/IllegalStateException" "java/lang/Throwable" "cause" "Ljava/lang/Throwable;") ∈ aw_TB := aw_tb (List.mem_append_right _ (List.mem_append_right _ (List.mem_append_left _ (List.mem_of_getElem? (i := 99) rfl)))) rfl
theorem wT_2_100 : (Cond.lays "java/lang/IllegalStateException" "java/lang/Throwable" "stackTrace" "[Ljava/lang/StackTraceElement;") ∈ aw_TB := aw_tb (List.mem_append_right _ (List.mem_append_right _ (List.mem_append_left _ (List.mem_of_getElem? (i := 100) rfl)))) rfl
theorem wT_2_101 : (Cond.lays "java/lang/IllegalStateException" "java/lang/Throwable" "suppressedExceptions" "Ljava/util/List;") ∈ aw_TB := aw_tb (List.mem_append_right _ (List.mem_append_right _ (List.mem_append_left _ (List.mem_of_getElem? (i := 101) rfl)))) rfl
theorem wT_2_102 : (Cond.lays "java/lang/IllegalStateException" "java/lang/Throwable" "detailMessage" "Ljava/lang/String;") ∈ aw_TB := aw_tb (List.mem_append_right _ (List.mem_append_right _ (List.mem_append_left _ (List.mem_of_getElem? (i := 102) rfl)))) rfl
theorem wT_2_103 : (Cond.lays "java/lang/IllegalStateException" "java/lang/Throwable" "backtrace" "Ljava/lang/Object;") ∈ aw_TB := aw_tb (List.mem_append_right _ (List.mem_append_right _ (List.mem_append_left _ (List.mem_of_getElem? (i := 103) rfl)))) rfl
theorem wT_2_105 : (Cond.methodLink "ScopeTree" 106 ⟨"java/lang/IllegalStateException", "<init>", "(Ljava/lang/String;)V"⟩) ∈ aw_TB := aw_tb (List.mem_append_right _ (List.mem_append_right _ (List.mem_append_left _ (List.mem_of_getElem? (i := 105) rfl)))) rfl
theorem wT_2_106 : (Cond.instanceMethod ⟨"java/lang/IllegalStateException", "<init>", "(Ljava/lang/String;)V"⟩) ∈ aw_TB := aw_tb (List.mem_append_right _ (List.mem_append_right _ (List.mem_append_left _ (List.mem_of_getElem? (i := 106) rfl)))) rfl
theorem wT_2_107 : (Cond.code ⟨"java/lang/IllegalStateException", "<init>", "(Ljava/lang/String;)V"⟩ prog_16_method_2_code 2 none) ∈ aw_TB := aw_tb (List.mem_append_right _ (List.mem_append_right _ (List.mem_append_left _ (List.mem_of_getElem? (i := 107) rfl)))) rfl
theorem wT_2_108 : (Cond.methodLink "java/lang/IllegalStateException" 7 ⟨"java/lang/RuntimeException", "<init>", "(Ljava/lang/String;)V"⟩) ∈ aw_TB := aw_tb (List.mem_append_right _ (List.mem_append_right _ (List.mem_append_left _ (List.mem_of_getElem? (i := 108) rfl)))) rfl
theorem wT_2_109 : (Cond.lays "java/lang/IllegalStateException" "java/lang/Throwable" "depth" "I") ∈ aw_TB := aw_tb (List.mem_append_right _ (List.mem_append_right _ (List.mem_append_left _ (List.mem_of_getElem? (i := 109) rfl)))) rfl
theorem wT_2_110 : (Cond.superclass "java/lang/IllegalStateException" "java/lang/RuntimeException") ∈ aw_TB := aw_tb (List.mem_append_right _ (List.mem_append_right _ (List.mem_append_left _ (List.mem_of_getElem? (i := 110) rfl)))) rfl
theorem wT_2_111 : (Cond.methodLink "ScopeTreeLaw" 82 ⟨"ScopeTreeLaw", "descriptor", "(LScopeTree;III[J)I"⟩) ∈ aw_TB := aw_tb (List.mem_append_right _ (List.mem_append_right _ (List.mem_append_left _ (List.mem_of_getElem? (i := 111) rfl)))) rfl
theorem wT_2_112 : (Cond.static ⟨"ScopeTreeLaw", "descriptor", "(LScopeTree;III[J)I"⟩) ∈ aw_TB := aw_tb (List.mem_append_right _ (List.mem_append_right _ (List.mem_append_left _ (List.mem_of_getElem? (i := 112) rfl)))) rfl
theorem wT_2_113 : (Cond.codeWith ⟨"ScopeTreeLaw", "descriptor", "(LScopeTree;III[J)I"⟩ method_4_code 6 (some .int) [(0, 12, 15, 13), (0, 12, 19, 15)]) ∈ aw_TB := aw_tb (List.mem_append_right _ (List.mem_append_right _ (List.mem_append_left _ (List.mem_of_getElem? (i := 113) rfl)))) rfl
theorem wT_2_114 : (Cond.methodLink "ScopeTreeLaw" 17 ⟨"ScopeTree", "descriptor", "(III)I"⟩) ∈ aw_TB := aw_tb (List.mem_append_right _ (List.mem_append_right _ (List.mem_append_left _ (List.mem_of_getElem? (i := 114) rfl)))) rfl
theorem wT_2_115 : (Cond.instanceMethod ⟨"ScopeTree", "descriptor", "(III)I"⟩) ∈ aw_TB := aw_tb (List.mem_append_right _ (List.mem_append_right _ (List.mem_append_left _ (List.mem_of_getElem? (i := 115) rfl)))) rfl
theorem wT_2_116 : (Cond.selects "ScopeTree" ⟨"ScopeTree", "descriptor", "(III)I"⟩ ⟨"ScopeTree", "descriptor", "(III)I"⟩) ∈ aw_TB := aw_tb (List.mem_append_right _ (List.mem_append_right _ (List.mem_append_left _ (List.mem_of_getElem? (i := 116) rfl)))) rfl
theorem wT_2_117 : (Cond.code ⟨"ScopeTree", "descriptor", "(III)I"⟩ prog_1_method_3_code 5 (some .int)) ∈ aw_TB := aw_tb (List.mem_append_right _ (List.mem_append_right _ (List.mem_append_left _ (List.mem_of_getElem? (i := 117) rfl)))) rfl
theorem wT_2_119 : (Cond.classLink "ScopeTree" 112 "ScopeTree$Descriptor") ∈ aw_TB := aw_tb (List.mem_append_right _ (List.mem_append_right _ (List.mem_append_left _ (List.mem_of_getElem? (i := 119) rfl)))) rfl
theorem wT_2_120 : (Cond.instantiable "ScopeTree$Descriptor" 2) ∈ aw_TB := aw_tb (List.mem_append_right _ (List.mem_append_right _ (List.mem_append_left _ (List.mem_of_getElem? (i := 120) rfl)))) rfl
theorem wN_2_121 : (Cond.methodLinkNest "ScopeTree" 114 ⟨"ScopeTree$Descriptor", "<init>", "(II)V"⟩ "ScopeTree") ∈ aw_NB := aw_nb (List.mem_append_right _ (List.mem_append_right _ (List.mem_append_left _ (List.mem_of_getElem? (i := 121) rfl)))) rfl
theorem wT_2_122 : (Cond.instanceMethod ⟨"ScopeTree$Descriptor", "<init>", "(II)V"⟩) ∈ aw_TB := aw_tb (List.mem_append_right _ (List.mem_append_right _ (List.mem_append_left _ (List.mem_of_getElem? (i := 122) rfl)))) rfl
theorem wT_2_123 : (Cond.code ⟨"ScopeTree$Descriptor", "<init>", "(II)V"⟩ prog_4_method_1_code 3 none) ∈ aw_TB := aw_tb (List.mem_append_right _ (List.mem_append_right _ (List.mem_append_left _ (List.mem_of_getElem? (i := 123) rfl)))) rfl
theorem wT_2_124 : (Cond.methodLink "ScopeTree$Descriptor" 1 ⟨"java/lang/Record", "<init>", "()V"⟩) ∈ aw_TB := aw_tb (List.mem_append_right _ (List.mem_append_right _ (List.mem_append_left _ (List.mem_of_getElem? (i := 124) rfl)))) rfl
theorem wT_2_125 : (Cond.fieldLink "ScopeTree$Descriptor" 7 "ScopeTree$Descriptor" "plugin" "I") ∈ aw_TB := aw_tb (List.mem_append_right _ (List.mem_append_right _ (List.mem_append_left _ (List.mem_of_getElem? (i := 125) rfl)))) rfl
theorem wN_2_126 : (Cond.fieldLinkNest "ScopeTree$Archive" 46 "ScopeTree$Descriptor" "plugin" "I" "ScopeTree") ∈ aw_NB := aw_nb (List.mem_append_right _ (List.mem_append_right _ (List.mem_append_left _ (List.mem_of_getElem? (i := 126) rfl)))) rfl
theorem wT_2_127 : (Cond.fieldLink "ScopeTree$Descriptor" 13 "ScopeTree$Descriptor" "name" "I") ∈ aw_TB := aw_tb (List.mem_append_right _ (List.mem_append_right _ (List.mem_append_left _ (List.mem_of_getElem? (i := 127) rfl)))) rfl
theorem wN_2_128 : (Cond.fieldLinkNest "ScopeTree" 261 "ScopeTree$Descriptor" "name" "I" "ScopeTree") ∈ aw_NB := aw_nb (List.mem_append_right _ (List.mem_append_right _ (List.mem_append_left _ (List.mem_of_getElem? (i := 128) rfl)))) rfl
theorem wT_2_129 : (Cond.laysFinal "ScopeTree$Descriptor" "ScopeTree$Descriptor" "plugin" "I") ∈ aw_TB := aw_tb (List.mem_append_right _ (List.mem_append_right _ (List.mem_append_left _ (List.mem_of_getElem? (i := 129) rfl)))) rfl
theorem wT_2_130 : (Cond.soleField "ScopeTree$Descriptor" "plugin") ∈ aw_TB := aw_tb (List.mem_append_right _ (List.mem_append_right _ (List.mem_append_left _ (List.mem_of_getElem? (i := 130) rfl)))) rfl
theorem wT_2_131 : (Cond.laysFinal "ScopeTree$Descriptor" "ScopeTree$Descriptor" "name" "I") ∈ aw_TB := aw_tb (List.mem_append_right _ (List.mem_append_right _ (List.mem_append_left _ (List.mem_of_getElem? (i := 131) rfl)))) rfl
theorem wT_2_132 : (Cond.soleField "ScopeTree$Descriptor" "name") ∈ aw_TB := aw_tb (List.mem_append_right _ (List.mem_append_right _ (List.mem_append_left _ (List.mem_of_getElem? (i := 132) rfl)))) rfl
theorem wT_2_133 : (Cond.superclass "ScopeTree$Descriptor" "java/lang/Record") ∈ aw_TB := aw_tb (List.mem_append_right _ (List.mem_append_right _ (List.mem_append_left _ (List.mem_of_getElem? (i := 133) rfl)))) rfl
theorem wN_2_134 : (Cond.methodLinkNest "ScopeTree" 117 ⟨"ScopeTree$Archive", "putDescriptor", "(LScopeTree$Descriptor;)Z"⟩ "ScopeTree") ∈ aw_NB := aw_nb (List.mem_append_right _ (List.mem_append_right _ (List.mem_append_left _ (List.mem_of_getElem? (i := 134) rfl)))) rfl
theorem wT_2_136 : (Cond.instanceMethod ⟨"ScopeTree$Archive", "putDescriptor", "(LScopeTree$Descriptor;)Z"⟩) ∈ aw_TB := aw_tb (List.mem_append_right _ (List.mem_append_right _ (List.mem_append_left _ (List.mem_of_getElem? (i := 136) rfl)))) rfl
theorem wT_2_137 : (Cond.code ⟨"ScopeTree$Archive", "putDescriptor", "(LScopeTree$Descriptor;)Z"⟩ prog_2_method_5_code 3 (some .boolean)) ∈ aw_TB := aw_tb (List.mem_append_right _ (List.mem_append_right _ (List.mem_append_left _ (List.mem_of_getElem? (i := 137) rfl)))) rfl
theorem wT_2_138 : (Cond.methodLink "ScopeTree$Archive" 31 ⟨"ScopeTree$Archive", "placeOfDescriptor", "(I)I"⟩) ∈ aw_TB := aw_tb (List.mem_append_right _ (List.mem_append_right _ (List.mem_append_left _ (List.mem_of_getElem? (i := 138) rfl)))) rfl
theorem wT_2_140 : (Cond.instanceMethod ⟨"ScopeTree$Archive", "placeOfDescriptor", "(I)I"⟩) ∈ aw_TB := aw_tb (List.mem_append_right _ (List.mem_append_right _ (List.mem_append_left _ (List.mem_of_getElem? (i := 140) rfl)))) rfl
theorem wT_2_141 : (Cond.code ⟨"ScopeTree$Archive", "placeOfDescriptor", "(I)I"⟩ prog_2_method_7_code 3 (some .int)) ∈ aw_TB := aw_tb (List.mem_append_right _ (List.mem_append_right _ (List.mem_append_left _ (List.mem_of_getElem? (i := 141) rfl)))) rfl
theorem wT_2_143 : (Cond.methodLink "ScopeTreeLaw" 86 ⟨"ScopeTreeLaw", "wipe", "(LScopeTree;I)I"⟩) ∈ aw_TB := aw_tb (List.mem_append_right _ (List.mem_append_right _ (List.mem_append_left _ (List.mem_of_getElem? (i := 143) rfl)))) rfl
theorem wT_2_144 : (Cond.static ⟨"ScopeTreeLaw", "wipe", "(LScopeTree;I)I"⟩) ∈ aw_TB := aw_tb (List.mem_append_right _ (List.mem_append_right _ (List.mem_append_left _ (List.mem_of_getElem? (i := 144) rfl)))) rfl
theorem wT_2_145 : (Cond.codeWith ⟨"ScopeTreeLaw", "wipe", "(LScopeTree;I)I"⟩ method_5_code 3 (some .int) [(0, 5, 8, 13)]) ∈ aw_TB := aw_tb (List.mem_append_right _ (List.mem_append_right _ (List.mem_append_left _ (List.mem_of_getElem? (i := 145) rfl)))) rfl
theorem wT_2_146 : (Cond.methodLink "ScopeTreeLaw" 21 ⟨"ScopeTree", "wipe", "(I)V"⟩) ∈ aw_TB := aw_tb (List.mem_append_right _ (List.mem_append_right _ (List.mem_append_left _ (List.mem_of_getElem? (i := 146) rfl)))) rfl
theorem wT_2_147 : (Cond.instanceMethod ⟨"ScopeTree", "wipe", "(I)V"⟩) ∈ aw_TB := aw_tb (List.mem_append_right _ (List.mem_append_right _ (List.mem_append_left _ (List.mem_of_getElem? (i := 147) rfl)))) rfl
theorem wT_2_148 : (Cond.selects "ScopeTree" ⟨"ScopeTree", "wipe", "(I)V"⟩ ⟨"ScopeTree", "wipe", "(I)V"⟩) ∈ aw_TB := aw_tb (List.mem_append_right _ (List.mem_append_right _ (List.mem_append_left _ (List.mem_of_getElem? (i := 148) rfl)))) rfl
theorem wT_2_149 : (Cond.code ⟨"ScopeTree", "wipe", "(I)V"⟩ prog_1_method_4_code 3 none) ∈ aw_TB := aw_tb (List.mem_append_right _ (List.mem_append_right _ (List.mem_append_left _ (List.mem_of_getElem? (i := 149) rfl)))) rfl
theorem wT_2_150 : (Cond.methodLink "ScopeTreeLaw" 90 ⟨"ScopeTreeLaw", "child", "(LScopeTree;I[J)I"⟩) ∈ aw_TB := aw_tb (List.mem_append_right _ (List.mem_append_right _ (List.mem_append_left _ (List.mem_of_getElem? (i := 150) rfl)))) rfl
theorem wT_2_151 : (Cond.static ⟨"ScopeTreeLaw", "child", "(LScopeTree;I[J)I"⟩) ∈ aw_TB := aw_tb (List.mem_append_right _ (List.mem_append_right _ (List.mem_append_left _ (List.mem_of_getElem? (i := 151) rfl)))) rfl
theorem wT_2_152 : (Cond.codeWith ⟨"ScopeTreeLaw", "child", "(LScopeTree;I[J)I"⟩ method_6_code 4 (some .int) [(0, 9, 12, 13), (0, 9, 15, 15)]) ∈ aw_TB := aw_tb (List.mem_append_right _ (List.mem_append_right _ (List.mem_append_left _ (List.mem_of_getElem? (i := 152) rfl)))) rfl
theorem wT_2_153 : (Cond.methodLink "ScopeTreeLaw" 25 ⟨"ScopeTree", "child", "(I)I"⟩) ∈ aw_TB := aw_tb (List.mem_append_right _ (List.mem_append_right _ (List.mem_append_left _ (List.mem_of_getElem? (i := 153) rfl)))) rfl
theorem wT_2_154 : (Cond.instanceMethod ⟨"ScopeTree", "child", "(I)I"⟩) ∈ aw_TB := aw_tb (List.mem_append_right _ (List.mem_append_right _ (List.mem_append_left _ (List.mem_of_getElem? (i := 154) rfl)))) rfl
theorem wT_2_155 : (Cond.selects "ScopeTree" ⟨"ScopeTree", "child", "(I)I"⟩ ⟨"ScopeTree", "child", "(I)I"⟩) ∈ aw_TB := aw_tb (List.mem_append_right _ (List.mem_append_right _ (List.mem_append_left _ (List.mem_of_getElem? (i := 155) rfl)))) rfl
theorem wT_2_156 : (Cond.code ⟨"ScopeTree", "child", "(I)I"⟩ prog_1_method_5_code 3 (some .int)) ∈ aw_TB := aw_tb (List.mem_append_right _ (List.mem_append_right _ (List.mem_append_left _ (List.mem_of_getElem? (i := 156) rfl)))) rfl
theorem wT_2_157 : (Cond.methodLink "ScopeTree" 126 ⟨"ScopeTree", "scopeAt", "(I)LScopeTree$Scope;"⟩) ∈ aw_TB := aw_tb (List.mem_append_right _ (List.mem_append_right _ (List.mem_append_left _ (List.mem_of_getElem? (i := 157) rfl)))) rfl
theorem wT_2_159 : (Cond.instanceMethod ⟨"ScopeTree", "scopeAt", "(I)LScopeTree$Scope;"⟩) ∈ aw_TB := aw_tb (List.mem_append_right _ (List.mem_append_right _ (List.mem_append_left _ (List.mem_of_getElem? (i := 159) rfl)))) rfl
theorem wT_2_160 : (Cond.code ⟨"ScopeTree", "scopeAt", "(I)LScopeTree$Scope;"⟩ prog_1_method_19_code 2 (some (.object "ScopeTree$Scope"))) ∈ aw_TB := aw_tb (List.mem_append_right _ (List.mem_append_right _ (List.mem_append_left _ (List.mem_of_getElem? (i := 160) rfl)))) rfl
theorem wT_2_162 : (Cond.fieldLink "ScopeTree" 130 "ScopeTree$State" "RELEASED" "LScopeTree$State;") ∈ aw_TB := aw_tb (List.mem_append_right _ (List.mem_append_right _ (List.mem_append_left _ (List.mem_of_getElem? (i := 162) rfl)))) rfl
theorem wT_2_166 : (Cond.methodLink "ScopeTreeLaw" 94 ⟨"ScopeTreeLaw", "add", "(LScopeTree;IIZ[J)I"⟩) ∈ aw_TB := aw_tb (List.mem_append_right _ (List.mem_append_right _ (List.mem_append_left _ (List.mem_of_getElem? (i := 166) rfl)))) rfl
theorem wT_2_167 : (Cond.static ⟨"ScopeTreeLaw", "add", "(LScopeTree;IIZ[J)I"⟩) ∈ aw_TB := aw_tb (List.mem_append_right _ (List.mem_append_right _ (List.mem_append_left _ (List.mem_of_getElem? (i := 167) rfl)))) rfl
theorem wT_2_168 : (Cond.codeWith ⟨"ScopeTreeLaw", "add", "(LScopeTree;IIZ[J)I"⟩ method_7_code 6 (some .int) [(0, 19, 22, 13), (0, 19, 26, 15)]) ∈ aw_TB := aw_tb (List.mem_append_right _ (List.mem_append_right _ (List.mem_append_left _ (List.mem_of_getElem? (i := 168) rfl)))) rfl
theorem wT_2_169 : (Cond.methodLink "ScopeTreeLaw" 29 ⟨"ScopeTree", "add", "(IIZ)Z"⟩) ∈ aw_TB := aw_tb (List.mem_append_right _ (List.mem_append_right _ (List.mem_append_left _ (List.mem_of_getElem? (i := 169) rfl)))) rfl
theorem wT_2_170 : (Cond.instanceMethod ⟨"ScopeTree", "add", "(IIZ)Z"⟩) ∈ aw_TB := aw_tb (List.mem_append_right _ (List.mem_append_right _ (List.mem_append_left _ (List.mem_of_getElem? (i := 170) rfl)))) rfl
theorem wT_2_171 : (Cond.selects "ScopeTree" ⟨"ScopeTree", "add", "(IIZ)Z"⟩ ⟨"ScopeTree", "add", "(IIZ)Z"⟩) ∈ aw_TB := aw_tb (List.mem_append_right _ (List.mem_append_right _ (List.mem_append_left _ (List.mem_of_getElem? (i := 171) rfl)))) rfl
theorem wT_2_172 : (Cond.code ⟨"ScopeTree", "add", "(IIZ)Z"⟩ prog_1_method_6_code 5 (some .boolean)) ∈ aw_TB := aw_tb (List.mem_append_right _ (List.mem_append_right _ (List.mem_append_left _ (List.mem_of_getElem? (i := 172) rfl)))) rfl
theorem wT_2_173 : (Cond.methodLink "ScopeTree" 139 ⟨"ScopeTree", "requireOpen", "(LScopeTree$Scope;)V"⟩) ∈ aw_TB := aw_tb (List.mem_append_right _ (List.mem_append_right _ (List.mem_append_left _ (List.mem_of_getElem? (i := 173) rfl)))) rfl
theorem wT_2_174 : (Cond.static ⟨"ScopeTree", "requireOpen", "(LScopeTree$Scope;)V"⟩) ∈ aw_TB := aw_tb (List.mem_append_right _ (List.mem_append_right _ (List.mem_append_left _ (List.mem_of_getElem? (i := 174) rfl)))) rfl
theorem wT_2_175 : (Cond.code ⟨"ScopeTree", "requireOpen", "(LScopeTree$Scope;)V"⟩ prog_1_method_21_code 1 none) ∈ aw_TB := aw_tb (List.mem_append_right _ (List.mem_append_right _ (List.mem_append_left _ (List.mem_of_getElem? (i := 175) rfl)))) rfl
theorem wT_2_176 : (Cond.fieldLink "ScopeTree" 279 "ScopeTree$State" "OPEN" "LScopeTree$State;") ∈ aw_TB := aw_tb (List.mem_append_right _ (List.mem_append_right _ (List.mem_append_left _ (List.mem_of_getElem? (i := 176) rfl)))) rfl
theorem wN_2_178 : (Cond.methodLinkNest "ScopeTree" 146 ⟨"ScopeTree$Path", "append", "(I)Z"⟩ "ScopeTree") ∈ aw_NB := aw_nb (List.mem_append_right _ (List.mem_append_right _ (List.mem_append_left _ (List.mem_of_getElem? (i := 178) rfl)))) rfl
theorem wT_2_180 : (Cond.instanceMethod ⟨"ScopeTree$Path", "append", "(I)Z"⟩) ∈ aw_TB := aw_tb (List.mem_append_right _ (List.mem_append_right _ (List.mem_append_left _ (List.mem_of_getElem? (i := 180) rfl)))) rfl
theorem wT_2_181 : (Cond.code ⟨"ScopeTree$Path", "append", "(I)Z"⟩ prog_7_method_2_code 2 (some .boolean)) ∈ aw_TB := aw_tb (List.mem_append_right _ (List.mem_append_right _ (List.mem_append_left _ (List.mem_of_getElem? (i := 181) rfl)))) rfl
theorem wT_2_182 : (Cond.methodLink "ScopeTree$Path" 19 ⟨"ScopeTree$Path", "contains", "(I)Z"⟩) ∈ aw_TB := aw_tb (List.mem_append_right _ (List.mem_append_right _ (List.mem_append_left _ (List.mem_of_getElem? (i := 182) rfl)))) rfl
theorem wT_2_184 : (Cond.instanceMethod ⟨"ScopeTree$Path", "contains", "(I)Z"⟩) ∈ aw_TB := aw_tb (List.mem_append_right _ (List.mem_append_right _ (List.mem_append_left _ (List.mem_of_getElem? (i := 184) rfl)))) rfl
theorem wT_2_185 : (Cond.code ⟨"ScopeTree$Path", "contains", "(I)Z"⟩ prog_7_method_3_code 3 (some .boolean)) ∈ aw_TB := aw_tb (List.mem_append_right _ (List.mem_append_right _ (List.mem_append_left _ (List.mem_of_getElem? (i := 185) rfl)))) rfl
theorem wT_2_186 : (Cond.methodLink "ScopeTreeLaw" 100 ⟨"ScopeTreeLaw", "filter", "(LScopeTree;IIJJ)I"⟩) ∈ aw_TB := aw_tb (List.mem_append_right _ (List.mem_append_right _ (List.mem_append_left _ (List.mem_of_getElem? (i := 186) rfl)))) rfl
theorem wT_2_187 : (Cond.static ⟨"ScopeTreeLaw", "filter", "(LScopeTree;IIJJ)I"⟩) ∈ aw_TB := aw_tb (List.mem_append_right _ (List.mem_append_right _ (List.mem_append_left _ (List.mem_of_getElem? (i := 187) rfl)))) rfl
theorem wT_2_188 : (Cond.codeWith ⟨"ScopeTreeLaw", "filter", "(LScopeTree;IIJJ)I"⟩ method_8_code 8 (some .int) [(0, 9, 12, 13), (0, 9, 16, 15)]) ∈ aw_TB := aw_tb (List.mem_append_right _ (List.mem_append_right _ (List.mem_append_left _ (List.mem_of_getElem? (i := 188) rfl)))) rfl
theorem wT_2_189 : (Cond.methodLink "ScopeTreeLaw" 33 ⟨"ScopeTree", "filter", "(IIJJ)V"⟩) ∈ aw_TB := aw_tb (List.mem_append_right _ (List.mem_append_right _ (List.mem_append_left _ (List.mem_of_getElem? (i := 189) rfl)))) rfl
theorem wT_2_190 : (Cond.instanceMethod ⟨"ScopeTree", "filter", "(IIJJ)V"⟩) ∈ aw_TB := aw_tb (List.mem_append_right _ (List.mem_append_right _ (List.mem_append_left _ (List.mem_of_getElem? (i := 190) rfl)))) rfl
theorem wT_2_191 : (Cond.selects "ScopeTree" ⟨"ScopeTree", "filter", "(IIJJ)V"⟩ ⟨"ScopeTree", "filter", "(IIJJ)V"⟩) ∈ aw_TB := aw_tb (List.mem_append_right _ (List.mem_append_right _ (List.mem_append_left _ (List.mem_of_getElem? (i := 191) rfl)))) rfl
theorem wT_2_192 : (Cond.code ⟨"ScopeTree", "filter", "(IIJJ)V"⟩ prog_1_method_7_code 8 none) ∈ aw_TB := aw_tb (List.mem_append_right _ (List.mem_append_right _ (List.mem_append_left _ (List.mem_of_getElem? (i := 192) rfl)))) rfl
theorem wT_2_194 : (Cond.classLink "ScopeTree" 157 "ScopeTree$Filter") ∈ aw_TB := aw_tb (List.mem_append_right _ (List.mem_append_right _ (List.mem_append_left _ (List.mem_of_getElem? (i := 194) rfl)))) rfl
theorem wT_2_195 : (Cond.instantiable "ScopeTree$Filter" 3) ∈ aw_TB := aw_tb (List.mem_append_right _ (List.mem_append_right _ (List.mem_append_left _ (List.mem_of_getElem? (i := 195) rfl)))) rfl
theorem wN_2_196 : (Cond.methodLinkNest "ScopeTree" 159 ⟨"ScopeTree$Filter", "<init>", "(IJJ)V"⟩ "ScopeTree") ∈ aw_NB := aw_nb (List.mem_append_right _ (List.mem_append_right _ (List.mem_append_left _ (List.mem_of_getElem? (i := 196) rfl)))) rfl
theorem wT_2_197 : (Cond.instanceMethod ⟨"ScopeTree$Filter", "<init>", "(IJJ)V"⟩) ∈ aw_TB := aw_tb (List.mem_append_right _ (List.mem_append_right _ (List.mem_append_left _ (List.mem_of_getElem? (i := 197) rfl)))) rfl
theorem wT_2_198 : (Cond.code ⟨"ScopeTree$Filter", "<init>", "(IJJ)V"⟩ prog_5_method_1_code 6 none) ∈ aw_TB := aw_tb (List.mem_append_right _ (List.mem_append_right _ (List.mem_append_left _ (List.mem_of_getElem? (i := 198) rfl)))) rfl
theorem wT_2_199 : (Cond.methodLink "ScopeTree$Filter" 1 ⟨"java/lang/Record", "<init>", "()V"⟩) ∈ aw_TB := aw_tb (List.mem_append_right _ (List.mem_append_right _ (List.mem_append_left _ (List.mem_of_getElem? (i := 199) rfl)))) rfl
theorem wT_2_200 : (Cond.fieldLink "ScopeTree$Filter" 7 "ScopeTree$Filter" "packages" "I") ∈ aw_TB := aw_tb (List.mem_append_right _ (List.mem_append_right _ (List.mem_append_left _ (List.mem_of_getElem? (i := 200) rfl)))) rfl
theorem wT_2_201 : (Cond.fieldLink "ScopeTree$Filter" 13 "ScopeTree$Filter" "allowed" "J") ∈ aw_TB := aw_tb (List.mem_append_right _ (List.mem_append_right _ (List.mem_append_left _ (List.mem_of_getElem? (i := 201) rfl)))) rfl
theorem wT_2_202 : (Cond.fieldLink "ScopeTree$Filter" 17 "ScopeTree$Filter" "denied" "J") ∈ aw_TB := aw_tb (List.mem_append_right _ (List.mem_append_right _ (List.mem_append_left _ (List.mem_of_getElem? (i := 202) rfl)))) rfl
theorem wT_2_203 : (Cond.laysFinal "ScopeTree$Filter" "ScopeTree$Filter" "packages" "I") ∈ aw_TB := aw_tb (List.mem_append_right _ (List.mem_append_right _ (List.mem_append_left _ (List.mem_of_getElem? (i := 203) rfl)))) rfl
theorem wT_2_204 : (Cond.soleField "ScopeTree$Filter" "packages") ∈ aw_TB := aw_tb (List.mem_append_right _ (List.mem_append_right _ (List.mem_append_left _ (List.mem_of_getElem? (i := 204) rfl)))) rfl
theorem wT_2_205 : (Cond.laysFinal "ScopeTree$Filter" "ScopeTree$Filter" "allowed" "J") ∈ aw_TB := aw_tb (List.mem_append_right _ (List.mem_append_right _ (List.mem_append_left _ (List.mem_of_getElem? (i := 205) rfl)))) rfl
theorem wT_2_206 : (Cond.soleField "ScopeTree$Filter" "allowed") ∈ aw_TB := aw_tb (List.mem_append_right _ (List.mem_append_right _ (List.mem_append_left _ (List.mem_of_getElem? (i := 206) rfl)))) rfl
theorem wT_2_207 : (Cond.laysFinal "ScopeTree$Filter" "ScopeTree$Filter" "denied" "J") ∈ aw_TB := aw_tb (List.mem_append_right _ (List.mem_append_right _ (List.mem_append_left _ (List.mem_of_getElem? (i := 207) rfl)))) rfl
theorem wT_2_208 : (Cond.soleField "ScopeTree$Filter" "denied") ∈ aw_TB := aw_tb (List.mem_append_right _ (List.mem_append_right _ (List.mem_append_left _ (List.mem_of_getElem? (i := 208) rfl)))) rfl
theorem wT_2_209 : (Cond.superclass "ScopeTree$Filter" "java/lang/Record") ∈ aw_TB := aw_tb (List.mem_append_right _ (List.mem_append_right _ (List.mem_append_left _ (List.mem_of_getElem? (i := 209) rfl)))) rfl
theorem wT_2_210 : (Cond.methodLink "ScopeTreeLaw" 104 ⟨"ScopeTreeLaw", "lock", "(LScopeTree;I[J)I"⟩) ∈ aw_TB := aw_tb (List.mem_append_right _ (List.mem_append_right _ (List.mem_append_left _ (List.mem_of_getElem? (i := 210) rfl)))) rfl
theorem wT_2_211 : (Cond.static ⟨"ScopeTreeLaw", "lock", "(LScopeTree;I[J)I"⟩) ∈ aw_TB := aw_tb (List.mem_append_right _ (List.mem_append_right _ (List.mem_append_left _ (List.mem_of_getElem? (i := 211) rfl)))) rfl
theorem wT_2_212 : (Cond.codeWith ⟨"ScopeTreeLaw", "lock", "(LScopeTree;I[J)I"⟩ method_9_code 4 (some .int) [(0, 9, 12, 13), (0, 9, 15, 15), (0, 9, 18, 40)]) ∈ aw_TB := aw_tb (List.mem_append_right _ (List.mem_append_right _ (List.mem_append_left _ (List.mem_of_getElem? (i := 212) rfl)))) rfl
theorem wT_2_213 : (Cond.classLink "ScopeTreeLaw" 40 "java/lang/UnsupportedOperationException") ∈ aw_TB := aw_tb (List.mem_append_right _ (List.mem_append_right _ (List.mem_append_left _ (List.mem_of_getElem? (i := 213) rfl)))) rfl
theorem wT_2_214 : (Cond.methodLink "ScopeTreeLaw" 37 ⟨"ScopeTree", "lock", "(I)I"⟩) ∈ aw_TB := aw_tb (List.mem_append_right _ (List.mem_append_right _ (List.mem_append_left _ (List.mem_of_getElem? (i := 214) rfl)))) rfl
theorem wT_2_215 : (Cond.instanceMethod ⟨"ScopeTree", "lock", "(I)I"⟩) ∈ aw_TB := aw_tb (List.mem_append_right _ (List.mem_append_right _ (List.mem_append_left _ (List.mem_of_getElem? (i := 215) rfl)))) rfl
theorem wT_2_216 : (Cond.selects "ScopeTree" ⟨"ScopeTree", "lock", "(I)I"⟩ ⟨"ScopeTree", "lock", "(I)I"⟩) ∈ aw_TB := aw_tb (List.mem_append_right _ (List.mem_append_right _ (List.mem_append_left _ (List.mem_of_getElem? (i := 216) rfl)))) rfl
theorem wT_2_217 : (Cond.code ⟨"ScopeTree", "lock", "(I)I"⟩ prog_1_method_8_code 4 (some .int)) ∈ aw_TB := aw_tb (List.mem_append_right _ (List.mem_append_right _ (List.mem_append_left _ (List.mem_of_getElem? (i := 217) rfl)))) rfl
theorem wT_2_219 : (Cond.methodLink "ScopeTree" 172 ⟨"ScopeTree", "freeLoaderNumbers", "()I"⟩) ∈ aw_TB := aw_tb (List.mem_append_right _ (List.mem_append_right _ (List.mem_append_left _ (List.mem_of_getElem? (i := 219) rfl)))) rfl
theorem wT_2_221 : (Cond.instanceMethod ⟨"ScopeTree", "freeLoaderNumbers", "()I"⟩) ∈ aw_TB := aw_tb (List.mem_append_right _ (List.mem_append_right _ (List.mem_append_left _ (List.mem_of_getElem? (i := 221) rfl)))) rfl
theorem wT_2_222 : (Cond.code ⟨"ScopeTree", "freeLoaderNumbers", "()I"⟩ prog_1_method_24_code 3 (some .int)) ∈ aw_TB := aw_tb (List.mem_append_right _ (List.mem_append_right _ (List.mem_append_left _ (List.mem_of_getElem? (i := 222) rfl)))) rfl
theorem wT_2_223 : (Cond.classLink "ScopeTree" 176 "java/lang/UnsupportedOperationException") ∈ aw_TB := aw_tb (List.mem_append_right _ (List.mem_append_right _ (List.mem_append_left _ (List.mem_of_getElem? (i := 223) rfl)))) rfl
theorem wT_2_224 : (Cond.instantiable "java/lang/UnsupportedOperationException" 6) ∈ aw_TB := aw_tb (List.mem_append_right _ (List.mem_append_right _ (List.mem_append_left _ (List.mem_of_getElem? (i := 224) rfl)))) rfl
theorem wN_2_225 : (Cond.castable "java/lang/UnsupportedOperationException" "java/lang/UnsupportedOperationException") ∈ aw_NB := aw_nb (List.mem_append_right _ (List.mem_append_right _ (List.mem_append_left _ (List.mem_of_getElem? (i := 225) rfl)))) rfl
theorem wT_2_226 : (Cond.selects "java/lang/UnsupportedOperationException" ⟨"java/lang/Throwable", "fillInStackTrace", "(I)Ljava/lang/Throwable;"⟩ ⟨"java/lang/Throwable", "fillInStackTrace", "(I)Ljava/lang/Throwable;"⟩) ∈ aw_TB := aw_tb (List.mem_append_right _ (List.mem_append_right _ (List.mem_append_left _ (List.mem_of_getElem? (i := 226) rfl)))) rfl
theorem wT_2_227 : (Cond.lays "java/lang/UnsupportedOperationException" "java/lang/Throwable" "cause" "Ljava/lang/Throwable;") ∈ aw_TB := aw_tb (List.mem_append_right _ (List.mem_append_right _ (List.mem_append_left _ (List.mem_of_getElem? (i := 227) rfl)))) rfl
theorem wT_2_228 : (Cond.lays "java/lang/UnsupportedOperationException" "java/lang/Throwable" "stackTrace" "[Ljava/lang/StackTraceElement;") ∈ aw_TB := aw_tb (List.mem_append_right _ (List.mem_append_right _ (List.mem_append_left _ (List.mem_of_getElem? (i := 228) rfl)))) rfl
theorem wT_2_229 : (Cond.lays "java/lang/UnsupportedOperationException" "java/lang/Throwable" "suppressedExceptions" "Ljava/util/List;") ∈ aw_TB := aw_tb (List.mem_append_right _ (List.mem_append_right _ (List.mem_append_left _ (List.mem_of_getElem? (i := 229) rfl)))) rfl
theorem wT_2_230 : (Cond.lays "java/lang/UnsupportedOperationException" "java/lang/Throwable" "detailMessage" "Ljava/lang/String;") ∈ aw_TB := aw_tb (List.mem_append_right _ (List.mem_append_right _ (List.mem_append_left _ (List.mem_of_getElem? (i := 230) rfl)))) rfl
theorem wT_2_231 : (Cond.lays "java/lang/UnsupportedOperationException" "java/lang/Throwable" "backtrace" "Ljava/lang/Object;") ∈ aw_TB := aw_tb (List.mem_append_right _ (List.mem_append_right _ (List.mem_append_left _ (List.mem_of_getElem? (i := 231) rfl)))) rfl
theorem wT_2_233 : (Cond.methodLink "ScopeTree" 180 ⟨"java/lang/UnsupportedOperationException", "<init>", "(Ljava/lang/String;)V"⟩) ∈ aw_TB := aw_tb (List.mem_append_right _ (List.mem_append_right _ (List.mem_append_left _ (List.mem_of_getElem? (i := 233) rfl)))) rfl
theorem wT_2_234 : (Cond.instanceMethod ⟨"java/lang/UnsupportedOperationException", "<init>", "(Ljava/lang/String;)V"⟩) ∈ aw_TB := aw_tb (List.mem_append_right _ (List.mem_append_right _ (List.mem_append_left _ (List.mem_of_getElem? (i := 234) rfl)))) rfl
theorem wT_2_235 : (Cond.code ⟨"java/lang/UnsupportedOperationException", "<init>", "(Ljava/lang/String;)V"⟩ prog_22_method_2_code 2 none) ∈ aw_TB := aw_tb (List.mem_append_right _ (List.mem_append_right _ (List.mem_append_left _ (List.mem_of_getElem? (i := 235) rfl)))) rfl
theorem wT_2_236 : (Cond.methodLink "java/lang/UnsupportedOperationException" 7 ⟨"java/lang/RuntimeException", "<init>", "(Ljava/lang/String;)V"⟩) ∈ aw_TB := aw_tb (List.mem_append_right _ (List.mem_append_right _ (List.mem_append_left _ (List.mem_of_getElem? (i := 236) rfl)))) rfl
theorem wT_2_237 : (Cond.lays "java/lang/UnsupportedOperationException" "java/lang/Throwable" "depth" "I") ∈ aw_TB := aw_tb (List.mem_append_right _ (List.mem_append_right _ (List.mem_append_left _ (List.mem_of_getElem? (i := 237) rfl)))) rfl
theorem wT_2_238 : (Cond.superclass "java/lang/UnsupportedOperationException" "java/lang/RuntimeException") ∈ aw_TB := aw_tb (List.mem_append_right _ (List.mem_append_right _ (List.mem_append_left _ (List.mem_of_getElem? (i := 238) rfl)))) rfl
theorem wT_2_239 : (Cond.methodLink "ScopeTree" 181 ⟨"ScopeTree", "wantedDefining", "(LScopeTree$Path;LScopeTree$Loader;)LScopeTree$Loader;"⟩) ∈ aw_TB := aw_tb (List.mem_append_right _ (List.mem_append_right _ (List.mem_append_left _ (List.mem_of_getElem? (i := 239) rfl)))) rfl
theorem wT_3_1 : (Cond.instanceMethod ⟨"ScopeTree", "wantedDefining", "(LScopeTree$Path;LScopeTree$Loader;)LScopeTree$Loader;"⟩) ∈ aw_TB := aw_tb (List.mem_append_right _ (List.mem_append_right _ (List.mem_append_right _ (List.mem_append_left _ (List.mem_of_getElem? (i := 1) rfl))))) rfl
theorem wT_3_2 : (Cond.code ⟨"ScopeTree", "wantedDefining", "(LScopeTree$Path;LScopeTree$Loader;)LScopeTree$Loader;"⟩ prog_1_method_25_code 6 (some (.object "ScopeTree$Loader"))) ∈ aw_TB := aw_tb (List.mem_append_right _ (List.mem_append_right _ (List.mem_append_right _ (List.mem_append_left _ (List.mem_of_getElem? (i := 2) rfl))))) rfl
theorem wT_3_3 : (Cond.methodLink "ScopeTree" 289 ⟨"ScopeTree", "contentsOf", "(LScopeTree$Path;)[LScopeTree$Archive;"⟩) ∈ aw_TB := aw_tb (List.mem_append_right _ (List.mem_append_right _ (List.mem_append_right _ (List.mem_append_left _ (List.mem_of_getElem? (i := 3) rfl))))) rfl
theorem wT_3_5 : (Cond.instanceMethod ⟨"ScopeTree", "contentsOf", "(LScopeTree$Path;)[LScopeTree$Archive;"⟩) ∈ aw_TB := aw_tb (List.mem_append_right _ (List.mem_append_right _ (List.mem_append_right _ (List.mem_append_left _ (List.mem_of_getElem? (i := 5) rfl))))) rfl
theorem wT_3_6 : (Cond.code ⟨"ScopeTree", "contentsOf", "(LScopeTree$Path;)[LScopeTree$Archive;"⟩ prog_1_method_27_code 4 (some (.array (.object "ScopeTree$Archive")))) ∈ aw_TB := aw_tb (List.mem_append_right _ (List.mem_append_right _ (List.mem_append_right _ (List.mem_append_left _ (List.mem_of_getElem? (i := 6) rfl))))) rfl
theorem wN_3_7 : (Cond.methodLinkNest "ScopeTree" 308 ⟨"ScopeTree$Archive", "copy", "()LScopeTree$Archive;"⟩ "ScopeTree") ∈ aw_NB := aw_nb (List.mem_append_right _ (List.mem_append_right _ (List.mem_append_right _ (List.mem_append_left _ (List.mem_of_getElem? (i := 7) rfl))))) rfl
theorem wT_3_9 : (Cond.instanceMethod ⟨"ScopeTree$Archive", "copy", "()LScopeTree$Archive;"⟩) ∈ aw_TB := aw_tb (List.mem_append_right _ (List.mem_append_right _ (List.mem_append_right _ (List.mem_append_left _ (List.mem_of_getElem? (i := 9) rfl))))) rfl
theorem wT_3_10 : (Cond.code ⟨"ScopeTree$Archive", "copy", "()LScopeTree$Archive;"⟩ prog_2_method_8_code 3 (some (.object "ScopeTree$Archive"))) ∈ aw_TB := aw_tb (List.mem_append_right _ (List.mem_append_right _ (List.mem_append_right _ (List.mem_append_left _ (List.mem_of_getElem? (i := 10) rfl))))) rfl
theorem wT_3_11 : (Cond.classLink "ScopeTree$Archive" 12 "ScopeTree$Archive") ∈ aw_TB := aw_tb (List.mem_append_right _ (List.mem_append_right _ (List.mem_append_right _ (List.mem_append_left _ (List.mem_of_getElem? (i := 11) rfl))))) rfl
theorem wT_3_12 : (Cond.methodLink "ScopeTree$Archive" 49 ⟨"ScopeTree$Archive", "<init>", "()V"⟩) ∈ aw_TB := aw_tb (List.mem_append_right _ (List.mem_append_right _ (List.mem_append_right _ (List.mem_append_left _ (List.mem_of_getElem? (i := 12) rfl))))) rfl
theorem wN_3_13 : (Cond.methodLinkNest "ScopeTree" 293 ⟨"ScopeTree$Loader", "hasPathLike", "([LScopeTree$Archive;)Z"⟩ "ScopeTree") ∈ aw_NB := aw_nb (List.mem_append_right _ (List.mem_append_right _ (List.mem_append_right _ (List.mem_append_left _ (List.mem_of_getElem? (i := 13) rfl))))) rfl
theorem wT_3_15 : (Cond.instanceMethod ⟨"ScopeTree$Loader", "hasPathLike", "([LScopeTree$Archive;)Z"⟩) ∈ aw_TB := aw_tb (List.mem_append_right _ (List.mem_append_right _ (List.mem_append_right _ (List.mem_append_left _ (List.mem_of_getElem? (i := 15) rfl))))) rfl
theorem wT_3_16 : (Cond.code ⟨"ScopeTree$Loader", "hasPathLike", "([LScopeTree$Archive;)Z"⟩ prog_6_method_4_code 3 (some .boolean)) ∈ aw_TB := aw_tb (List.mem_append_right _ (List.mem_append_right _ (List.mem_append_right _ (List.mem_append_left _ (List.mem_of_getElem? (i := 16) rfl))))) rfl
theorem wN_3_17 : (Cond.methodLinkNest "ScopeTree$Loader" 38 ⟨"ScopeTree$Archive", "isLike", "(LScopeTree$Archive;)Z"⟩ "ScopeTree") ∈ aw_NB := aw_nb (List.mem_append_right _ (List.mem_append_right _ (List.mem_append_right _ (List.mem_append_left _ (List.mem_of_getElem? (i := 17) rfl))))) rfl
theorem wT_3_19 : (Cond.instanceMethod ⟨"ScopeTree$Archive", "isLike", "(LScopeTree$Archive;)Z"⟩) ∈ aw_TB := aw_tb (List.mem_append_right _ (List.mem_append_right _ (List.mem_append_right _ (List.mem_append_left _ (List.mem_of_getElem? (i := 19) rfl))))) rfl
theorem wT_3_20 : (Cond.code ⟨"ScopeTree$Archive", "isLike", "(LScopeTree$Archive;)Z"⟩ prog_2_method_9_code 3 (some .boolean)) ∈ aw_TB := aw_tb (List.mem_append_right _ (List.mem_append_right _ (List.mem_append_right _ (List.mem_append_left _ (List.mem_of_getElem? (i := 20) rfl))))) rfl
theorem wT_3_21 : (Cond.methodLink "ScopeTree$Archive" 50 ⟨"ScopeTree$Archive", "fileOf", "(I)LScopeTree$ClassFile;"⟩) ∈ aw_TB := aw_tb (List.mem_append_right _ (List.mem_append_right _ (List.mem_append_right _ (List.mem_append_left _ (List.mem_of_getElem? (i := 21) rfl))))) rfl
theorem wT_3_23 : (Cond.instanceMethod ⟨"ScopeTree$Archive", "fileOf", "(I)LScopeTree$ClassFile;"⟩) ∈ aw_TB := aw_tb (List.mem_append_right _ (List.mem_append_right _ (List.mem_append_right _ (List.mem_append_left _ (List.mem_of_getElem? (i := 23) rfl))))) rfl
theorem wT_3_24 : (Cond.code ⟨"ScopeTree$Archive", "fileOf", "(I)LScopeTree$ClassFile;"⟩ prog_2_method_2_code 3 (some (.object "ScopeTree$ClassFile"))) ∈ aw_TB := aw_tb (List.mem_append_right _ (List.mem_append_right _ (List.mem_append_right _ (List.mem_append_left _ (List.mem_of_getElem? (i := 24) rfl))))) rfl
theorem wN_3_25 : (Cond.methodLinkNest "ScopeTree$Archive" 54 ⟨"ScopeTree$ClassFile", "isSame", "(LScopeTree$ClassFile;)Z"⟩ "ScopeTree") ∈ aw_NB := aw_nb (List.mem_append_right _ (List.mem_append_right _ (List.mem_append_right _ (List.mem_append_left _ (List.mem_of_getElem? (i := 25) rfl))))) rfl
theorem wT_3_27 : (Cond.instanceMethod ⟨"ScopeTree$ClassFile", "isSame", "(LScopeTree$ClassFile;)Z"⟩) ∈ aw_TB := aw_tb (List.mem_append_right _ (List.mem_append_right _ (List.mem_append_right _ (List.mem_append_left _ (List.mem_of_getElem? (i := 27) rfl))))) rfl
theorem wT_3_28 : (Cond.code ⟨"ScopeTree$ClassFile", "isSame", "(LScopeTree$ClassFile;)Z"⟩ prog_3_method_2_code 2 (some .boolean)) ∈ aw_TB := aw_tb (List.mem_append_right _ (List.mem_append_right _ (List.mem_append_right _ (List.mem_append_left _ (List.mem_of_getElem? (i := 28) rfl))))) rfl
theorem wT_3_29 : (Cond.methodLink "ScopeTree$Archive" 58 ⟨"ScopeTree$Archive", "descriptorOf", "(I)LScopeTree$Descriptor;"⟩) ∈ aw_TB := aw_tb (List.mem_append_right _ (List.mem_append_right _ (List.mem_append_right _ (List.mem_append_left _ (List.mem_of_getElem? (i := 29) rfl))))) rfl
theorem wT_3_31 : (Cond.instanceMethod ⟨"ScopeTree$Archive", "descriptorOf", "(I)LScopeTree$Descriptor;"⟩) ∈ aw_TB := aw_tb (List.mem_append_right _ (List.mem_append_right _ (List.mem_append_right _ (List.mem_append_left _ (List.mem_of_getElem? (i := 31) rfl))))) rfl
theorem wT_3_32 : (Cond.code ⟨"ScopeTree$Archive", "descriptorOf", "(I)LScopeTree$Descriptor;"⟩ prog_2_method_3_code 3 (some (.object "ScopeTree$Descriptor"))) ∈ aw_TB := aw_tb (List.mem_append_right _ (List.mem_append_right _ (List.mem_append_right _ (List.mem_append_left _ (List.mem_of_getElem? (i := 32) rfl))))) rfl
theorem wN_3_33 : (Cond.methodLinkNest "ScopeTree$Archive" 62 ⟨"ScopeTree$Descriptor", "isSame", "(LScopeTree$Descriptor;)Z"⟩ "ScopeTree") ∈ aw_NB := aw_nb (List.mem_append_right _ (List.mem_append_right _ (List.mem_append_right _ (List.mem_append_left _ (List.mem_of_getElem? (i := 33) rfl))))) rfl
theorem wT_3_35 : (Cond.instanceMethod ⟨"ScopeTree$Descriptor", "isSame", "(LScopeTree$Descriptor;)Z"⟩) ∈ aw_TB := aw_tb (List.mem_append_right _ (List.mem_append_right _ (List.mem_append_right _ (List.mem_append_left _ (List.mem_of_getElem? (i := 35) rfl))))) rfl
theorem wT_3_36 : (Cond.code ⟨"ScopeTree$Descriptor", "isSame", "(LScopeTree$Descriptor;)Z"⟩ prog_4_method_2_code 2 (some .boolean)) ∈ aw_TB := aw_tb (List.mem_append_right _ (List.mem_append_right _ (List.mem_append_right _ (List.mem_append_left _ (List.mem_of_getElem? (i := 36) rfl))))) rfl
theorem wT_3_37 : (Cond.methodLink "ScopeTree" 297 ⟨"ScopeTree", "newLoader", "(ILScopeTree$Loader;[LScopeTree$Archive;LScopeTree$Filter;)LScopeTree$Loader;"⟩) ∈ aw_TB := aw_tb (List.mem_append_right _ (List.mem_append_right _ (List.mem_append_right _ (List.mem_append_left _ (List.mem_of_getElem? (i := 37) rfl))))) rfl
theorem wT_3_39 : (Cond.instanceMethod ⟨"ScopeTree", "newLoader", "(ILScopeTree$Loader;[LScopeTree$Archive;LScopeTree$Filter;)LScopeTree$Loader;"⟩) ∈ aw_TB := aw_tb (List.mem_append_right _ (List.mem_append_right _ (List.mem_append_right _ (List.mem_append_left _ (List.mem_of_getElem? (i := 39) rfl))))) rfl
theorem wT_3_40 : (Cond.code ⟨"ScopeTree", "newLoader", "(ILScopeTree$Loader;[LScopeTree$Archive;LScopeTree$Filter;)LScopeTree$Loader;"⟩ prog_1_method_28_code 7 (some (.object "ScopeTree$Loader"))) ∈ aw_TB := aw_tb (List.mem_append_right _ (List.mem_append_right _ (List.mem_append_right _ (List.mem_append_left _ (List.mem_of_getElem? (i := 40) rfl))))) rfl
theorem wT_3_41 : (Cond.methodLink "ScopeTree" 312 ⟨"ScopeTree", "leastFreeLoaderNumber", "()I"⟩) ∈ aw_TB := aw_tb (List.mem_append_right _ (List.mem_append_right _ (List.mem_append_right _ (List.mem_append_left _ (List.mem_of_getElem? (i := 41) rfl))))) rfl
theorem wT_3_43 : (Cond.instanceMethod ⟨"ScopeTree", "leastFreeLoaderNumber", "()I"⟩) ∈ aw_TB := aw_tb (List.mem_append_right _ (List.mem_append_right _ (List.mem_append_right _ (List.mem_append_left _ (List.mem_of_getElem? (i := 43) rfl))))) rfl
theorem wT_3_44 : (Cond.code ⟨"ScopeTree", "leastFreeLoaderNumber", "()I"⟩ prog_1_method_29_code 2 (some .int)) ∈ aw_TB := aw_tb (List.mem_append_right _ (List.mem_append_right _ (List.mem_append_right _ (List.mem_append_left _ (List.mem_of_getElem? (i := 44) rfl))))) rfl
theorem wT_3_45 : (Cond.methodLink "ScopeTree" 188 ⟨"ScopeTree", "wantedFiltering", "(LScopeTree$Filter;LScopeTree$Loader;)LScopeTree$Loader;"⟩) ∈ aw_TB := aw_tb (List.mem_append_right _ (List.mem_append_right _ (List.mem_append_right _ (List.mem_append_left _ (List.mem_of_getElem? (i := 45) rfl))))) rfl
theorem wT_3_47 : (Cond.instanceMethod ⟨"ScopeTree", "wantedFiltering", "(LScopeTree$Filter;LScopeTree$Loader;)LScopeTree$Loader;"⟩) ∈ aw_TB := aw_tb (List.mem_append_right _ (List.mem_append_right _ (List.mem_append_right _ (List.mem_append_left _ (List.mem_of_getElem? (i := 47) rfl))))) rfl
theorem wT_3_48 : (Cond.code ⟨"ScopeTree", "wantedFiltering", "(LScopeTree$Filter;LScopeTree$Loader;)LScopeTree$Loader;"⟩ prog_1_method_26_code 5 (some (.object "ScopeTree$Loader"))) ∈ aw_TB := aw_tb (List.mem_append_right _ (List.mem_append_right _ (List.mem_append_right _ (List.mem_append_left _ (List.mem_of_getElem? (i := 48) rfl))))) rfl
theorem wN_3_49 : (Cond.methodLinkNest "ScopeTree" 302 ⟨"ScopeTree$Filter", "isSame", "(LScopeTree$Filter;)Z"⟩ "ScopeTree") ∈ aw_NB := aw_nb (List.mem_append_right _ (List.mem_append_right _ (List.mem_append_right _ (List.mem_append_left _ (List.mem_of_getElem? (i := 49) rfl))))) rfl
theorem wT_3_51 : (Cond.instanceMethod ⟨"ScopeTree$Filter", "isSame", "(LScopeTree$Filter;)Z"⟩) ∈ aw_TB := aw_tb (List.mem_append_right _ (List.mem_append_right _ (List.mem_append_right _ (List.mem_append_left _ (List.mem_of_getElem? (i := 51) rfl))))) rfl
theorem wT_3_52 : (Cond.code ⟨"ScopeTree$Filter", "isSame", "(LScopeTree$Filter;)Z"⟩ prog_5_method_3_code 2 (some .boolean)) ∈ aw_TB := aw_tb (List.mem_append_right _ (List.mem_append_right _ (List.mem_append_right _ (List.mem_append_left _ (List.mem_of_getElem? (i := 52) rfl))))) rfl
theorem wT_3_53 : (Cond.methodLink "ScopeTreeLaw" 107 ⟨"ScopeTreeLaw", "release", "(LScopeTree;I[J)I"⟩) ∈ aw_TB := aw_tb (List.mem_append_right _ (List.mem_append_right _ (List.mem_append_right _ (List.mem_append_left _ (List.mem_of_getElem? (i := 53) rfl))))) rfl
theorem wT_3_54 : (Cond.static ⟨"ScopeTreeLaw", "release", "(LScopeTree;I[J)I"⟩) ∈ aw_TB := aw_tb (List.mem_append_right _ (List.mem_append_right _ (List.mem_append_right _ (List.mem_append_left _ (List.mem_of_getElem? (i := 54) rfl))))) rfl
theorem wT_3_55 : (Cond.codeWith ⟨"ScopeTreeLaw", "release", "(LScopeTree;I[J)I"⟩ method_10_code 4 (some .int) [(0, 9, 12, 13), (0, 9, 15, 15)]) ∈ aw_TB := aw_tb (List.mem_append_right _ (List.mem_append_right _ (List.mem_append_right _ (List.mem_append_left _ (List.mem_of_getElem? (i := 55) rfl))))) rfl
theorem wT_3_56 : (Cond.methodLink "ScopeTreeLaw" 42 ⟨"ScopeTree", "release", "(I)I"⟩) ∈ aw_TB := aw_tb (List.mem_append_right _ (List.mem_append_right _ (List.mem_append_right _ (List.mem_append_left _ (List.mem_of_getElem? (i := 56) rfl))))) rfl
theorem wT_3_57 : (Cond.instanceMethod ⟨"ScopeTree", "release", "(I)I"⟩) ∈ aw_TB := aw_tb (List.mem_append_right _ (List.mem_append_right _ (List.mem_append_right _ (List.mem_append_left _ (List.mem_of_getElem? (i := 57) rfl))))) rfl
theorem wT_3_58 : (Cond.selects "ScopeTree" ⟨"ScopeTree", "release", "(I)I"⟩ ⟨"ScopeTree", "release", "(I)I"⟩) ∈ aw_TB := aw_tb (List.mem_append_right _ (List.mem_append_right _ (List.mem_append_right _ (List.mem_append_left _ (List.mem_of_getElem? (i := 58) rfl))))) rfl
theorem wT_3_59 : (Cond.code ⟨"ScopeTree", "release", "(I)I"⟩ prog_1_method_9_code 4 (some .int)) ∈ aw_TB := aw_tb (List.mem_append_right _ (List.mem_append_right _ (List.mem_append_right _ (List.mem_append_left _ (List.mem_of_getElem? (i := 59) rfl))))) rfl
theorem wT_3_61 : (Cond.methodLink "ScopeTree" 197 ⟨"ScopeTree", "hasChildLeft", "(LScopeTree$Scope;)Z"⟩) ∈ aw_TB := aw_tb (List.mem_append_right _ (List.mem_append_right _ (List.mem_append_right _ (List.mem_append_left _ (List.mem_of_getElem? (i := 61) rfl))))) rfl
theorem wT_3_63 : (Cond.instanceMethod ⟨"ScopeTree", "hasChildLeft", "(LScopeTree$Scope;)Z"⟩) ∈ aw_TB := aw_tb (List.mem_append_right _ (List.mem_append_right _ (List.mem_append_right _ (List.mem_append_left _ (List.mem_of_getElem? (i := 63) rfl))))) rfl
theorem wT_3_64 : (Cond.code ⟨"ScopeTree", "hasChildLeft", "(LScopeTree$Scope;)Z"⟩ prog_1_method_23_code 3 (some .boolean)) ∈ aw_TB := aw_tb (List.mem_append_right _ (List.mem_append_right _ (List.mem_append_right _ (List.mem_append_left _ (List.mem_of_getElem? (i := 64) rfl))))) rfl
theorem wT_3_66 : (Cond.methodLink "ScopeTree" 203 ⟨"ScopeTree", "letGo", "(LScopeTree$Loader;)I"⟩) ∈ aw_TB := aw_tb (List.mem_append_right _ (List.mem_append_right _ (List.mem_append_right _ (List.mem_append_left _ (List.mem_of_getElem? (i := 66) rfl))))) rfl
theorem wT_3_68 : (Cond.instanceMethod ⟨"ScopeTree", "letGo", "(LScopeTree$Loader;)I"⟩) ∈ aw_TB := aw_tb (List.mem_append_right _ (List.mem_append_right _ (List.mem_append_right _ (List.mem_append_left _ (List.mem_of_getElem? (i := 68) rfl))))) rfl
theorem wT_3_69 : (Cond.code ⟨"ScopeTree", "letGo", "(LScopeTree$Loader;)I"⟩ prog_1_method_30_code 4 (some .int)) ∈ aw_TB := aw_tb (List.mem_append_right _ (List.mem_append_right _ (List.mem_append_right _ (List.mem_append_left _ (List.mem_of_getElem? (i := 69) rfl))))) rfl
theorem wT_3_70 : (Cond.methodLink "ScopeTreeLaw" 110 ⟨"ScopeTreeLaw", "loader", "(LScopeTree;IZ[J)I"⟩) ∈ aw_TB := aw_tb (List.mem_append_right _ (List.mem_append_right _ (List.mem_append_right _ (List.mem_append_left _ (List.mem_of_getElem? (i := 70) rfl))))) rfl
theorem wT_3_71 : (Cond.static ⟨"ScopeTreeLaw", "loader", "(LScopeTree;IZ[J)I"⟩) ∈ aw_TB := aw_tb (List.mem_append_right _ (List.mem_append_right _ (List.mem_append_right _ (List.mem_append_left _ (List.mem_of_getElem? (i := 71) rfl))))) rfl
theorem wT_3_72 : (Cond.codeWith ⟨"ScopeTreeLaw", "loader", "(LScopeTree;IZ[J)I"⟩ method_11_code 5 (some .int) [(0, 10, 13, 13)]) ∈ aw_TB := aw_tb (List.mem_append_right _ (List.mem_append_right _ (List.mem_append_right _ (List.mem_append_left _ (List.mem_of_getElem? (i := 72) rfl))))) rfl
theorem wT_3_73 : (Cond.methodLink "ScopeTreeLaw" 45 ⟨"ScopeTree", "loader", "(IZ)I"⟩) ∈ aw_TB := aw_tb (List.mem_append_right _ (List.mem_append_right _ (List.mem_append_right _ (List.mem_append_left _ (List.mem_of_getElem? (i := 73) rfl))))) rfl
theorem wT_3_74 : (Cond.instanceMethod ⟨"ScopeTree", "loader", "(IZ)I"⟩) ∈ aw_TB := aw_tb (List.mem_append_right _ (List.mem_append_right _ (List.mem_append_right _ (List.mem_append_left _ (List.mem_of_getElem? (i := 74) rfl))))) rfl
theorem wT_3_75 : (Cond.selects "ScopeTree" ⟨"ScopeTree", "loader", "(IZ)I"⟩ ⟨"ScopeTree", "loader", "(IZ)I"⟩) ∈ aw_TB := aw_tb (List.mem_append_right _ (List.mem_append_right _ (List.mem_append_right _ (List.mem_append_left _ (List.mem_of_getElem? (i := 75) rfl))))) rfl
theorem wT_3_76 : (Cond.code ⟨"ScopeTree", "loader", "(IZ)I"⟩ prog_1_method_10_code 4 (some .int)) ∈ aw_TB := aw_tb (List.mem_append_right _ (List.mem_append_right _ (List.mem_append_right _ (List.mem_append_left _ (List.mem_of_getElem? (i := 76) rfl))))) rfl
theorem wT_3_77 : (Cond.methodLink "ScopeTreeLaw" 118 ⟨"ScopeTreeLaw", "load", "(LScopeTree;II[J)I"⟩) ∈ aw_TB := aw_tb (List.mem_append_right _ (List.mem_append_right _ (List.mem_append_right _ (List.mem_append_left _ (List.mem_of_getElem? (i := 77) rfl))))) rfl
theorem wT_3_78 : (Cond.static ⟨"ScopeTreeLaw", "load", "(LScopeTree;II[J)I"⟩) ∈ aw_TB := aw_tb (List.mem_append_right _ (List.mem_append_right _ (List.mem_append_right _ (List.mem_append_left _ (List.mem_of_getElem? (i := 78) rfl))))) rfl
theorem wT_3_79 : (Cond.codeWith ⟨"ScopeTreeLaw", "load", "(LScopeTree;II[J)I"⟩ method_12_code 5 (some .int) [(0, 10, 13, 13), (0, 10, 17, 15), (0, 10, 21, 53), (0, 10, 25, 40)]) ∈ aw_TB := aw_tb (List.mem_append_right _ (List.mem_append_right _ (List.mem_append_right _ (List.mem_append_left _ (List.mem_of_getElem? (i := 79) rfl))))) rfl
theorem wT_3_80 : (Cond.classLink "ScopeTreeLaw" 53 "java/util/NoSuchElementException") ∈ aw_TB := aw_tb (List.mem_append_right _ (List.mem_append_right _ (List.mem_append_right _ (List.mem_append_left _ (List.mem_of_getElem? (i := 80) rfl))))) rfl
theorem wT_3_81 : (Cond.methodLink "ScopeTreeLaw" 49 ⟨"ScopeTree", "load", "(II)I"⟩) ∈ aw_TB := aw_tb (List.mem_append_right _ (List.mem_append_right _ (List.mem_append_right _ (List.mem_append_left _ (List.mem_of_getElem? (i := 81) rfl))))) rfl
theorem wT_3_82 : (Cond.instanceMethod ⟨"ScopeTree", "load", "(II)I"⟩) ∈ aw_TB := aw_tb (List.mem_append_right _ (List.mem_append_right _ (List.mem_append_right _ (List.mem_append_left _ (List.mem_of_getElem? (i := 82) rfl))))) rfl
theorem wT_3_83 : (Cond.selects "ScopeTree" ⟨"ScopeTree", "load", "(II)I"⟩ ⟨"ScopeTree", "load", "(II)I"⟩) ∈ aw_TB := aw_tb (List.mem_append_right _ (List.mem_append_right _ (List.mem_append_right _ (List.mem_append_left _ (List.mem_of_getElem? (i := 83) rfl))))) rfl
theorem wT_3_84 : (Cond.code ⟨"ScopeTree", "load", "(II)I"⟩ prog_1_method_12_code 4 (some .int)) ∈ aw_TB := aw_tb (List.mem_append_right _ (List.mem_append_right _ (List.mem_append_right _ (List.mem_append_left _ (List.mem_of_getElem? (i := 84) rfl))))) rfl
theorem wT_3_86 : (Cond.methodLink "ScopeTree" 217 ⟨"ScopeTree", "requireLocked", "(LScopeTree$Scope;)V"⟩) ∈ aw_TB := aw_tb (List.mem_append_right _ (List.mem_append_right _ (List.mem_append_right _ (List.mem_append_left _ (List.mem_of_getElem? (i := 86) rfl))))) rfl
theorem wT_3_87 : (Cond.static ⟨"ScopeTree", "requireLocked", "(LScopeTree$Scope;)V"⟩) ∈ aw_TB := aw_tb (List.mem_append_right _ (List.mem_append_right _ (List.mem_append_right _ (List.mem_append_left _ (List.mem_of_getElem? (i := 87) rfl))))) rfl
theorem wT_3_88 : (Cond.code ⟨"ScopeTree", "requireLocked", "(LScopeTree$Scope;)V"⟩ prog_1_method_22_code 1 none) ∈ aw_TB := aw_tb (List.mem_append_right _ (List.mem_append_right _ (List.mem_append_right _ (List.mem_append_left _ (List.mem_of_getElem? (i := 88) rfl))))) rfl
theorem wT_3_90 : (Cond.methodLink "ScopeTree" 220 ⟨"ScopeTree", "typeFromScope", "(LScopeTree$Scope;I)LScopeTree$Type;"⟩) ∈ aw_TB := aw_tb (List.mem_append_right _ (List.mem_append_right _ (List.mem_append_right _ (List.mem_append_left _ (List.mem_of_getElem? (i := 90) rfl))))) rfl
theorem wT_3_92 : (Cond.instanceMethod ⟨"ScopeTree", "typeFromScope", "(LScopeTree$Scope;I)LScopeTree$Type;"⟩) ∈ aw_TB := aw_tb (List.mem_append_right _ (List.mem_append_right _ (List.mem_append_right _ (List.mem_append_left _ (List.mem_of_getElem? (i := 92) rfl))))) rfl
theorem wT_3_93 : (Cond.code ⟨"ScopeTree", "typeFromScope", "(LScopeTree$Scope;I)LScopeTree$Type;"⟩ prog_1_method_31_code 4 (some (.object "ScopeTree$Type"))) ∈ aw_TB := aw_tb (List.mem_append_right _ (List.mem_append_right _ (List.mem_append_right _ (List.mem_append_left _ (List.mem_of_getElem? (i := 93) rfl))))) rfl
theorem wT_3_94 : (Cond.methodLink "ScopeTree" 315 ⟨"ScopeTree", "findFrom", "(LScopeTree$Loader;II)LScopeTree$Type;"⟩) ∈ aw_TB := aw_tb (List.mem_append_right _ (List.mem_append_right _ (List.mem_append_right _ (List.mem_append_left _ (List.mem_of_getElem? (i := 94) rfl))))) rfl
theorem wT_3_96 : (Cond.instanceMethod ⟨"ScopeTree", "findFrom", "(LScopeTree$Loader;II)LScopeTree$Type;"⟩) ∈ aw_TB := aw_tb (List.mem_append_right _ (List.mem_append_right _ (List.mem_append_right _ (List.mem_append_left _ (List.mem_of_getElem? (i := 96) rfl))))) rfl
theorem wT_3_97 : (Cond.code ⟨"ScopeTree", "findFrom", "(LScopeTree$Loader;II)LScopeTree$Type;"⟩ prog_1_method_32_code 6 (some (.object "ScopeTree$Type"))) ∈ aw_TB := aw_tb (List.mem_append_right _ (List.mem_append_right _ (List.mem_append_right _ (List.mem_append_left _ (List.mem_of_getElem? (i := 97) rfl))))) rfl
theorem wN_3_98 : (Cond.methodLinkNest "ScopeTree" 321 ⟨"ScopeTree$Filter", "admits", "(I)Z"⟩ "ScopeTree") ∈ aw_NB := aw_nb (List.mem_append_right _ (List.mem_append_right _ (List.mem_append_right _ (List.mem_append_left _ (List.mem_of_getElem? (i := 98) rfl))))) rfl
theorem wT_3_100 : (Cond.instanceMethod ⟨"ScopeTree$Filter", "admits", "(I)Z"⟩) ∈ aw_TB := aw_tb (List.mem_append_right _ (List.mem_append_right _ (List.mem_append_right _ (List.mem_append_left _ (List.mem_of_getElem? (i := 100) rfl))))) rfl
theorem wT_3_101 : (Cond.code ⟨"ScopeTree$Filter", "admits", "(I)Z"⟩ prog_5_method_2_code 2 (some .boolean)) ∈ aw_TB := aw_tb (List.mem_append_right _ (List.mem_append_right _ (List.mem_append_right _ (List.mem_append_left _ (List.mem_of_getElem? (i := 101) rfl))))) rfl
theorem wN_3_102 : (Cond.methodLinkNest "ScopeTree" 324 ⟨"ScopeTree$Loader", "fileOf", "(I)LScopeTree$ClassFile;"⟩ "ScopeTree") ∈ aw_NB := aw_nb (List.mem_append_right _ (List.mem_append_right _ (List.mem_append_right _ (List.mem_append_left _ (List.mem_of_getElem? (i := 102) rfl))))) rfl
theorem wT_3_104 : (Cond.instanceMethod ⟨"ScopeTree$Loader", "fileOf", "(I)LScopeTree$ClassFile;"⟩) ∈ aw_TB := aw_tb (List.mem_append_right _ (List.mem_append_right _ (List.mem_append_right _ (List.mem_append_left _ (List.mem_of_getElem? (i := 104) rfl))))) rfl
theorem wT_3_105 : (Cond.code ⟨"ScopeTree$Loader", "fileOf", "(I)LScopeTree$ClassFile;"⟩ prog_6_method_2_code 4 (some (.object "ScopeTree$ClassFile"))) ∈ aw_TB := aw_tb (List.mem_append_right _ (List.mem_append_right _ (List.mem_append_right _ (List.mem_append_left _ (List.mem_of_getElem? (i := 105) rfl))))) rfl
theorem wN_3_106 : (Cond.methodLinkNest "ScopeTree$Loader" 28 ⟨"ScopeTree$Archive", "fileOf", "(I)LScopeTree$ClassFile;"⟩ "ScopeTree") ∈ aw_NB := aw_nb (List.mem_append_right _ (List.mem_append_right _ (List.mem_append_right _ (List.mem_append_left _ (List.mem_of_getElem? (i := 106) rfl))))) rfl
theorem wT_3_107 : (Cond.methodLink "ScopeTree" 328 ⟨"ScopeTree", "typeDefinedBy", "(LScopeTree$Loader;LScopeTree$ClassFile;I)LScopeTree$Type;"⟩) ∈ aw_TB := aw_tb (List.mem_append_right _ (List.mem_append_right _ (List.mem_append_right _ (List.mem_append_left _ (List.mem_of_getElem? (i := 107) rfl))))) rfl
theorem wT_3_109 : (Cond.instanceMethod ⟨"ScopeTree", "typeDefinedBy", "(LScopeTree$Loader;LScopeTree$ClassFile;I)LScopeTree$Type;"⟩) ∈ aw_TB := aw_tb (List.mem_append_right _ (List.mem_append_right _ (List.mem_append_right _ (List.mem_append_left _ (List.mem_of_getElem? (i := 109) rfl))))) rfl
theorem wT_3_110 : (Cond.code ⟨"ScopeTree", "typeDefinedBy", "(LScopeTree$Loader;LScopeTree$ClassFile;I)LScopeTree$Type;"⟩ prog_1_method_33_code 6 (some (.object "ScopeTree$Type"))) ∈ aw_TB := aw_tb (List.mem_append_right _ (List.mem_append_right _ (List.mem_append_right _ (List.mem_append_left _ (List.mem_of_getElem? (i := 110) rfl))))) rfl
theorem wT_3_111 : (Cond.methodLink "ScopeTree" 333 ⟨"ScopeTree", "knownType", "(LScopeTree$Loader;I)LScopeTree$Type;"⟩) ∈ aw_TB := aw_tb (List.mem_append_right _ (List.mem_append_right _ (List.mem_append_right _ (List.mem_append_left _ (List.mem_of_getElem? (i := 111) rfl))))) rfl
theorem wT_3_113 : (Cond.instanceMethod ⟨"ScopeTree", "knownType", "(LScopeTree$Loader;I)LScopeTree$Type;"⟩) ∈ aw_TB := aw_tb (List.mem_append_right _ (List.mem_append_right _ (List.mem_append_right _ (List.mem_append_left _ (List.mem_of_getElem? (i := 113) rfl))))) rfl
theorem wT_3_114 : (Cond.code ⟨"ScopeTree", "knownType", "(LScopeTree$Loader;I)LScopeTree$Type;"⟩ prog_1_method_34_code 4 (some (.object "ScopeTree$Type"))) ∈ aw_TB := aw_tb (List.mem_append_right _ (List.mem_append_right _ (List.mem_append_right _ (List.mem_append_left _ (List.mem_of_getElem? (i := 114) rfl))))) rfl
theorem wT_3_115 : (Cond.methodLink "ScopeTree" 337 ⟨"ScopeTree", "isBeingDefined", "(LScopeTree$Loader;II)Z"⟩) ∈ aw_TB := aw_tb (List.mem_append_right _ (List.mem_append_right _ (List.mem_append_right _ (List.mem_append_left _ (List.mem_of_getElem? (i := 115) rfl))))) rfl
theorem wT_3_117 : (Cond.instanceMethod ⟨"ScopeTree", "isBeingDefined", "(LScopeTree$Loader;II)Z"⟩) ∈ aw_TB := aw_tb (List.mem_append_right _ (List.mem_append_right _ (List.mem_append_right _ (List.mem_append_left _ (List.mem_of_getElem? (i := 117) rfl))))) rfl
theorem wT_3_118 : (Cond.code ⟨"ScopeTree", "isBeingDefined", "(LScopeTree$Loader;II)Z"⟩ prog_1_method_35_code 5 (some .boolean)) ∈ aw_TB := aw_tb (List.mem_append_right _ (List.mem_append_right _ (List.mem_append_right _ (List.mem_append_left _ (List.mem_of_getElem? (i := 118) rfl))))) rfl
theorem wT_3_122 : (Cond.methodLink "ScopeTree" 350 ⟨"ScopeTree", "newType", "(LScopeTree$ClassFile;LScopeTree$Loader;LScopeTree$Type;)LScopeTree$Type;"⟩) ∈ aw_TB := aw_tb (List.mem_append_right _ (List.mem_append_right _ (List.mem_append_right _ (List.mem_append_left _ (List.mem_of_getElem? (i := 122) rfl))))) rfl
theorem wT_3_124 : (Cond.instanceMethod ⟨"ScopeTree", "newType", "(LScopeTree$ClassFile;LScopeTree$Loader;LScopeTree$Type;)LScopeTree$Type;"⟩) ∈ aw_TB := aw_tb (List.mem_append_right _ (List.mem_append_right _ (List.mem_append_right _ (List.mem_append_left _ (List.mem_of_getElem? (i := 124) rfl))))) rfl
theorem wT_3_125 : (Cond.code ⟨"ScopeTree", "newType", "(LScopeTree$ClassFile;LScopeTree$Loader;LScopeTree$Type;)LScopeTree$Type;"⟩ prog_1_method_36_code 5 (some (.object "ScopeTree$Type"))) ∈ aw_TB := aw_tb (List.mem_append_right _ (List.mem_append_right _ (List.mem_append_right _ (List.mem_append_left _ (List.mem_of_getElem? (i := 125) rfl))))) rfl
theorem wT_3_127 : (Cond.classLink "ScopeTree" 246 "java/util/NoSuchElementException") ∈ aw_TB := aw_tb (List.mem_append_right _ (List.mem_append_right _ (List.mem_append_right _ (List.mem_append_left _ (List.mem_of_getElem? (i := 127) rfl))))) rfl
theorem wT_3_128 : (Cond.instantiable "java/util/NoSuchElementException" 6) ∈ aw_TB := aw_tb (List.mem_append_right _ (List.mem_append_right _ (List.mem_append_right _ (List.mem_append_left _ (List.mem_of_getElem? (i := 128) rfl))))) rfl
theorem wN_3_129 : (Cond.castable "java/util/NoSuchElementException" "java/util/NoSuchElementException") ∈ aw_NB := aw_nb (List.mem_append_right _ (List.mem_append_right _ (List.mem_append_right _ (List.mem_append_left _ (List.mem_of_getElem? (i := 129) rfl))))) rfl
theorem wT_3_130 : (Cond.selects "java/util/NoSuchElementException" ⟨"java/lang/Throwable", "fillInStackTrace", "(I)Ljava/lang/Throwable;"⟩ ⟨"java/lang/Throwable", "fillInStackTrace", "(I)Ljava/lang/Throwable;"⟩) ∈ aw_TB := aw_tb (List.mem_append_right _ (List.mem_append_right _ (List.mem_append_right _ (List.mem_append_left _ (List.mem_of_getElem? (i := 130) rfl))))) rfl
theorem wT_3_131 : (Cond.lays "java/util/NoSuchElementException" "java/lang/Throwable" "cause" "Ljava/lang/Throwable;") ∈ aw_TB := aw_tb (List.mem_append_right _ (List.mem_append_right _ (List.mem_append_right _ (List.mem_append_left _ (List.mem_of_getElem? (i := 131) rfl))))) rfl
theorem wT_3_132 : (Cond.lays "java/util/NoSuchElementException" "java/lang/Throwable" "stackTrace" "[Ljava/lang/StackTraceElement;") ∈ aw_TB := aw_tb (List.mem_append_right _ (List.mem_append_right _ (List.mem_append_right _ (List.mem_append_left _ (List.mem_of_getElem? (i := 132) rfl))))) rfl
theorem wT_3_133 : (Cond.lays "java/util/NoSuchElementException" "java/lang/Throwable" "suppressedExceptions" "Ljava/util/List;") ∈ aw_TB := aw_tb (List.mem_append_right _ (List.mem_append_right _ (List.mem_append_right _ (List.mem_append_left _ (List.mem_of_getElem? (i := 133) rfl))))) rfl
theorem wT_3_134 : (Cond.lays "java/util/NoSuchElementException" "java/lang/Throwable" "detailMessage" "Ljava/lang/String;") ∈ aw_TB := aw_tb (List.mem_append_right _ (List.mem_append_right _ (List.mem_append_right _ (List.mem_append_left _ (List.mem_of_getElem? (i := 134) rfl))))) rfl
theorem wT_3_135 : (Cond.lays "java/util/NoSuchElementException" "java/lang/Throwable" "backtrace" "Ljava/lang/Object;") ∈ aw_TB := aw_tb (List.mem_append_right _ (List.mem_append_right _ (List.mem_append_right _ (List.mem_append_left _ (List.mem_of_getElem? (i := 135) rfl))))) rfl
theorem wT_3_137 : (Cond.methodLink "ScopeTree" 250 ⟨"java/util/NoSuchElementException", "<init>", "(Ljava/lang/String;)V"⟩) ∈ aw_TB := aw_tb (List.mem_append_right _ (List.mem_append_right _ (List.mem_append_right _ (List.mem_append_left _ (List.mem_of_getElem? (i := 137) rfl))))) rfl
theorem wT_3_138 : (Cond.instanceMethod ⟨"java/util/NoSuchElementException", "<init>", "(Ljava/lang/String;)V"⟩) ∈ aw_TB := aw_tb (List.mem_append_right _ (List.mem_append_right _ (List.mem_append_right _ (List.mem_append_left _ (List.mem_of_getElem? (i := 138) rfl))))) rfl
theorem wT_3_139 : (Cond.code ⟨"java/util/NoSuchElementException", "<init>", "(Ljava/lang/String;)V"⟩ prog_23_method_4_code 2 none) ∈ aw_TB := aw_tb (List.mem_append_right _ (List.mem_append_right _ (List.mem_append_right _ (List.mem_append_left _ (List.mem_of_getElem? (i := 139) rfl))))) rfl
theorem wT_3_140 : (Cond.methodLink "java/util/NoSuchElementException" 13 ⟨"java/lang/RuntimeException", "<init>", "(Ljava/lang/String;)V"⟩) ∈ aw_TB := aw_tb (List.mem_append_right _ (List.mem_append_right _ (List.mem_append_right _ (List.mem_append_left _ (List.mem_of_getElem? (i := 140) rfl))))) rfl
theorem wT_3_141 : (Cond.lays "java/util/NoSuchElementException" "java/lang/Throwable" "depth" "I") ∈ aw_TB := aw_tb (List.mem_append_right _ (List.mem_append_right _ (List.mem_append_right _ (List.mem_append_left _ (List.mem_of_getElem? (i := 141) rfl))))) rfl
theorem wT_3_142 : (Cond.superclass "java/util/NoSuchElementException" "java/lang/RuntimeException") ∈ aw_TB := aw_tb (List.mem_append_right _ (List.mem_append_right _ (List.mem_append_right _ (List.mem_append_left _ (List.mem_of_getElem? (i := 142) rfl))))) rfl
theorem wT_3_143 : (Cond.methodLink "ScopeTreeLaw" 122 ⟨"ScopeTreeLaw", "info", "(LScopeTree;II[J)I"⟩) ∈ aw_TB := aw_tb (List.mem_append_right _ (List.mem_append_right _ (List.mem_append_right _ (List.mem_append_left _ (List.mem_of_getElem? (i := 143) rfl))))) rfl
theorem wT_3_144 : (Cond.static ⟨"ScopeTreeLaw", "info", "(LScopeTree;II[J)I"⟩) ∈ aw_TB := aw_tb (List.mem_append_right _ (List.mem_append_right _ (List.mem_append_right _ (List.mem_append_left _ (List.mem_of_getElem? (i := 144) rfl))))) rfl
theorem wT_3_145 : (Cond.codeWith ⟨"ScopeTreeLaw", "info", "(LScopeTree;II[J)I"⟩ method_13_code 5 (some .int) [(0, 10, 13, 53)]) ∈ aw_TB := aw_tb (List.mem_append_right _ (List.mem_append_right _ (List.mem_append_right _ (List.mem_append_left _ (List.mem_of_getElem? (i := 145) rfl))))) rfl
theorem wT_3_146 : (Cond.methodLink "ScopeTreeLaw" 55 ⟨"ScopeTree", "info", "(II)I"⟩) ∈ aw_TB := aw_tb (List.mem_append_right _ (List.mem_append_right _ (List.mem_append_right _ (List.mem_append_left _ (List.mem_of_getElem? (i := 146) rfl))))) rfl
theorem wT_3_147 : (Cond.instanceMethod ⟨"ScopeTree", "info", "(II)I"⟩) ∈ aw_TB := aw_tb (List.mem_append_right _ (List.mem_append_right _ (List.mem_append_right _ (List.mem_append_left _ (List.mem_of_getElem? (i := 147) rfl))))) rfl
theorem wT_3_148 : (Cond.selects "ScopeTree" ⟨"ScopeTree", "info", "(II)I"⟩ ⟨"ScopeTree", "info", "(II)I"⟩) ∈ aw_TB := aw_tb (List.mem_append_right _ (List.mem_append_right _ (List.mem_append_right _ (List.mem_append_left _ (List.mem_of_getElem? (i := 148) rfl))))) rfl
theorem wT_3_149 : (Cond.code ⟨"ScopeTree", "info", "(II)I"⟩ prog_1_method_13_code 4 (some .int)) ∈ aw_TB := aw_tb (List.mem_append_right _ (List.mem_append_right _ (List.mem_append_right _ (List.mem_append_left _ (List.mem_of_getElem? (i := 149) rfl))))) rfl
theorem wT_3_150 : (Cond.methodLink "ScopeTree" 225 ⟨"ScopeTree", "typeAt", "(I)LScopeTree$Type;"⟩) ∈ aw_TB := aw_tb (List.mem_append_right _ (List.mem_append_right _ (List.mem_append_right _ (List.mem_append_left _ (List.mem_of_getElem? (i := 150) rfl))))) rfl
theorem wT_3_152 : (Cond.instanceMethod ⟨"ScopeTree", "typeAt", "(I)LScopeTree$Type;"⟩) ∈ aw_TB := aw_tb (List.mem_append_right _ (List.mem_append_right _ (List.mem_append_right _ (List.mem_append_left _ (List.mem_of_getElem? (i := 152) rfl))))) rfl
theorem wT_3_153 : (Cond.code ⟨"ScopeTree", "typeAt", "(I)LScopeTree$Type;"⟩ prog_1_method_20_code 2 (some (.object "ScopeTree$Type"))) ∈ aw_TB := aw_tb (List.mem_append_right _ (List.mem_append_right _ (List.mem_append_right _ (List.mem_append_left _ (List.mem_of_getElem? (i := 153) rfl))))) rfl
theorem wT_3_156 : (Cond.methodLink "ScopeTreeLaw" 125 ⟨"ScopeTreeLaw", "isA", "(LScopeTree;II[J)I"⟩) ∈ aw_TB := aw_tb (List.mem_append_right _ (List.mem_append_right _ (List.mem_append_right _ (List.mem_append_left _ (List.mem_of_getElem? (i := 156) rfl))))) rfl
theorem wT_3_157 : (Cond.static ⟨"ScopeTreeLaw", "isA", "(LScopeTree;II[J)I"⟩) ∈ aw_TB := aw_tb (List.mem_append_right _ (List.mem_append_right _ (List.mem_append_right _ (List.mem_append_left _ (List.mem_of_getElem? (i := 157) rfl))))) rfl
theorem wT_3_158 : (Cond.codeWith ⟨"ScopeTreeLaw", "isA", "(LScopeTree;II[J)I"⟩ method_14_code 5 (some .int) [(0, 17, 20, 53)]) ∈ aw_TB := aw_tb (List.mem_append_right _ (List.mem_append_right _ (List.mem_append_right _ (List.mem_append_left _ (List.mem_of_getElem? (i := 158) rfl))))) rfl
theorem wT_3_159 : (Cond.methodLink "ScopeTreeLaw" 58 ⟨"ScopeTree", "isA", "(II)Z"⟩) ∈ aw_TB := aw_tb (List.mem_append_right _ (List.mem_append_right _ (List.mem_append_right _ (List.mem_append_left _ (List.mem_of_getElem? (i := 159) rfl))))) rfl
theorem wT_3_160 : (Cond.instanceMethod ⟨"ScopeTree", "isA", "(II)Z"⟩) ∈ aw_TB := aw_tb (List.mem_append_right _ (List.mem_append_right _ (List.mem_append_right _ (List.mem_append_left _ (List.mem_of_getElem? (i := 160) rfl))))) rfl
theorem wT_3_161 : (Cond.selects "ScopeTree" ⟨"ScopeTree", "isA", "(II)Z"⟩ ⟨"ScopeTree", "isA", "(II)Z"⟩) ∈ aw_TB := aw_tb (List.mem_append_right _ (List.mem_append_right _ (List.mem_append_right _ (List.mem_append_left _ (List.mem_of_getElem? (i := 161) rfl))))) rfl
theorem wT_3_162 : (Cond.code ⟨"ScopeTree", "isA", "(II)Z"⟩ prog_1_method_14_code 3 (some .boolean)) ∈ aw_TB := aw_tb (List.mem_append_right _ (List.mem_append_right _ (List.mem_append_right _ (List.mem_append_left _ (List.mem_of_getElem? (i := 162) rfl))))) rfl
theorem wT_3_163 : (Cond.methodLink "ScopeTree" 251 ⟨"ScopeTree", "isSubtype", "(LScopeTree$Type;LScopeTree$Type;)Z"⟩) ∈ aw_TB := aw_tb (List.mem_append_right _ (List.mem_append_right _ (List.mem_append_right _ (List.mem_append_left _ (List.mem_of_getElem? (i := 163) rfl))))) rfl
theorem wT_3_164 : (Cond.static ⟨"ScopeTree", "isSubtype", "(LScopeTree$Type;LScopeTree$Type;)Z"⟩) ∈ aw_TB := aw_tb (List.mem_append_right _ (List.mem_append_right _ (List.mem_append_right _ (List.mem_append_left _ (List.mem_of_getElem? (i := 164) rfl))))) rfl
theorem wT_3_165 : (Cond.code ⟨"ScopeTree", "isSubtype", "(LScopeTree$Type;LScopeTree$Type;)Z"⟩ prog_1_method_37_code 3 (some .boolean)) ∈ aw_TB := aw_tb (List.mem_append_right _ (List.mem_append_right _ (List.mem_append_right _ (List.mem_append_left _ (List.mem_of_getElem? (i := 165) rfl))))) rfl
theorem wT_3_166 : (Cond.methodLink "ScopeTreeLaw" 128 ⟨"ScopeTreeLaw", "apply", "(LScopeTree;II[J)I"⟩) ∈ aw_TB := aw_tb (List.mem_append_right _ (List.mem_append_right _ (List.mem_append_right _ (List.mem_append_left _ (List.mem_of_getElem? (i := 166) rfl))))) rfl
theorem wT_3_167 : (Cond.static ⟨"ScopeTreeLaw", "apply", "(LScopeTree;II[J)I"⟩) ∈ aw_TB := aw_tb (List.mem_append_right _ (List.mem_append_right _ (List.mem_append_right _ (List.mem_append_left _ (List.mem_of_getElem? (i := 167) rfl))))) rfl
theorem wT_3_168 : (Cond.codeWith ⟨"ScopeTreeLaw", "apply", "(LScopeTree;II[J)I"⟩ method_15_code 5 (some .int) [(0, 10, 13, 13), (0, 10, 17, 15), (0, 10, 21, 53), (0, 10, 25, 40)]) ∈ aw_TB := aw_tb (List.mem_append_right _ (List.mem_append_right _ (List.mem_append_right _ (List.mem_append_left _ (List.mem_of_getElem? (i := 168) rfl))))) rfl
theorem wT_3_169 : (Cond.methodLink "ScopeTreeLaw" 62 ⟨"ScopeTree", "apply", "(II)I"⟩) ∈ aw_TB := aw_tb (List.mem_append_right _ (List.mem_append_right _ (List.mem_append_right _ (List.mem_append_left _ (List.mem_of_getElem? (i := 169) rfl))))) rfl
theorem wT_3_170 : (Cond.instanceMethod ⟨"ScopeTree", "apply", "(II)I"⟩) ∈ aw_TB := aw_tb (List.mem_append_right _ (List.mem_append_right _ (List.mem_append_right _ (List.mem_append_left _ (List.mem_of_getElem? (i := 170) rfl))))) rfl
theorem wT_3_171 : (Cond.selects "ScopeTree" ⟨"ScopeTree", "apply", "(II)I"⟩ ⟨"ScopeTree", "apply", "(II)I"⟩) ∈ aw_TB := aw_tb (List.mem_append_right _ (List.mem_append_right _ (List.mem_append_right _ (List.mem_append_left _ (List.mem_of_getElem? (i := 171) rfl))))) rfl
theorem wT_3_172 : (Cond.code ⟨"ScopeTree", "apply", "(II)I"⟩ prog_1_method_15_code 6 (some .int)) ∈ aw_TB := aw_tb (List.mem_append_right _ (List.mem_append_right _ (List.mem_append_right _ (List.mem_append_left _ (List.mem_of_getElem? (i := 172) rfl))))) rfl
theorem wT_3_174 : (Cond.methodLink "ScopeTree" 257 ⟨"ScopeTree", "visibleDescriptor", "(LScopeTree$Loader;I)LScopeTree$Descriptor;"⟩) ∈ aw_TB := aw_tb (List.mem_append_right _ (List.mem_append_right _ (List.mem_append_right _ (List.mem_append_left _ (List.mem_of_getElem? (i := 174) rfl))))) rfl
theorem wT_3_175 : (Cond.static ⟨"ScopeTree", "visibleDescriptor", "(LScopeTree$Loader;I)LScopeTree$Descriptor;"⟩) ∈ aw_TB := aw_tb (List.mem_append_right _ (List.mem_append_right _ (List.mem_append_right _ (List.mem_append_left _ (List.mem_of_getElem? (i := 175) rfl))))) rfl
theorem wT_3_176 : (Cond.code ⟨"ScopeTree", "visibleDescriptor", "(LScopeTree$Loader;I)LScopeTree$Descriptor;"⟩ prog_1_method_38_code 4 (some (.object "ScopeTree$Descriptor"))) ∈ aw_TB := aw_tb (List.mem_append_right _ (List.mem_append_right _ (List.mem_append_right _ (List.mem_append_left _ (List.mem_of_getElem? (i := 176) rfl))))) rfl
theorem wN_3_177 : (Cond.methodLinkNest "ScopeTree" 357 ⟨"ScopeTree$Loader", "descriptorOf", "(I)LScopeTree$Descriptor;"⟩ "ScopeTree") ∈ aw_NB := aw_nb (List.mem_append_right _ (List.mem_append_right _ (List.mem_append_right _ (List.mem_append_left _ (List.mem_of_getElem? (i := 177) rfl))))) rfl
theorem wT_3_179 : (Cond.instanceMethod ⟨"ScopeTree$Loader", "descriptorOf", "(I)LScopeTree$Descriptor;"⟩) ∈ aw_TB := aw_tb (List.mem_append_right _ (List.mem_append_right _ (List.mem_append_right _ (List.mem_append_left _ (List.mem_of_getElem? (i := 179) rfl))))) rfl
theorem wT_3_180 : (Cond.code ⟨"ScopeTree$Loader", "descriptorOf", "(I)LScopeTree$Descriptor;"⟩ prog_6_method_3_code 4 (some (.object "ScopeTree$Descriptor"))) ∈ aw_TB := aw_tb (List.mem_append_right _ (List.mem_append_right _ (List.mem_append_right _ (List.mem_append_left _ (List.mem_of_getElem? (i := 180) rfl))))) rfl
theorem wN_3_181 : (Cond.methodLinkNest "ScopeTree$Loader" 34 ⟨"ScopeTree$Archive", "descriptorOf", "(I)LScopeTree$Descriptor;"⟩ "ScopeTree") ∈ aw_NB := aw_nb (List.mem_append_right _ (List.mem_append_right _ (List.mem_append_right _ (List.mem_append_left _ (List.mem_of_getElem? (i := 181) rfl))))) rfl
theorem wT_3_182 : (Cond.methodLink "ScopeTree" 361 ⟨"ScopeTree", "isLetThrough", "(LScopeTree$Loader;LScopeTree$Loader;I)Z"⟩) ∈ aw_TB := aw_tb (List.mem_append_right _ (List.mem_append_right _ (List.mem_append_right _ (List.mem_append_left _ (List.mem_of_getElem? (i := 182) rfl))))) rfl
theorem wT_3_183 : (Cond.static ⟨"ScopeTree", "isLetThrough", "(LScopeTree$Loader;LScopeTree$Loader;I)Z"⟩) ∈ aw_TB := aw_tb (List.mem_append_right _ (List.mem_append_right _ (List.mem_append_right _ (List.mem_append_left _ (List.mem_of_getElem? (i := 183) rfl))))) rfl
theorem wT_3_184 : (Cond.code ⟨"ScopeTree", "isLetThrough", "(LScopeTree$Loader;LScopeTree$Loader;I)Z"⟩ prog_1_method_39_code 4 (some .boolean)) ∈ aw_TB := aw_tb (List.mem_append_right _ (List.mem_append_right _ (List.mem_append_right _ (List.mem_append_left _ (List.mem_of_getElem? (i := 184) rfl))))) rfl
theorem wN_3_185 : (Cond.methodLinkNest "ScopeTree" 262 ⟨"ScopeTree$Scope", "hasApplied", "(LScopeTree$Type;)Z"⟩ "ScopeTree") ∈ aw_NB := aw_nb (List.mem_append_right _ (List.mem_append_right _ (List.mem_append_right _ (List.mem_append_left _ (List.mem_of_getElem? (i := 185) rfl))))) rfl
theorem wT_3_187 : (Cond.instanceMethod ⟨"ScopeTree$Scope", "hasApplied", "(LScopeTree$Type;)Z"⟩) ∈ aw_TB := aw_tb (List.mem_append_right _ (List.mem_append_right _ (List.mem_append_right _ (List.mem_append_left _ (List.mem_of_getElem? (i := 187) rfl))))) rfl
theorem wT_3_188 : (Cond.code ⟨"ScopeTree$Scope", "hasApplied", "(LScopeTree$Type;)Z"⟩ prog_8_method_2_code 3 (some .boolean)) ∈ aw_TB := aw_tb (List.mem_append_right _ (List.mem_append_right _ (List.mem_append_right _ (List.mem_append_left _ (List.mem_of_getElem? (i := 188) rfl))))) rfl
theorem wN_3_189 : (Cond.methodLinkNest "ScopeTree" 266 ⟨"ScopeTree$Scope", "appendApplied", "(LScopeTree$Type;)Z"⟩ "ScopeTree") ∈ aw_NB := aw_nb (List.mem_append_right _ (List.mem_append_right _ (List.mem_append_right _ (List.mem_append_left _ (List.mem_of_getElem? (i := 189) rfl))))) rfl
theorem wT_3_191 : (Cond.instanceMethod ⟨"ScopeTree$Scope", "appendApplied", "(LScopeTree$Type;)Z"⟩) ∈ aw_TB := aw_tb (List.mem_append_right _ (List.mem_append_right _ (List.mem_append_right _ (List.mem_append_left _ (List.mem_of_getElem? (i := 191) rfl))))) rfl
theorem wT_3_192 : (Cond.code ⟨"ScopeTree$Scope", "appendApplied", "(LScopeTree$Type;)Z"⟩ prog_8_method_3_code 2 (some .boolean)) ∈ aw_TB := aw_tb (List.mem_append_right _ (List.mem_append_right _ (List.mem_append_right _ (List.mem_append_left _ (List.mem_of_getElem? (i := 192) rfl))))) rfl
theorem wT_3_193 : (Cond.methodLink "ScopeTreeLaw" 131 ⟨"ScopeTreeLaw", "applied", "(LScopeTree;II[J)I"⟩) ∈ aw_TB := aw_tb (List.mem_append_right _ (List.mem_append_right _ (List.mem_append_right _ (List.mem_append_left _ (List.mem_of_getElem? (i := 193) rfl))))) rfl
theorem wT_3_194 : (Cond.static ⟨"ScopeTreeLaw", "applied", "(LScopeTree;II[J)I"⟩) ∈ aw_TB := aw_tb (List.mem_append_right _ (List.mem_append_right _ (List.mem_append_right _ (List.mem_append_left _ (List.mem_of_getElem? (i := 194) rfl))))) rfl
theorem wT_3_195 : (Cond.codeWith ⟨"ScopeTreeLaw", "applied", "(LScopeTree;II[J)I"⟩ method_16_code 5 (some .int) [(0, 10, 13, 13)]) ∈ aw_TB := aw_tb (List.mem_append_right _ (List.mem_append_right _ (List.mem_append_right _ (List.mem_append_left _ (List.mem_of_getElem? (i := 195) rfl))))) rfl
theorem wT_3_196 : (Cond.methodLink "ScopeTreeLaw" 65 ⟨"ScopeTree", "applied", "(II)I"⟩) ∈ aw_TB := aw_tb (List.mem_append_right _ (List.mem_append_right _ (List.mem_append_right _ (List.mem_append_left _ (List.mem_of_getElem? (i := 196) rfl))))) rfl
theorem wT_3_197 : (Cond.instanceMethod ⟨"ScopeTree", "applied", "(II)I"⟩) ∈ aw_TB := aw_tb (List.mem_append_right _ (List.mem_append_right _ (List.mem_append_right _ (List.mem_append_left _ (List.mem_of_getElem? (i := 197) rfl))))) rfl
theorem wT_3_198 : (Cond.selects "ScopeTree" ⟨"ScopeTree", "applied", "(II)I"⟩ ⟨"ScopeTree", "applied", "(II)I"⟩) ∈ aw_TB := aw_tb (List.mem_append_right _ (List.mem_append_right _ (List.mem_append_right _ (List.mem_append_left _ (List.mem_of_getElem? (i := 198) rfl))))) rfl
theorem wT_3_199 : (Cond.code ⟨"ScopeTree", "applied", "(II)I"⟩ prog_1_method_16_code 4 (some .int)) ∈ aw_TB := aw_tb (List.mem_append_right _ (List.mem_append_right _ (List.mem_append_right _ (List.mem_append_left _ (List.mem_of_getElem? (i := 199) rfl))))) rfl
theorem wT_3_200 : (Cond.classLink "ScopeTreeLaw" 69 "ScopeTreeModel") ∈ aw_TB := aw_tb (List.mem_append_right _ (List.mem_append_right _ (List.mem_append_right _ (List.mem_append_left _ (List.mem_of_getElem? (i := 200) rfl))))) rfl
theorem wT_3_201 : (Cond.instantiable "ScopeTreeModel" 33) ∈ aw_TB := aw_tb (List.mem_append_right _ (List.mem_append_right _ (List.mem_append_right _ (List.mem_append_left _ (List.mem_of_getElem? (i := 201) rfl))))) rfl
theorem wT_3_202 : (Cond.methodLink "ScopeTreeLaw" 71 ⟨"ScopeTreeModel", "<init>", "()V"⟩) ∈ aw_TB := aw_tb (List.mem_append_right _ (List.mem_append_right _ (List.mem_append_right _ (List.mem_append_left _ (List.mem_of_getElem? (i := 202) rfl))))) rfl
theorem wT_3_203 : (Cond.instanceMethod ⟨"ScopeTreeModel", "<init>", "()V"⟩) ∈ aw_TB := aw_tb (List.mem_append_right _ (List.mem_append_right _ (List.mem_append_right _ (List.mem_append_left _ (List.mem_of_getElem? (i := 203) rfl))))) rfl
theorem wT_3_204 : (Cond.code ⟨"ScopeTreeModel", "<init>", "()V"⟩ prog_12_method_1_code 2 none) ∈ aw_TB := aw_tb (List.mem_append_right _ (List.mem_append_right _ (List.mem_append_right _ (List.mem_append_left _ (List.mem_of_getElem? (i := 204) rfl))))) rfl
theorem wT_3_205 : (Cond.methodLink "ScopeTreeModel" 1 ⟨"java/lang/Object", "<init>", "()V"⟩) ∈ aw_TB := aw_tb (List.mem_append_right _ (List.mem_append_right _ (List.mem_append_right _ (List.mem_append_left _ (List.mem_of_getElem? (i := 205) rfl))))) rfl
theorem wT_3_206 : (Cond.fieldLink "ScopeTreeModel" 103 "ScopeTreeModel" "thrown" "I") ∈ aw_TB := aw_tb (List.mem_append_right _ (List.mem_append_right _ (List.mem_append_right _ (List.mem_append_left _ (List.mem_of_getElem? (i := 206) rfl))))) rfl
theorem wT_3_207 : (Cond.fieldLink "ScopeTreeModel" 7 "ScopeTreeModel" "files" "[I") ∈ aw_TB := aw_tb (List.mem_append_right _ (List.mem_append_right _ (List.mem_append_right _ (List.mem_append_left _ (List.mem_of_getElem? (i := 207) rfl))))) rfl
theorem wT_3_208 : (Cond.fieldLink "ScopeTreeModel" 13 "ScopeTreeModel" "file" "[I") ∈ aw_TB := aw_tb (List.mem_append_right _ (List.mem_append_right _ (List.mem_append_right _ (List.mem_append_left _ (List.mem_of_getElem? (i := 208) rfl))))) rfl
theorem wT_3_209 : (Cond.fieldLink "ScopeTreeModel" 16 "ScopeTreeModel" "descriptors" "[I") ∈ aw_TB := aw_tb (List.mem_append_right _ (List.mem_append_right _ (List.mem_append_right _ (List.mem_append_left _ (List.mem_of_getElem? (i := 209) rfl))))) rfl
theorem wT_3_210 : (Cond.fieldLink "ScopeTreeModel" 19 "ScopeTreeModel" "descriptor" "[I") ∈ aw_TB := aw_tb (List.mem_append_right _ (List.mem_append_right _ (List.mem_append_right _ (List.mem_append_left _ (List.mem_of_getElem? (i := 210) rfl))))) rfl
theorem wT_3_211 : (Cond.fieldLink "ScopeTreeModel" 22 "ScopeTreeModel" "there" "[Z") ∈ aw_TB := aw_tb (List.mem_append_right _ (List.mem_append_right _ (List.mem_append_right _ (List.mem_append_left _ (List.mem_of_getElem? (i := 211) rfl))))) rfl
theorem wT_3_212 : (Cond.fieldLink "ScopeTreeModel" 26 "ScopeTreeModel" "kind" "[I") ∈ aw_TB := aw_tb (List.mem_append_right _ (List.mem_append_right _ (List.mem_append_right _ (List.mem_append_left _ (List.mem_of_getElem? (i := 212) rfl))))) rfl
theorem wT_3_213 : (Cond.fieldLink "ScopeTreeModel" 29 "ScopeTreeModel" "parent" "[I") ∈ aw_TB := aw_tb (List.mem_append_right _ (List.mem_append_right _ (List.mem_append_right _ (List.mem_append_left _ (List.mem_of_getElem? (i := 213) rfl))))) rfl
theorem wT_3_214 : (Cond.fieldLink "ScopeTreeModel" 32 "ScopeTreeModel" "pathLength" "[I") ∈ aw_TB := aw_tb (List.mem_append_right _ (List.mem_append_right _ (List.mem_append_right _ (List.mem_append_left _ (List.mem_of_getElem? (i := 214) rfl))))) rfl
theorem wT_3_215 : (Cond.fieldLink "ScopeTreeModel" 35 "ScopeTreeModel" "filterPackages" "[I") ∈ aw_TB := aw_tb (List.mem_append_right _ (List.mem_append_right _ (List.mem_append_right _ (List.mem_append_left _ (List.mem_of_getElem? (i := 215) rfl))))) rfl
theorem wT_3_216 : (Cond.fieldLink "ScopeTreeModel" 38 "ScopeTreeModel" "filterAllowed" "[J") ∈ aw_TB := aw_tb (List.mem_append_right _ (List.mem_append_right _ (List.mem_append_right _ (List.mem_append_left _ (List.mem_of_getElem? (i := 216) rfl))))) rfl
theorem wT_3_217 : (Cond.fieldLink "ScopeTreeModel" 42 "ScopeTreeModel" "filterDenied" "[J") ∈ aw_TB := aw_tb (List.mem_append_right _ (List.mem_append_right _ (List.mem_append_right _ (List.mem_append_left _ (List.mem_of_getElem? (i := 217) rfl))))) rfl
theorem wT_3_218 : (Cond.fieldLink "ScopeTreeModel" 45 "ScopeTreeModel" "scopes" "I") ∈ aw_TB := aw_tb (List.mem_append_right _ (List.mem_append_right _ (List.mem_append_right _ (List.mem_append_left _ (List.mem_of_getElem? (i := 218) rfl))))) rfl
theorem wT_3_219 : (Cond.fieldLink "ScopeTreeModel" 49 "ScopeTreeModel" "state" "[I") ∈ aw_TB := aw_tb (List.mem_append_right _ (List.mem_append_right _ (List.mem_append_right _ (List.mem_append_left _ (List.mem_of_getElem? (i := 219) rfl))))) rfl
theorem wT_3_220 : (Cond.fieldLink "ScopeTreeModel" 52 "ScopeTreeModel" "above" "[I") ∈ aw_TB := aw_tb (List.mem_append_right _ (List.mem_append_right _ (List.mem_append_right _ (List.mem_append_left _ (List.mem_of_getElem? (i := 220) rfl))))) rfl
theorem wT_3_221 : (Cond.fieldLink "ScopeTreeModel" 55 "ScopeTreeModel" "paths" "[I") ∈ aw_TB := aw_tb (List.mem_append_right _ (List.mem_append_right _ (List.mem_append_right _ (List.mem_append_left _ (List.mem_of_getElem? (i := 221) rfl))))) rfl
theorem wT_3_222 : (Cond.fieldLink "ScopeTreeModel" 58 "ScopeTreeModel" "lengths" "[I") ∈ aw_TB := aw_tb (List.mem_append_right _ (List.mem_append_right _ (List.mem_append_right _ (List.mem_append_left _ (List.mem_of_getElem? (i := 222) rfl))))) rfl
theorem wT_3_223 : (Cond.fieldLink "ScopeTreeModel" 61 "ScopeTreeModel" "filtered" "[Z") ∈ aw_TB := aw_tb (List.mem_append_right _ (List.mem_append_right _ (List.mem_append_right _ (List.mem_append_left _ (List.mem_of_getElem? (i := 223) rfl))))) rfl
theorem wT_3_224 : (Cond.fieldLink "ScopeTreeModel" 64 "ScopeTreeModel" "packages" "[I") ∈ aw_TB := aw_tb (List.mem_append_right _ (List.mem_append_right _ (List.mem_append_right _ (List.mem_append_left _ (List.mem_of_getElem? (i := 224) rfl))))) rfl
theorem wT_3_225 : (Cond.fieldLink "ScopeTreeModel" 67 "ScopeTreeModel" "allowed" "[J") ∈ aw_TB := aw_tb (List.mem_append_right _ (List.mem_append_right _ (List.mem_append_right _ (List.mem_append_left _ (List.mem_of_getElem? (i := 225) rfl))))) rfl
theorem wT_3_226 : (Cond.fieldLink "ScopeTreeModel" 70 "ScopeTreeModel" "denied" "[J") ∈ aw_TB := aw_tb (List.mem_append_right _ (List.mem_append_right _ (List.mem_append_right _ (List.mem_append_left _ (List.mem_of_getElem? (i := 226) rfl))))) rfl
theorem wT_3_227 : (Cond.fieldLink "ScopeTreeModel" 73 "ScopeTreeModel" "three" "[I") ∈ aw_TB := aw_tb (List.mem_append_right _ (List.mem_append_right _ (List.mem_append_right _ (List.mem_append_left _ (List.mem_of_getElem? (i := 227) rfl))))) rfl
theorem wT_3_228 : (Cond.fieldLink "ScopeTreeModel" 76 "ScopeTreeModel" "applied" "[I") ∈ aw_TB := aw_tb (List.mem_append_right _ (List.mem_append_right _ (List.mem_append_right _ (List.mem_append_left _ (List.mem_of_getElem? (i := 228) rfl))))) rfl
theorem wT_3_229 : (Cond.fieldLink "ScopeTreeModel" 79 "ScopeTreeModel" "appliedCount" "[I") ∈ aw_TB := aw_tb (List.mem_append_right _ (List.mem_append_right _ (List.mem_append_right _ (List.mem_append_left _ (List.mem_of_getElem? (i := 229) rfl))))) rfl
theorem wT_3_230 : (Cond.fieldLink "ScopeTreeModel" 82 "ScopeTreeModel" "classes" "I") ∈ aw_TB := aw_tb (List.mem_append_right _ (List.mem_append_right _ (List.mem_append_right _ (List.mem_append_left _ (List.mem_of_getElem? (i := 230) rfl))))) rfl
theorem wT_3_231 : (Cond.fieldLink "ScopeTreeModel" 85 "ScopeTreeModel" "nameOf" "[I") ∈ aw_TB := aw_tb (List.mem_append_right _ (List.mem_append_right _ (List.mem_append_right _ (List.mem_append_left _ (List.mem_of_getElem? (i := 231) rfl))))) rfl
theorem wT_3_232 : (Cond.fieldLink "ScopeTreeModel" 88 "ScopeTreeModel" "loaderOf" "[I") ∈ aw_TB := aw_tb (List.mem_append_right _ (List.mem_append_right _ (List.mem_append_right _ (List.mem_append_left _ (List.mem_of_getElem? (i := 232) rfl))))) rfl
theorem wT_3_233 : (Cond.fieldLink "ScopeTreeModel" 91 "ScopeTreeModel" "versionOf" "[I") ∈ aw_TB := aw_tb (List.mem_append_right _ (List.mem_append_right _ (List.mem_append_right _ (List.mem_append_left _ (List.mem_of_getElem? (i := 233) rfl))))) rfl
theorem wT_3_234 : (Cond.fieldLink "ScopeTreeModel" 94 "ScopeTreeModel" "superOf" "[I") ∈ aw_TB := aw_tb (List.mem_append_right _ (List.mem_append_right _ (List.mem_append_right _ (List.mem_append_left _ (List.mem_of_getElem? (i := 234) rfl))))) rfl
theorem wT_3_235 : (Cond.fieldLink "ScopeTreeModel" 163 "ScopeTreeModel" "foundLoader" "I") ∈ aw_TB := aw_tb (List.mem_append_right _ (List.mem_append_right _ (List.mem_append_right _ (List.mem_append_left _ (List.mem_of_getElem? (i := 235) rfl))))) rfl
theorem wT_3_236 : (Cond.fieldLink "ScopeTreeModel" 157 "ScopeTreeModel" "foundFile" "I") ∈ aw_TB := aw_tb (List.mem_append_right _ (List.mem_append_right _ (List.mem_append_right _ (List.mem_append_left _ (List.mem_of_getElem? (i := 236) rfl))))) rfl
theorem wT_3_237 : (Cond.fieldLink "ScopeTreeModel" 97 "ScopeTreeModel" "waitingLoader" "[I") ∈ aw_TB := aw_tb (List.mem_append_right _ (List.mem_append_right _ (List.mem_append_right _ (List.mem_append_left _ (List.mem_of_getElem? (i := 237) rfl))))) rfl
theorem wT_3_238 : (Cond.fieldLink "ScopeTreeModel" 100 "ScopeTreeModel" "waitingFile" "[I") ∈ aw_TB := aw_tb (List.mem_append_right _ (List.mem_append_right _ (List.mem_append_right _ (List.mem_append_left _ (List.mem_of_getElem? (i := 238) rfl))))) rfl
theorem wT_3_239 : (Cond.lays "ScopeTreeModel" "ScopeTreeModel" "thrown" "I") ∈ aw_TB := aw_tb (List.mem_append_right _ (List.mem_append_right _ (List.mem_append_right _ (List.mem_append_left _ (List.mem_of_getElem? (i := 239) rfl))))) rfl
theorem wT_4_0 : (Cond.soleField "ScopeTreeModel" "thrown") ∈ aw_TB := aw_tb (List.mem_append_right _ (List.mem_append_right _ (List.mem_append_right _ (List.mem_append_right _ (List.mem_of_getElem? (i := 0) rfl))))) rfl
theorem wT_4_1 : (Cond.laysFinal "ScopeTreeModel" "ScopeTreeModel" "files" "[I") ∈ aw_TB := aw_tb (List.mem_append_right _ (List.mem_append_right _ (List.mem_append_right _ (List.mem_append_right _ (List.mem_of_getElem? (i := 1) rfl))))) rfl
theorem wT_4_2 : (Cond.soleField "ScopeTreeModel" "files") ∈ aw_TB := aw_tb (List.mem_append_right _ (List.mem_append_right _ (List.mem_append_right _ (List.mem_append_right _ (List.mem_of_getElem? (i := 2) rfl))))) rfl
theorem wT_4_3 : (Cond.laysFinal "ScopeTreeModel" "ScopeTreeModel" "file" "[I") ∈ aw_TB := aw_tb (List.mem_append_right _ (List.mem_append_right _ (List.mem_append_right _ (List.mem_append_right _ (List.mem_of_getElem? (i := 3) rfl))))) rfl
theorem wT_4_4 : (Cond.soleField "ScopeTreeModel" "file") ∈ aw_TB := aw_tb (List.mem_append_right _ (List.mem_append_right _ (List.mem_append_right _ (List.mem_append_right _ (List.mem_of_getElem? (i := 4) rfl))))) rfl
theorem wT_4_5 : (Cond.laysFinal "ScopeTreeModel" "ScopeTreeModel" "descriptors" "[I") ∈ aw_TB := aw_tb (List.mem_append_right _ (List.mem_append_right _ (List.mem_append_right _ (List.mem_append_right _ (List.mem_of_getElem? (i := 5) rfl))))) rfl
theorem wT_4_6 : (Cond.soleField "ScopeTreeModel" "descriptors") ∈ aw_TB := aw_tb (List.mem_append_right _ (List.mem_append_right _ (List.mem_append_right _ (List.mem_append_right _ (List.mem_of_getElem? (i := 6) rfl))))) rfl
theorem wT_4_7 : (Cond.laysFinal "ScopeTreeModel" "ScopeTreeModel" "descriptor" "[I") ∈ aw_TB := aw_tb (List.mem_append_right _ (List.mem_append_right _ (List.mem_append_right _ (List.mem_append_right _ (List.mem_of_getElem? (i := 7) rfl))))) rfl
theorem wT_4_8 : (Cond.soleField "ScopeTreeModel" "descriptor") ∈ aw_TB := aw_tb (List.mem_append_right _ (List.mem_append_right _ (List.mem_append_right _ (List.mem_append_right _ (List.mem_of_getElem? (i := 8) rfl))))) rfl
theorem wT_4_9 : (Cond.laysFinal "ScopeTreeModel" "ScopeTreeModel" "there" "[Z") ∈ aw_TB := aw_tb (List.mem_append_right _ (List.mem_append_right _ (List.mem_append_right _ (List.mem_append_right _ (List.mem_of_getElem? (i := 9) rfl))))) rfl
theorem wT_4_10 : (Cond.soleField "ScopeTreeModel" "there") ∈ aw_TB := aw_tb (List.mem_append_right _ (List.mem_append_right _ (List.mem_append_right _ (List.mem_append_right _ (List.mem_of_getElem? (i := 10) rfl))))) rfl
theorem wT_4_11 : (Cond.laysFinal "ScopeTreeModel" "ScopeTreeModel" "kind" "[I") ∈ aw_TB := aw_tb (List.mem_append_right _ (List.mem_append_right _ (List.mem_append_right _ (List.mem_append_right _ (List.mem_of_getElem? (i := 11) rfl))))) rfl
theorem wT_4_12 : (Cond.soleField "ScopeTreeModel" "kind") ∈ aw_TB := aw_tb (List.mem_append_right _ (List.mem_append_right _ (List.mem_append_right _ (List.mem_append_right _ (List.mem_of_getElem? (i := 12) rfl))))) rfl
theorem wT_4_13 : (Cond.laysFinal "ScopeTreeModel" "ScopeTreeModel" "parent" "[I") ∈ aw_TB := aw_tb (List.mem_append_right _ (List.mem_append_right _ (List.mem_append_right _ (List.mem_append_right _ (List.mem_of_getElem? (i := 13) rfl))))) rfl
theorem wT_4_14 : (Cond.soleField "ScopeTreeModel" "parent") ∈ aw_TB := aw_tb (List.mem_append_right _ (List.mem_append_right _ (List.mem_append_right _ (List.mem_append_right _ (List.mem_of_getElem? (i := 14) rfl))))) rfl
theorem wT_4_15 : (Cond.laysFinal "ScopeTreeModel" "ScopeTreeModel" "pathLength" "[I") ∈ aw_TB := aw_tb (List.mem_append_right _ (List.mem_append_right _ (List.mem_append_right _ (List.mem_append_right _ (List.mem_of_getElem? (i := 15) rfl))))) rfl
theorem wT_4_16 : (Cond.soleField "ScopeTreeModel" "pathLength") ∈ aw_TB := aw_tb (List.mem_append_right _ (List.mem_append_right _ (List.mem_append_right _ (List.mem_append_right _ (List.mem_of_getElem? (i := 16) rfl))))) rfl
theorem wT_4_17 : (Cond.laysFinal "ScopeTreeModel" "ScopeTreeModel" "filterPackages" "[I") ∈ aw_TB := aw_tb (List.mem_append_right _ (List.mem_append_right _ (List.mem_append_right _ (List.mem_append_right _ (List.mem_of_getElem? (i := 17) rfl))))) rfl
theorem wT_4_18 : (Cond.soleField "ScopeTreeModel" "filterPackages") ∈ aw_TB := aw_tb (List.mem_append_right _ (List.mem_append_right _ (List.mem_append_right _ (List.mem_append_right _ (List.mem_of_getElem? (i := 18) rfl))))) rfl
theorem wT_4_19 : (Cond.laysFinal "ScopeTreeModel" "ScopeTreeModel" "filterAllowed" "[J") ∈ aw_TB := aw_tb (List.mem_append_right _ (List.mem_append_right _ (List.mem_append_right _ (List.mem_append_right _ (List.mem_of_getElem? (i := 19) rfl))))) rfl
theorem wT_4_20 : (Cond.soleField "ScopeTreeModel" "filterAllowed") ∈ aw_TB := aw_tb (List.mem_append_right _ (List.mem_append_right _ (List.mem_append_right _ (List.mem_append_right _ (List.mem_of_getElem? (i := 20) rfl))))) rfl
theorem wT_4_21 : (Cond.laysFinal "ScopeTreeModel" "ScopeTreeModel" "filterDenied" "[J") ∈ aw_TB := aw_tb (List.mem_append_right _ (List.mem_append_right _ (List.mem_append_right _ (List.mem_append_right _ (List.mem_of_getElem? (i := 21) rfl))))) rfl
theorem wT_4_22 : (Cond.soleField "ScopeTreeModel" "filterDenied") ∈ aw_TB := aw_tb (List.mem_append_right _ (List.mem_append_right _ (List.mem_append_right _ (List.mem_append_right _ (List.mem_of_getElem? (i := 22) rfl))))) rfl
theorem wT_4_23 : (Cond.lays "ScopeTreeModel" "ScopeTreeModel" "scopes" "I") ∈ aw_TB := aw_tb (List.mem_append_right _ (List.mem_append_right _ (List.mem_append_right _ (List.mem_append_right _ (List.mem_of_getElem? (i := 23) rfl))))) rfl
theorem wT_4_24 : (Cond.soleField "ScopeTreeModel" "scopes") ∈ aw_TB := aw_tb (List.mem_append_right _ (List.mem_append_right _ (List.mem_append_right _ (List.mem_append_right _ (List.mem_of_getElem? (i := 24) rfl))))) rfl
theorem wT_4_25 : (Cond.laysFinal "ScopeTreeModel" "ScopeTreeModel" "state" "[I") ∈ aw_TB := aw_tb (List.mem_append_right _ (List.mem_append_right _ (List.mem_append_right _ (List.mem_append_right _ (List.mem_of_getElem? (i := 25) rfl))))) rfl
theorem wT_4_26 : (Cond.soleField "ScopeTreeModel" "state") ∈ aw_TB := aw_tb (List.mem_append_right _ (List.mem_append_right _ (List.mem_append_right _ (List.mem_append_right _ (List.mem_of_getElem? (i := 26) rfl))))) rfl
theorem wT_4_27 : (Cond.laysFinal "ScopeTreeModel" "ScopeTreeModel" "above" "[I") ∈ aw_TB := aw_tb (List.mem_append_right _ (List.mem_append_right _ (List.mem_append_right _ (List.mem_append_right _ (List.mem_of_getElem? (i := 27) rfl))))) rfl
theorem wT_4_28 : (Cond.soleField "ScopeTreeModel" "above") ∈ aw_TB := aw_tb (List.mem_append_right _ (List.mem_append_right _ (List.mem_append_right _ (List.mem_append_right _ (List.mem_of_getElem? (i := 28) rfl))))) rfl
theorem wT_4_29 : (Cond.laysFinal "ScopeTreeModel" "ScopeTreeModel" "paths" "[I") ∈ aw_TB := aw_tb (List.mem_append_right _ (List.mem_append_right _ (List.mem_append_right _ (List.mem_append_right _ (List.mem_of_getElem? (i := 29) rfl))))) rfl
theorem wT_4_30 : (Cond.soleField "ScopeTreeModel" "paths") ∈ aw_TB := aw_tb (List.mem_append_right _ (List.mem_append_right _ (List.mem_append_right _ (List.mem_append_right _ (List.mem_of_getElem? (i := 30) rfl))))) rfl
theorem wT_4_31 : (Cond.laysFinal "ScopeTreeModel" "ScopeTreeModel" "lengths" "[I") ∈ aw_TB := aw_tb (List.mem_append_right _ (List.mem_append_right _ (List.mem_append_right _ (List.mem_append_right _ (List.mem_of_getElem? (i := 31) rfl))))) rfl
theorem wT_4_32 : (Cond.soleField "ScopeTreeModel" "lengths") ∈ aw_TB := aw_tb (List.mem_append_right _ (List.mem_append_right _ (List.mem_append_right _ (List.mem_append_right _ (List.mem_of_getElem? (i := 32) rfl))))) rfl
theorem wT_4_33 : (Cond.laysFinal "ScopeTreeModel" "ScopeTreeModel" "filtered" "[Z") ∈ aw_TB := aw_tb (List.mem_append_right _ (List.mem_append_right _ (List.mem_append_right _ (List.mem_append_right _ (List.mem_of_getElem? (i := 33) rfl))))) rfl
theorem wT_4_34 : (Cond.soleField "ScopeTreeModel" "filtered") ∈ aw_TB := aw_tb (List.mem_append_right _ (List.mem_append_right _ (List.mem_append_right _ (List.mem_append_right _ (List.mem_of_getElem? (i := 34) rfl))))) rfl
theorem wT_4_35 : (Cond.laysFinal "ScopeTreeModel" "ScopeTreeModel" "packages" "[I") ∈ aw_TB := aw_tb (List.mem_append_right _ (List.mem_append_right _ (List.mem_append_right _ (List.mem_append_right _ (List.mem_of_getElem? (i := 35) rfl))))) rfl
theorem wT_4_36 : (Cond.soleField "ScopeTreeModel" "packages") ∈ aw_TB := aw_tb (List.mem_append_right _ (List.mem_append_right _ (List.mem_append_right _ (List.mem_append_right _ (List.mem_of_getElem? (i := 36) rfl))))) rfl
theorem wT_4_37 : (Cond.laysFinal "ScopeTreeModel" "ScopeTreeModel" "allowed" "[J") ∈ aw_TB := aw_tb (List.mem_append_right _ (List.mem_append_right _ (List.mem_append_right _ (List.mem_append_right _ (List.mem_of_getElem? (i := 37) rfl))))) rfl
theorem wT_4_38 : (Cond.soleField "ScopeTreeModel" "allowed") ∈ aw_TB := aw_tb (List.mem_append_right _ (List.mem_append_right _ (List.mem_append_right _ (List.mem_append_right _ (List.mem_of_getElem? (i := 38) rfl))))) rfl
theorem wT_4_39 : (Cond.laysFinal "ScopeTreeModel" "ScopeTreeModel" "denied" "[J") ∈ aw_TB := aw_tb (List.mem_append_right _ (List.mem_append_right _ (List.mem_append_right _ (List.mem_append_right _ (List.mem_of_getElem? (i := 39) rfl))))) rfl
theorem wT_4_40 : (Cond.soleField "ScopeTreeModel" "denied") ∈ aw_TB := aw_tb (List.mem_append_right _ (List.mem_append_right _ (List.mem_append_right _ (List.mem_append_right _ (List.mem_of_getElem? (i := 40) rfl))))) rfl
theorem wT_4_41 : (Cond.laysFinal "ScopeTreeModel" "ScopeTreeModel" "three" "[I") ∈ aw_TB := aw_tb (List.mem_append_right _ (List.mem_append_right _ (List.mem_append_right _ (List.mem_append_right _ (List.mem_of_getElem? (i := 41) rfl))))) rfl
theorem wT_4_42 : (Cond.soleField "ScopeTreeModel" "three") ∈ aw_TB := aw_tb (List.mem_append_right _ (List.mem_append_right _ (List.mem_append_right _ (List.mem_append_right _ (List.mem_of_getElem? (i := 42) rfl))))) rfl
theorem wT_4_43 : (Cond.laysFinal "ScopeTreeModel" "ScopeTreeModel" "applied" "[I") ∈ aw_TB := aw_tb (List.mem_append_right _ (List.mem_append_right _ (List.mem_append_right _ (List.mem_append_right _ (List.mem_of_getElem? (i := 43) rfl))))) rfl
theorem wT_4_44 : (Cond.soleField "ScopeTreeModel" "applied") ∈ aw_TB := aw_tb (List.mem_append_right _ (List.mem_append_right _ (List.mem_append_right _ (List.mem_append_right _ (List.mem_of_getElem? (i := 44) rfl))))) rfl
theorem wT_4_45 : (Cond.laysFinal "ScopeTreeModel" "ScopeTreeModel" "appliedCount" "[I") ∈ aw_TB := aw_tb (List.mem_append_right _ (List.mem_append_right _ (List.mem_append_right _ (List.mem_append_right _ (List.mem_of_getElem? (i := 45) rfl))))) rfl
theorem wT_4_46 : (Cond.soleField "ScopeTreeModel" "appliedCount") ∈ aw_TB := aw_tb (List.mem_append_right _ (List.mem_append_right _ (List.mem_append_right _ (List.mem_append_right _ (List.mem_of_getElem? (i := 46) rfl))))) rfl
theorem wT_4_47 : (Cond.lays "ScopeTreeModel" "ScopeTreeModel" "classes" "I") ∈ aw_TB := aw_tb (List.mem_append_right _ (List.mem_append_right _ (List.mem_append_right _ (List.mem_append_right _ (List.mem_of_getElem? (i := 47) rfl))))) rfl
theorem wT_4_48 : (Cond.soleField "ScopeTreeModel" "classes") ∈ aw_TB := aw_tb (List.mem_append_right _ (List.mem_append_right _ (List.mem_append_right _ (List.mem_append_right _ (List.mem_of_getElem? (i := 48) rfl))))) rfl
theorem wT_4_49 : (Cond.laysFinal "ScopeTreeModel" "ScopeTreeModel" "nameOf" "[I") ∈ aw_TB := aw_tb (List.mem_append_right _ (List.mem_append_right _ (List.mem_append_right _ (List.mem_append_right _ (List.mem_of_getElem? (i := 49) rfl))))) rfl
theorem wT_4_50 : (Cond.soleField "ScopeTreeModel" "nameOf") ∈ aw_TB := aw_tb (List.mem_append_right _ (List.mem_append_right _ (List.mem_append_right _ (List.mem_append_right _ (List.mem_of_getElem? (i := 50) rfl))))) rfl
theorem wT_4_51 : (Cond.laysFinal "ScopeTreeModel" "ScopeTreeModel" "loaderOf" "[I") ∈ aw_TB := aw_tb (List.mem_append_right _ (List.mem_append_right _ (List.mem_append_right _ (List.mem_append_right _ (List.mem_of_getElem? (i := 51) rfl))))) rfl
theorem wT_4_52 : (Cond.soleField "ScopeTreeModel" "loaderOf") ∈ aw_TB := aw_tb (List.mem_append_right _ (List.mem_append_right _ (List.mem_append_right _ (List.mem_append_right _ (List.mem_of_getElem? (i := 52) rfl))))) rfl
theorem wT_4_53 : (Cond.laysFinal "ScopeTreeModel" "ScopeTreeModel" "versionOf" "[I") ∈ aw_TB := aw_tb (List.mem_append_right _ (List.mem_append_right _ (List.mem_append_right _ (List.mem_append_right _ (List.mem_of_getElem? (i := 53) rfl))))) rfl
theorem wT_4_54 : (Cond.soleField "ScopeTreeModel" "versionOf") ∈ aw_TB := aw_tb (List.mem_append_right _ (List.mem_append_right _ (List.mem_append_right _ (List.mem_append_right _ (List.mem_of_getElem? (i := 54) rfl))))) rfl
theorem wT_4_55 : (Cond.laysFinal "ScopeTreeModel" "ScopeTreeModel" "superOf" "[I") ∈ aw_TB := aw_tb (List.mem_append_right _ (List.mem_append_right _ (List.mem_append_right _ (List.mem_append_right _ (List.mem_of_getElem? (i := 55) rfl))))) rfl
theorem wT_4_56 : (Cond.soleField "ScopeTreeModel" "superOf") ∈ aw_TB := aw_tb (List.mem_append_right _ (List.mem_append_right _ (List.mem_append_right _ (List.mem_append_right _ (List.mem_of_getElem? (i := 56) rfl))))) rfl
theorem wT_4_57 : (Cond.lays "ScopeTreeModel" "ScopeTreeModel" "foundLoader" "I") ∈ aw_TB := aw_tb (List.mem_append_right _ (List.mem_append_right _ (List.mem_append_right _ (List.mem_append_right _ (List.mem_of_getElem? (i := 57) rfl))))) rfl
theorem wT_4_58 : (Cond.soleField "ScopeTreeModel" "foundLoader") ∈ aw_TB := aw_tb (List.mem_append_right _ (List.mem_append_right _ (List.mem_append_right _ (List.mem_append_right _ (List.mem_of_getElem? (i := 58) rfl))))) rfl
theorem wT_4_59 : (Cond.lays "ScopeTreeModel" "ScopeTreeModel" "foundFile" "I") ∈ aw_TB := aw_tb (List.mem_append_right _ (List.mem_append_right _ (List.mem_append_right _ (List.mem_append_right _ (List.mem_of_getElem? (i := 59) rfl))))) rfl
theorem wT_4_60 : (Cond.soleField "ScopeTreeModel" "foundFile") ∈ aw_TB := aw_tb (List.mem_append_right _ (List.mem_append_right _ (List.mem_append_right _ (List.mem_append_right _ (List.mem_of_getElem? (i := 60) rfl))))) rfl
theorem wT_4_61 : (Cond.laysFinal "ScopeTreeModel" "ScopeTreeModel" "waitingLoader" "[I") ∈ aw_TB := aw_tb (List.mem_append_right _ (List.mem_append_right _ (List.mem_append_right _ (List.mem_append_right _ (List.mem_of_getElem? (i := 61) rfl))))) rfl
theorem wT_4_62 : (Cond.soleField "ScopeTreeModel" "waitingLoader") ∈ aw_TB := aw_tb (List.mem_append_right _ (List.mem_append_right _ (List.mem_append_right _ (List.mem_append_right _ (List.mem_of_getElem? (i := 62) rfl))))) rfl
theorem wT_4_63 : (Cond.laysFinal "ScopeTreeModel" "ScopeTreeModel" "waitingFile" "[I") ∈ aw_TB := aw_tb (List.mem_append_right _ (List.mem_append_right _ (List.mem_append_right _ (List.mem_append_right _ (List.mem_of_getElem? (i := 63) rfl))))) rfl
theorem wT_4_64 : (Cond.soleField "ScopeTreeModel" "waitingFile") ∈ aw_TB := aw_tb (List.mem_append_right _ (List.mem_append_right _ (List.mem_append_right _ (List.mem_append_right _ (List.mem_of_getElem? (i := 64) rfl))))) rfl
theorem wT_4_65 : (Cond.superclass "ScopeTreeModel" "java/lang/Object") ∈ aw_TB := aw_tb (List.mem_append_right _ (List.mem_append_right _ (List.mem_append_right _ (List.mem_append_right _ (List.mem_of_getElem? (i := 65) rfl))))) rfl
theorem wT_4_66 : (Cond.arrayClass .boolean) ∈ aw_TB := aw_tb (List.mem_append_right _ (List.mem_append_right _ (List.mem_append_right _ (List.mem_append_right _ (List.mem_of_getElem? (i := 66) rfl))))) rfl
theorem wT_4_67 : (Cond.arrayClass .long) ∈ aw_TB := aw_tb (List.mem_append_right _ (List.mem_append_right _ (List.mem_append_right _ (List.mem_append_right _ (List.mem_of_getElem? (i := 67) rfl))))) rfl
theorem wT_4_68 : (Cond.methodLink "ScopeTreeLaw" 78 ⟨"ScopeTreeModel", "thrown", "()I"⟩) ∈ aw_TB := aw_tb (List.mem_append_right _ (List.mem_append_right _ (List.mem_append_right _ (List.mem_append_right _ (List.mem_of_getElem? (i := 68) rfl))))) rfl
theorem wT_4_69 : (Cond.instanceMethod ⟨"ScopeTreeModel", "thrown", "()I"⟩) ∈ aw_TB := aw_tb (List.mem_append_right _ (List.mem_append_right _ (List.mem_append_right _ (List.mem_append_right _ (List.mem_of_getElem? (i := 69) rfl))))) rfl
theorem wT_4_70 : (Cond.selects "ScopeTreeModel" ⟨"ScopeTreeModel", "thrown", "()I"⟩ ⟨"ScopeTreeModel", "thrown", "()I"⟩) ∈ aw_TB := aw_tb (List.mem_append_right _ (List.mem_append_right _ (List.mem_append_right _ (List.mem_append_right _ (List.mem_of_getElem? (i := 70) rfl))))) rfl
theorem wT_4_71 : (Cond.code ⟨"ScopeTreeModel", "thrown", "()I"⟩ prog_12_method_2_code 1 (some .int)) ∈ aw_TB := aw_tb (List.mem_append_right _ (List.mem_append_right _ (List.mem_append_right _ (List.mem_append_right _ (List.mem_of_getElem? (i := 71) rfl))))) rfl
theorem wT_4_72 : (Cond.methodLink "ScopeTreeLaw" 77 ⟨"ScopeTreeModel", "file", "(IIII)I"⟩) ∈ aw_TB := aw_tb (List.mem_append_right _ (List.mem_append_right _ (List.mem_append_right _ (List.mem_append_right _ (List.mem_of_getElem? (i := 72) rfl))))) rfl
theorem wT_4_73 : (Cond.instanceMethod ⟨"ScopeTreeModel", "file", "(IIII)I"⟩) ∈ aw_TB := aw_tb (List.mem_append_right _ (List.mem_append_right _ (List.mem_append_right _ (List.mem_append_right _ (List.mem_of_getElem? (i := 73) rfl))))) rfl
theorem wT_4_74 : (Cond.selects "ScopeTreeModel" ⟨"ScopeTreeModel", "file", "(IIII)I"⟩ ⟨"ScopeTreeModel", "file", "(IIII)I"⟩) ∈ aw_TB := aw_tb (List.mem_append_right _ (List.mem_append_right _ (List.mem_append_right _ (List.mem_append_right _ (List.mem_of_getElem? (i := 74) rfl))))) rfl
theorem wT_4_75 : (Cond.code ⟨"ScopeTreeModel", "file", "(IIII)I"⟩ prog_12_method_5_code 7 (some .int)) ∈ aw_TB := aw_tb (List.mem_append_right _ (List.mem_append_right _ (List.mem_append_right _ (List.mem_append_right _ (List.mem_of_getElem? (i := 75) rfl))))) rfl
theorem wT_4_76 : (Cond.methodLink "ScopeTreeModel" 106 ⟨"ScopeTreeModel", "in", "(III)Z"⟩) ∈ aw_TB := aw_tb (List.mem_append_right _ (List.mem_append_right _ (List.mem_append_right _ (List.mem_append_right _ (List.mem_of_getElem? (i := 76) rfl))))) rfl
theorem wT_4_77 : (Cond.static ⟨"ScopeTreeModel", "in", "(III)Z"⟩) ∈ aw_TB := aw_tb (List.mem_append_right _ (List.mem_append_right _ (List.mem_append_right _ (List.mem_append_right _ (List.mem_of_getElem? (i := 77) rfl))))) rfl
theorem wT_4_78 : (Cond.code ⟨"ScopeTreeModel", "in", "(III)Z"⟩ prog_12_method_4_code 3 (some .boolean)) ∈ aw_TB := aw_tb (List.mem_append_right _ (List.mem_append_right _ (List.mem_append_right _ (List.mem_append_right _ (List.mem_of_getElem? (i := 78) rfl))))) rfl
theorem wT_4_79 : (Cond.methodLink "ScopeTreeModel" 110 ⟨"ScopeTreeModel", "fails", "(ZI)Z"⟩) ∈ aw_TB := aw_tb (List.mem_append_right _ (List.mem_append_right _ (List.mem_append_right _ (List.mem_append_right _ (List.mem_of_getElem? (i := 79) rfl))))) rfl
theorem wT_4_81 : (Cond.instanceMethod ⟨"ScopeTreeModel", "fails", "(ZI)Z"⟩) ∈ aw_TB := aw_tb (List.mem_append_right _ (List.mem_append_right _ (List.mem_append_right _ (List.mem_append_right _ (List.mem_of_getElem? (i := 81) rfl))))) rfl
theorem wT_4_82 : (Cond.code ⟨"ScopeTreeModel", "fails", "(ZI)Z"⟩ prog_12_method_3_code 3 (some .boolean)) ∈ aw_TB := aw_tb (List.mem_append_right _ (List.mem_append_right _ (List.mem_append_right _ (List.mem_append_right _ (List.mem_of_getElem? (i := 82) rfl))))) rfl
theorem wT_4_83 : (Cond.methodLink "ScopeTreeLaw" 85 ⟨"ScopeTreeModel", "descriptor", "(III)I"⟩) ∈ aw_TB := aw_tb (List.mem_append_right _ (List.mem_append_right _ (List.mem_append_right _ (List.mem_append_right _ (List.mem_of_getElem? (i := 83) rfl))))) rfl
theorem wT_4_84 : (Cond.instanceMethod ⟨"ScopeTreeModel", "descriptor", "(III)I"⟩) ∈ aw_TB := aw_tb (List.mem_append_right _ (List.mem_append_right _ (List.mem_append_right _ (List.mem_append_right _ (List.mem_of_getElem? (i := 84) rfl))))) rfl
theorem wT_4_85 : (Cond.selects "ScopeTreeModel" ⟨"ScopeTreeModel", "descriptor", "(III)I"⟩ ⟨"ScopeTreeModel", "descriptor", "(III)I"⟩) ∈ aw_TB := aw_tb (List.mem_append_right _ (List.mem_append_right _ (List.mem_append_right _ (List.mem_append_right _ (List.mem_of_getElem? (i := 85) rfl))))) rfl
theorem wT_4_86 : (Cond.code ⟨"ScopeTreeModel", "descriptor", "(III)I"⟩ prog_12_method_6_code 5 (some .int)) ∈ aw_TB := aw_tb (List.mem_append_right _ (List.mem_append_right _ (List.mem_append_right _ (List.mem_append_right _ (List.mem_of_getElem? (i := 86) rfl))))) rfl
theorem wT_4_87 : (Cond.methodLink "ScopeTreeLaw" 89 ⟨"ScopeTreeModel", "wipe", "(I)V"⟩) ∈ aw_TB := aw_tb (List.mem_append_right _ (List.mem_append_right _ (List.mem_append_right _ (List.mem_append_right _ (List.mem_of_getElem? (i := 87) rfl))))) rfl
theorem wT_4_88 : (Cond.instanceMethod ⟨"ScopeTreeModel", "wipe", "(I)V"⟩) ∈ aw_TB := aw_tb (List.mem_append_right _ (List.mem_append_right _ (List.mem_append_right _ (List.mem_append_right _ (List.mem_of_getElem? (i := 88) rfl))))) rfl
theorem wT_4_89 : (Cond.selects "ScopeTreeModel" ⟨"ScopeTreeModel", "wipe", "(I)V"⟩ ⟨"ScopeTreeModel", "wipe", "(I)V"⟩) ∈ aw_TB := aw_tb (List.mem_append_right _ (List.mem_append_right _ (List.mem_append_right _ (List.mem_append_right _ (List.mem_of_getElem? (i := 89) rfl))))) rfl
theorem wT_4_90 : (Cond.code ⟨"ScopeTreeModel", "wipe", "(I)V"⟩ prog_12_method_7_code 2 none) ∈ aw_TB := aw_tb (List.mem_append_right _ (List.mem_append_right _ (List.mem_append_right _ (List.mem_append_right _ (List.mem_of_getElem? (i := 90) rfl))))) rfl
theorem wT_4_91 : (Cond.methodLink "ScopeTreeLaw" 93 ⟨"ScopeTreeModel", "child", "(I)I"⟩) ∈ aw_TB := aw_tb (List.mem_append_right _ (List.mem_append_right _ (List.mem_append_right _ (List.mem_append_right _ (List.mem_of_getElem? (i := 91) rfl))))) rfl
theorem wT_4_92 : (Cond.instanceMethod ⟨"ScopeTreeModel", "child", "(I)I"⟩) ∈ aw_TB := aw_tb (List.mem_append_right _ (List.mem_append_right _ (List.mem_append_right _ (List.mem_append_right _ (List.mem_of_getElem? (i := 92) rfl))))) rfl
theorem wT_4_93 : (Cond.selects "ScopeTreeModel" ⟨"ScopeTreeModel", "child", "(I)I"⟩ ⟨"ScopeTreeModel", "child", "(I)I"⟩) ∈ aw_TB := aw_tb (List.mem_append_right _ (List.mem_append_right _ (List.mem_append_right _ (List.mem_append_right _ (List.mem_of_getElem? (i := 93) rfl))))) rfl
theorem wT_4_94 : (Cond.code ⟨"ScopeTreeModel", "child", "(I)I"⟩ prog_12_method_21_code 2 (some .int)) ∈ aw_TB := aw_tb (List.mem_append_right _ (List.mem_append_right _ (List.mem_append_right _ (List.mem_append_right _ (List.mem_of_getElem? (i := 94) rfl))))) rfl
theorem wT_4_95 : (Cond.methodLink "ScopeTreeModel" 140 ⟨"ScopeTreeModel", "noScope", "(I)Z"⟩) ∈ aw_TB := aw_tb (List.mem_append_right _ (List.mem_append_right _ (List.mem_append_right _ (List.mem_append_right _ (List.mem_of_getElem? (i := 95) rfl))))) rfl
theorem wT_4_97 : (Cond.instanceMethod ⟨"ScopeTreeModel", "noScope", "(I)Z"⟩) ∈ aw_TB := aw_tb (List.mem_append_right _ (List.mem_append_right _ (List.mem_append_right _ (List.mem_append_right _ (List.mem_of_getElem? (i := 97) rfl))))) rfl
theorem wT_4_98 : (Cond.code ⟨"ScopeTreeModel", "noScope", "(I)Z"⟩ prog_12_method_20_code 2 (some .boolean)) ∈ aw_TB := aw_tb (List.mem_append_right _ (List.mem_append_right _ (List.mem_append_right _ (List.mem_append_right _ (List.mem_of_getElem? (i := 98) rfl))))) rfl
theorem wT_4_99 : (Cond.methodLink "ScopeTreeLaw" 97 ⟨"ScopeTreeModel", "add", "(IIZ)Z"⟩) ∈ aw_TB := aw_tb (List.mem_append_right _ (List.mem_append_right _ (List.mem_append_right _ (List.mem_append_right _ (List.mem_of_getElem? (i := 99) rfl))))) rfl
theorem wT_4_100 : (Cond.instanceMethod ⟨"ScopeTreeModel", "add", "(IIZ)Z"⟩) ∈ aw_TB := aw_tb (List.mem_append_right _ (List.mem_append_right _ (List.mem_append_right _ (List.mem_append_right _ (List.mem_of_getElem? (i := 100) rfl))))) rfl
theorem wT_4_101 : (Cond.selects "ScopeTreeModel" ⟨"ScopeTreeModel", "add", "(IIZ)Z"⟩ ⟨"ScopeTreeModel", "add", "(IIZ)Z"⟩) ∈ aw_TB := aw_tb (List.mem_append_right _ (List.mem_append_right _ (List.mem_append_right _ (List.mem_append_right _ (List.mem_of_getElem? (i := 101) rfl))))) rfl
theorem wT_4_102 : (Cond.code ⟨"ScopeTreeModel", "add", "(IIZ)Z"⟩ prog_12_method_22_code 7 (some .boolean)) ∈ aw_TB := aw_tb (List.mem_append_right _ (List.mem_append_right _ (List.mem_append_right _ (List.mem_append_right _ (List.mem_of_getElem? (i := 102) rfl))))) rfl
theorem wT_4_103 : (Cond.methodLink "ScopeTreeLaw" 103 ⟨"ScopeTreeModel", "filter", "(IIJJ)V"⟩) ∈ aw_TB := aw_tb (List.mem_append_right _ (List.mem_append_right _ (List.mem_append_right _ (List.mem_append_right _ (List.mem_of_getElem? (i := 103) rfl))))) rfl
theorem wT_4_104 : (Cond.instanceMethod ⟨"ScopeTreeModel", "filter", "(IIJJ)V"⟩) ∈ aw_TB := aw_tb (List.mem_append_right _ (List.mem_append_right _ (List.mem_append_right _ (List.mem_append_right _ (List.mem_of_getElem? (i := 104) rfl))))) rfl
theorem wT_4_105 : (Cond.selects "ScopeTreeModel" ⟨"ScopeTreeModel", "filter", "(IIJJ)V"⟩ ⟨"ScopeTreeModel", "filter", "(IIJJ)V"⟩) ∈ aw_TB := aw_tb (List.mem_append_right _ (List.mem_append_right _ (List.mem_append_right _ (List.mem_append_right _ (List.mem_of_getElem? (i := 105) rfl))))) rfl
theorem wT_4_106 : (Cond.code ⟨"ScopeTreeModel", "filter", "(IIJJ)V"⟩ prog_12_method_23_code 7 none) ∈ aw_TB := aw_tb (List.mem_append_right _ (List.mem_append_right _ (List.mem_append_right _ (List.mem_append_right _ (List.mem_of_getElem? (i := 106) rfl))))) rfl
theorem wT_4_107 : (Cond.methodLink "ScopeTreeLaw" 106 ⟨"ScopeTreeModel", "lock", "(I)I"⟩) ∈ aw_TB := aw_tb (List.mem_append_right _ (List.mem_append_right _ (List.mem_append_right _ (List.mem_append_right _ (List.mem_of_getElem? (i := 107) rfl))))) rfl
theorem wT_4_108 : (Cond.instanceMethod ⟨"ScopeTreeModel", "lock", "(I)I"⟩) ∈ aw_TB := aw_tb (List.mem_append_right _ (List.mem_append_right _ (List.mem_append_right _ (List.mem_append_right _ (List.mem_of_getElem? (i := 108) rfl))))) rfl
theorem wT_4_109 : (Cond.selects "ScopeTreeModel" ⟨"ScopeTreeModel", "lock", "(I)I"⟩ ⟨"ScopeTreeModel", "lock", "(I)I"⟩) ∈ aw_TB := aw_tb (List.mem_append_right _ (List.mem_append_right _ (List.mem_append_right _ (List.mem_append_right _ (List.mem_of_getElem? (i := 109) rfl))))) rfl
theorem wT_4_110 : (Cond.code ⟨"ScopeTreeModel", "lock", "(I)I"⟩ prog_12_method_24_code 5 (some .int)) ∈ aw_TB := aw_tb (List.mem_append_right _ (List.mem_append_right _ (List.mem_append_right _ (List.mem_append_right _ (List.mem_of_getElem? (i := 110) rfl))))) rfl
theorem wT_4_111 : (Cond.methodLink "ScopeTreeModel" 144 ⟨"ScopeTreeModel", "freeLoaders", "()I"⟩) ∈ aw_TB := aw_tb (List.mem_append_right _ (List.mem_append_right _ (List.mem_append_right _ (List.mem_append_right _ (List.mem_of_getElem? (i := 111) rfl))))) rfl
theorem wT_4_113 : (Cond.instanceMethod ⟨"ScopeTreeModel", "freeLoaders", "()I"⟩) ∈ aw_TB := aw_tb (List.mem_append_right _ (List.mem_append_right _ (List.mem_append_right _ (List.mem_append_right _ (List.mem_of_getElem? (i := 113) rfl))))) rfl
theorem wT_4_114 : (Cond.code ⟨"ScopeTreeModel", "freeLoaders", "()I"⟩ prog_12_method_13_code 3 (some .int)) ∈ aw_TB := aw_tb (List.mem_append_right _ (List.mem_append_right _ (List.mem_append_right _ (List.mem_append_right _ (List.mem_of_getElem? (i := 114) rfl))))) rfl
theorem wT_4_115 : (Cond.methodLink "ScopeTreeModel" 147 ⟨"ScopeTreeModel", "defining", "(III)I"⟩) ∈ aw_TB := aw_tb (List.mem_append_right _ (List.mem_append_right _ (List.mem_append_right _ (List.mem_append_right _ (List.mem_of_getElem? (i := 115) rfl))))) rfl
theorem wT_4_117 : (Cond.instanceMethod ⟨"ScopeTreeModel", "defining", "(III)I"⟩) ∈ aw_TB := aw_tb (List.mem_append_right _ (List.mem_append_right _ (List.mem_append_right _ (List.mem_append_right _ (List.mem_of_getElem? (i := 117) rfl))))) rfl
theorem wT_4_118 : (Cond.code ⟨"ScopeTreeModel", "defining", "(III)I"⟩ prog_12_method_15_code 9 (some .int)) ∈ aw_TB := aw_tb (List.mem_append_right _ (List.mem_append_right _ (List.mem_append_right _ (List.mem_append_right _ (List.mem_of_getElem? (i := 118) rfl))))) rfl
theorem wT_4_119 : (Cond.methodLink "ScopeTreeModel" 125 ⟨"ScopeTreeModel", "alike", "(II)Z"⟩) ∈ aw_TB := aw_tb (List.mem_append_right _ (List.mem_append_right _ (List.mem_append_right _ (List.mem_append_right _ (List.mem_of_getElem? (i := 119) rfl))))) rfl
theorem wT_4_121 : (Cond.instanceMethod ⟨"ScopeTreeModel", "alike", "(II)Z"⟩) ∈ aw_TB := aw_tb (List.mem_append_right _ (List.mem_append_right _ (List.mem_append_right _ (List.mem_append_right _ (List.mem_of_getElem? (i := 121) rfl))))) rfl
theorem wT_4_122 : (Cond.code ⟨"ScopeTreeModel", "alike", "(II)Z"⟩ prog_12_method_11_code 7 (some .boolean)) ∈ aw_TB := aw_tb (List.mem_append_right _ (List.mem_append_right _ (List.mem_append_right _ (List.mem_append_right _ (List.mem_of_getElem? (i := 122) rfl))))) rfl
theorem wT_4_123 : (Cond.methodLink "ScopeTreeModel" 114 ⟨"ScopeTreeModel", "fileOf", "(II)I"⟩) ∈ aw_TB := aw_tb (List.mem_append_right _ (List.mem_append_right _ (List.mem_append_right _ (List.mem_append_right _ (List.mem_of_getElem? (i := 123) rfl))))) rfl
theorem wT_4_125 : (Cond.instanceMethod ⟨"ScopeTreeModel", "fileOf", "(II)I"⟩) ∈ aw_TB := aw_tb (List.mem_append_right _ (List.mem_append_right _ (List.mem_append_right _ (List.mem_append_right _ (List.mem_of_getElem? (i := 125) rfl))))) rfl
theorem wT_4_126 : (Cond.code ⟨"ScopeTreeModel", "fileOf", "(II)I"⟩ prog_12_method_9_code 5 (some .int)) ∈ aw_TB := aw_tb (List.mem_append_right _ (List.mem_append_right _ (List.mem_append_right _ (List.mem_append_right _ (List.mem_of_getElem? (i := 126) rfl))))) rfl
theorem wT_4_127 : (Cond.methodLink "ScopeTreeModel" 118 ⟨"ScopeTreeModel", "described", "(II)I"⟩) ∈ aw_TB := aw_tb (List.mem_append_right _ (List.mem_append_right _ (List.mem_append_right _ (List.mem_append_right _ (List.mem_of_getElem? (i := 127) rfl))))) rfl
theorem wT_4_129 : (Cond.instanceMethod ⟨"ScopeTreeModel", "described", "(II)I"⟩) ∈ aw_TB := aw_tb (List.mem_append_right _ (List.mem_append_right _ (List.mem_append_right _ (List.mem_append_right _ (List.mem_of_getElem? (i := 129) rfl))))) rfl
theorem wT_4_130 : (Cond.code ⟨"ScopeTreeModel", "described", "(II)I"⟩ prog_12_method_10_code 5 (some .int)) ∈ aw_TB := aw_tb (List.mem_append_right _ (List.mem_append_right _ (List.mem_append_right _ (List.mem_append_right _ (List.mem_of_getElem? (i := 130) rfl))))) rfl
theorem wT_4_131 : (Cond.methodLink "ScopeTreeModel" 129 ⟨"ScopeTreeModel", "begin", "(II)I"⟩) ∈ aw_TB := aw_tb (List.mem_append_right _ (List.mem_append_right _ (List.mem_append_right _ (List.mem_append_right _ (List.mem_of_getElem? (i := 131) rfl))))) rfl
theorem wT_4_133 : (Cond.instanceMethod ⟨"ScopeTreeModel", "begin", "(II)I"⟩) ∈ aw_TB := aw_tb (List.mem_append_right _ (List.mem_append_right _ (List.mem_append_right _ (List.mem_append_right _ (List.mem_of_getElem? (i := 133) rfl))))) rfl
theorem wT_4_134 : (Cond.code ⟨"ScopeTreeModel", "begin", "(II)I"⟩ prog_12_method_14_code 4 (some .int)) ∈ aw_TB := aw_tb (List.mem_append_right _ (List.mem_append_right _ (List.mem_append_right _ (List.mem_append_right _ (List.mem_of_getElem? (i := 134) rfl))))) rfl
theorem wT_4_135 : (Cond.methodLink "ScopeTreeModel" 121 ⟨"ScopeTreeModel", "freeLoader", "()I"⟩) ∈ aw_TB := aw_tb (List.mem_append_right _ (List.mem_append_right _ (List.mem_append_right _ (List.mem_append_right _ (List.mem_of_getElem? (i := 135) rfl))))) rfl
theorem wT_4_137 : (Cond.instanceMethod ⟨"ScopeTreeModel", "freeLoader", "()I"⟩) ∈ aw_TB := aw_tb (List.mem_append_right _ (List.mem_append_right _ (List.mem_append_right _ (List.mem_append_right _ (List.mem_of_getElem? (i := 137) rfl))))) rfl
theorem wT_4_138 : (Cond.code ⟨"ScopeTreeModel", "freeLoader", "()I"⟩ prog_12_method_12_code 2 (some .int)) ∈ aw_TB := aw_tb (List.mem_append_right _ (List.mem_append_right _ (List.mem_append_right _ (List.mem_append_right _ (List.mem_of_getElem? (i := 138) rfl))))) rfl
theorem wT_4_139 : (Cond.methodLink "ScopeTreeModel" 132 ⟨"ScopeTreeModel", "copySheet", "(II)V"⟩) ∈ aw_TB := aw_tb (List.mem_append_right _ (List.mem_append_right _ (List.mem_append_right _ (List.mem_append_right _ (List.mem_of_getElem? (i := 139) rfl))))) rfl
theorem wT_4_141 : (Cond.instanceMethod ⟨"ScopeTreeModel", "copySheet", "(II)V"⟩) ∈ aw_TB := aw_tb (List.mem_append_right _ (List.mem_append_right _ (List.mem_append_right _ (List.mem_append_right _ (List.mem_of_getElem? (i := 141) rfl))))) rfl
theorem wT_4_142 : (Cond.code ⟨"ScopeTreeModel", "copySheet", "(II)V"⟩ prog_12_method_8_code 4 none) ∈ aw_TB := aw_tb (List.mem_append_right _ (List.mem_append_right _ (List.mem_append_right _ (List.mem_append_right _ (List.mem_of_getElem? (i := 142) rfl))))) rfl
theorem wT_4_143 : (Cond.methodLink "ScopeTreeModel" 151 ⟨"ScopeTreeModel", "filtering", "(II)I"⟩) ∈ aw_TB := aw_tb (List.mem_append_right _ (List.mem_append_right _ (List.mem_append_right _ (List.mem_append_right _ (List.mem_of_getElem? (i := 143) rfl))))) rfl
theorem wT_4_145 : (Cond.instanceMethod ⟨"ScopeTreeModel", "filtering", "(II)I"⟩) ∈ aw_TB := aw_tb (List.mem_append_right _ (List.mem_append_right _ (List.mem_append_right _ (List.mem_append_right _ (List.mem_of_getElem? (i := 145) rfl))))) rfl
theorem wT_4_146 : (Cond.code ⟨"ScopeTreeModel", "filtering", "(II)I"⟩ prog_12_method_16_code 4 (some .int)) ∈ aw_TB := aw_tb (List.mem_append_right _ (List.mem_append_right _ (List.mem_append_right _ (List.mem_append_right _ (List.mem_of_getElem? (i := 146) rfl))))) rfl
theorem wT_4_147 : (Cond.methodLink "ScopeTreeLaw" 109 ⟨"ScopeTreeModel", "release", "(I)I"⟩) ∈ aw_TB := aw_tb (List.mem_append_right _ (List.mem_append_right _ (List.mem_append_right _ (List.mem_append_right _ (List.mem_of_getElem? (i := 147) rfl))))) rfl
theorem wT_4_148 : (Cond.instanceMethod ⟨"ScopeTreeModel", "release", "(I)I"⟩) ∈ aw_TB := aw_tb (List.mem_append_right _ (List.mem_append_right _ (List.mem_append_right _ (List.mem_append_right _ (List.mem_of_getElem? (i := 148) rfl))))) rfl
theorem wT_4_149 : (Cond.selects "ScopeTreeModel" ⟨"ScopeTreeModel", "release", "(I)I"⟩ ⟨"ScopeTreeModel", "release", "(I)I"⟩) ∈ aw_TB := aw_tb (List.mem_append_right _ (List.mem_append_right _ (List.mem_append_right _ (List.mem_append_right _ (List.mem_of_getElem? (i := 149) rfl))))) rfl
theorem wT_4_150 : (Cond.code ⟨"ScopeTreeModel", "release", "(I)I"⟩ prog_12_method_25_code 4 (some .int)) ∈ aw_TB := aw_tb (List.mem_append_right _ (List.mem_append_right _ (List.mem_append_right _ (List.mem_append_right _ (List.mem_of_getElem? (i := 150) rfl))))) rfl
theorem wT_4_151 : (Cond.methodLink "ScopeTreeModel" 154 ⟨"ScopeTreeModel", "sweep", "()I"⟩) ∈ aw_TB := aw_tb (List.mem_append_right _ (List.mem_append_right _ (List.mem_append_right _ (List.mem_append_right _ (List.mem_of_getElem? (i := 151) rfl))))) rfl
theorem wT_4_153 : (Cond.instanceMethod ⟨"ScopeTreeModel", "sweep", "()I"⟩) ∈ aw_TB := aw_tb (List.mem_append_right _ (List.mem_append_right _ (List.mem_append_right _ (List.mem_append_right _ (List.mem_of_getElem? (i := 153) rfl))))) rfl
theorem wT_4_154 : (Cond.code ⟨"ScopeTreeModel", "sweep", "()I"⟩ prog_12_method_19_code 5 (some .int)) ∈ aw_TB := aw_tb (List.mem_append_right _ (List.mem_append_right _ (List.mem_append_right _ (List.mem_append_right _ (List.mem_of_getElem? (i := 154) rfl))))) rfl
theorem wT_4_155 : (Cond.methodLink "ScopeTreeModel" 136 ⟨"ScopeTreeModel", "holders", "(I)I"⟩) ∈ aw_TB := aw_tb (List.mem_append_right _ (List.mem_append_right _ (List.mem_append_right _ (List.mem_append_right _ (List.mem_of_getElem? (i := 155) rfl))))) rfl
theorem wT_4_157 : (Cond.instanceMethod ⟨"ScopeTreeModel", "holders", "(I)I"⟩) ∈ aw_TB := aw_tb (List.mem_append_right _ (List.mem_append_right _ (List.mem_append_right _ (List.mem_append_right _ (List.mem_of_getElem? (i := 157) rfl))))) rfl
theorem wT_4_158 : (Cond.code ⟨"ScopeTreeModel", "holders", "(I)I"⟩ prog_12_method_18_code 5 (some .int)) ∈ aw_TB := aw_tb (List.mem_append_right _ (List.mem_append_right _ (List.mem_append_right _ (List.mem_append_right _ (List.mem_of_getElem? (i := 158) rfl))))) rfl
theorem wT_4_159 : (Cond.methodLink "ScopeTreeLaw" 113 ⟨"ScopeTreeModel", "loader", "(IZ)I"⟩) ∈ aw_TB := aw_tb (List.mem_append_right _ (List.mem_append_right _ (List.mem_append_right _ (List.mem_append_right _ (List.mem_of_getElem? (i := 159) rfl))))) rfl
theorem wT_4_160 : (Cond.instanceMethod ⟨"ScopeTreeModel", "loader", "(IZ)I"⟩) ∈ aw_TB := aw_tb (List.mem_append_right _ (List.mem_append_right _ (List.mem_append_right _ (List.mem_append_right _ (List.mem_of_getElem? (i := 160) rfl))))) rfl
theorem wT_4_161 : (Cond.selects "ScopeTreeModel" ⟨"ScopeTreeModel", "loader", "(IZ)I"⟩ ⟨"ScopeTreeModel", "loader", "(IZ)I"⟩) ∈ aw_TB := aw_tb (List.mem_append_right _ (List.mem_append_right _ (List.mem_append_right _ (List.mem_append_right _ (List.mem_of_getElem? (i := 161) rfl))))) rfl
theorem wT_4_162 : (Cond.code ⟨"ScopeTreeModel", "loader", "(IZ)I"⟩ prog_12_method_26_code 3 (some .int)) ∈ aw_TB := aw_tb (List.mem_append_right _ (List.mem_append_right _ (List.mem_append_right _ (List.mem_append_right _ (List.mem_of_getElem? (i := 162) rfl))))) rfl
theorem wT_4_163 : (Cond.methodLink "ScopeTreeLaw" 117 ⟨"ScopeTreeModel", "look", "(II)I"⟩) ∈ aw_TB := aw_tb (List.mem_append_right _ (List.mem_append_right _ (List.mem_append_right _ (List.mem_append_right _ (List.mem_of_getElem? (i := 163) rfl))))) rfl
theorem wT_4_164 : (Cond.instanceMethod ⟨"ScopeTreeModel", "look", "(II)I"⟩) ∈ aw_TB := aw_tb (List.mem_append_right _ (List.mem_append_right _ (List.mem_append_right _ (List.mem_append_right _ (List.mem_of_getElem? (i := 164) rfl))))) rfl
theorem wT_4_165 : (Cond.selects "ScopeTreeModel" ⟨"ScopeTreeModel", "look", "(II)I"⟩ ⟨"ScopeTreeModel", "look", "(II)I"⟩) ∈ aw_TB := aw_tb (List.mem_append_right _ (List.mem_append_right _ (List.mem_append_right _ (List.mem_append_right _ (List.mem_of_getElem? (i := 165) rfl))))) rfl
theorem wT_4_166 : (Cond.code ⟨"ScopeTreeModel", "look", "(II)I"⟩ prog_12_method_27_code 5 (some .int)) ∈ aw_TB := aw_tb (List.mem_append_right _ (List.mem_append_right _ (List.mem_append_right _ (List.mem_append_right _ (List.mem_of_getElem? (i := 166) rfl))))) rfl
theorem wT_4_167 : (Cond.methodLink "ScopeTreeLaw" 121 ⟨"ScopeTreeModel", "load", "(II)I"⟩) ∈ aw_TB := aw_tb (List.mem_append_right _ (List.mem_append_right _ (List.mem_append_right _ (List.mem_append_right _ (List.mem_of_getElem? (i := 167) rfl))))) rfl
theorem wT_4_168 : (Cond.instanceMethod ⟨"ScopeTreeModel", "load", "(II)I"⟩) ∈ aw_TB := aw_tb (List.mem_append_right _ (List.mem_append_right _ (List.mem_append_right _ (List.mem_append_right _ (List.mem_of_getElem? (i := 168) rfl))))) rfl
theorem wT_4_169 : (Cond.selects "ScopeTreeModel" ⟨"ScopeTreeModel", "load", "(II)I"⟩ ⟨"ScopeTreeModel", "load", "(II)I"⟩) ∈ aw_TB := aw_tb (List.mem_append_right _ (List.mem_append_right _ (List.mem_append_right _ (List.mem_append_right _ (List.mem_of_getElem? (i := 169) rfl))))) rfl
theorem wT_4_170 : (Cond.code ⟨"ScopeTreeModel", "load", "(II)I"⟩ prog_12_method_32_code 3 (some .int)) ∈ aw_TB := aw_tb (List.mem_append_right _ (List.mem_append_right _ (List.mem_append_right _ (List.mem_append_right _ (List.mem_of_getElem? (i := 170) rfl))))) rfl
theorem wT_4_171 : (Cond.methodLink "ScopeTreeModel" 175 ⟨"ScopeTreeModel", "loads", "(II)I"⟩) ∈ aw_TB := aw_tb (List.mem_append_right _ (List.mem_append_right _ (List.mem_append_right _ (List.mem_append_right _ (List.mem_of_getElem? (i := 171) rfl))))) rfl
theorem wT_4_173 : (Cond.instanceMethod ⟨"ScopeTreeModel", "loads", "(II)I"⟩) ∈ aw_TB := aw_tb (List.mem_append_right _ (List.mem_append_right _ (List.mem_append_right _ (List.mem_append_right _ (List.mem_of_getElem? (i := 173) rfl))))) rfl
theorem wT_4_174 : (Cond.code ⟨"ScopeTreeModel", "loads", "(II)I"⟩ prog_12_method_31_code 4 (some .int)) ∈ aw_TB := aw_tb (List.mem_append_right _ (List.mem_append_right _ (List.mem_append_right _ (List.mem_append_right _ (List.mem_of_getElem? (i := 174) rfl))))) rfl
theorem wT_4_175 : (Cond.methodLink "ScopeTreeModel" 172 ⟨"ScopeTreeModel", "resolve", "(II)I"⟩) ∈ aw_TB := aw_tb (List.mem_append_right _ (List.mem_append_right _ (List.mem_append_right _ (List.mem_append_right _ (List.mem_of_getElem? (i := 175) rfl))))) rfl
theorem wT_4_177 : (Cond.instanceMethod ⟨"ScopeTreeModel", "resolve", "(II)I"⟩) ∈ aw_TB := aw_tb (List.mem_append_right _ (List.mem_append_right _ (List.mem_append_right _ (List.mem_append_right _ (List.mem_of_getElem? (i := 177) rfl))))) rfl
theorem wT_4_178 : (Cond.code ⟨"ScopeTreeModel", "resolve", "(II)I"⟩ prog_12_method_30_code 8 (some .int)) ∈ aw_TB := aw_tb (List.mem_append_right _ (List.mem_append_right _ (List.mem_append_right _ (List.mem_append_right _ (List.mem_of_getElem? (i := 178) rfl))))) rfl
theorem wT_4_179 : (Cond.methodLink "ScopeTreeModel" 166 ⟨"ScopeTreeModel", "seek", "(II)Z"⟩) ∈ aw_TB := aw_tb (List.mem_append_right _ (List.mem_append_right _ (List.mem_append_right _ (List.mem_append_right _ (List.mem_of_getElem? (i := 179) rfl))))) rfl
theorem wT_4_181 : (Cond.instanceMethod ⟨"ScopeTreeModel", "seek", "(II)Z"⟩) ∈ aw_TB := aw_tb (List.mem_append_right _ (List.mem_append_right _ (List.mem_append_right _ (List.mem_append_right _ (List.mem_of_getElem? (i := 181) rfl))))) rfl
theorem wT_4_182 : (Cond.code ⟨"ScopeTreeModel", "seek", "(II)Z"⟩ prog_12_method_28_code 5 (some .boolean)) ∈ aw_TB := aw_tb (List.mem_append_right _ (List.mem_append_right _ (List.mem_append_right _ (List.mem_append_right _ (List.mem_of_getElem? (i := 182) rfl))))) rfl
theorem wT_4_183 : (Cond.methodLink "ScopeTreeModel" 160 ⟨"ScopeTreeModel", "admits", "(II)Z"⟩) ∈ aw_TB := aw_tb (List.mem_append_right _ (List.mem_append_right _ (List.mem_append_right _ (List.mem_append_right _ (List.mem_of_getElem? (i := 183) rfl))))) rfl
theorem wT_4_185 : (Cond.instanceMethod ⟨"ScopeTreeModel", "admits", "(II)Z"⟩) ∈ aw_TB := aw_tb (List.mem_append_right _ (List.mem_append_right _ (List.mem_append_right _ (List.mem_append_right _ (List.mem_of_getElem? (i := 185) rfl))))) rfl
theorem wT_4_186 : (Cond.code ⟨"ScopeTreeModel", "admits", "(II)Z"⟩ prog_12_method_17_code 3 (some .boolean)) ∈ aw_TB := aw_tb (List.mem_append_right _ (List.mem_append_right _ (List.mem_append_right _ (List.mem_append_right _ (List.mem_of_getElem? (i := 186) rfl))))) rfl
theorem wT_4_187 : (Cond.methodLink "ScopeTreeModel" 169 ⟨"ScopeTreeModel", "definedBy", "(II)I"⟩) ∈ aw_TB := aw_tb (List.mem_append_right _ (List.mem_append_right _ (List.mem_append_right _ (List.mem_append_right _ (List.mem_of_getElem? (i := 187) rfl))))) rfl
theorem wT_4_189 : (Cond.instanceMethod ⟨"ScopeTreeModel", "definedBy", "(II)I"⟩) ∈ aw_TB := aw_tb (List.mem_append_right _ (List.mem_append_right _ (List.mem_append_right _ (List.mem_append_right _ (List.mem_of_getElem? (i := 189) rfl))))) rfl
theorem wT_4_190 : (Cond.code ⟨"ScopeTreeModel", "definedBy", "(II)I"⟩ prog_12_method_29_code 5 (some .int)) ∈ aw_TB := aw_tb (List.mem_append_right _ (List.mem_append_right _ (List.mem_append_right _ (List.mem_append_right _ (List.mem_of_getElem? (i := 190) rfl))))) rfl
theorem wT_4_191 : (Cond.methodLink "ScopeTreeLaw" 124 ⟨"ScopeTreeModel", "info", "(II)I"⟩) ∈ aw_TB := aw_tb (List.mem_append_right _ (List.mem_append_right _ (List.mem_append_right _ (List.mem_append_right _ (List.mem_of_getElem? (i := 191) rfl))))) rfl
theorem wT_4_192 : (Cond.instanceMethod ⟨"ScopeTreeModel", "info", "(II)I"⟩) ∈ aw_TB := aw_tb (List.mem_append_right _ (List.mem_append_right _ (List.mem_append_right _ (List.mem_append_right _ (List.mem_of_getElem? (i := 192) rfl))))) rfl
theorem wT_4_193 : (Cond.selects "ScopeTreeModel" ⟨"ScopeTreeModel", "info", "(II)I"⟩ ⟨"ScopeTreeModel", "info", "(II)I"⟩) ∈ aw_TB := aw_tb (List.mem_append_right _ (List.mem_append_right _ (List.mem_append_right _ (List.mem_append_right _ (List.mem_of_getElem? (i := 193) rfl))))) rfl
theorem wT_4_194 : (Cond.code ⟨"ScopeTreeModel", "info", "(II)I"⟩ prog_12_method_33_code 3 (some .int)) ∈ aw_TB := aw_tb (List.mem_append_right _ (List.mem_append_right _ (List.mem_append_right _ (List.mem_append_right _ (List.mem_of_getElem? (i := 194) rfl))))) rfl
theorem wT_4_195 : (Cond.methodLink "ScopeTreeLaw" 127 ⟨"ScopeTreeModel", "isA", "(II)Z"⟩) ∈ aw_TB := aw_tb (List.mem_append_right _ (List.mem_append_right _ (List.mem_append_right _ (List.mem_append_right _ (List.mem_of_getElem? (i := 195) rfl))))) rfl
theorem wT_4_196 : (Cond.instanceMethod ⟨"ScopeTreeModel", "isA", "(II)Z"⟩) ∈ aw_TB := aw_tb (List.mem_append_right _ (List.mem_append_right _ (List.mem_append_right _ (List.mem_append_right _ (List.mem_of_getElem? (i := 196) rfl))))) rfl
theorem wT_4_197 : (Cond.selects "ScopeTreeModel" ⟨"ScopeTreeModel", "isA", "(II)Z"⟩ ⟨"ScopeTreeModel", "isA", "(II)Z"⟩) ∈ aw_TB := aw_tb (List.mem_append_right _ (List.mem_append_right _ (List.mem_append_right _ (List.mem_append_right _ (List.mem_of_getElem? (i := 197) rfl))))) rfl
theorem wT_4_198 : (Cond.code ⟨"ScopeTreeModel", "isA", "(II)Z"⟩ prog_12_method_35_code 3 (some .boolean)) ∈ aw_TB := aw_tb (List.mem_append_right _ (List.mem_append_right _ (List.mem_append_right _ (List.mem_append_right _ (List.mem_of_getElem? (i := 198) rfl))))) rfl
theorem wT_4_199 : (Cond.methodLink "ScopeTreeModel" 178 ⟨"ScopeTreeModel", "descends", "(II)Z"⟩) ∈ aw_TB := aw_tb (List.mem_append_right _ (List.mem_append_right _ (List.mem_append_right _ (List.mem_append_right _ (List.mem_of_getElem? (i := 199) rfl))))) rfl
theorem wT_4_201 : (Cond.instanceMethod ⟨"ScopeTreeModel", "descends", "(II)Z"⟩) ∈ aw_TB := aw_tb (List.mem_append_right _ (List.mem_append_right _ (List.mem_append_right _ (List.mem_append_right _ (List.mem_of_getElem? (i := 201) rfl))))) rfl
theorem wT_4_202 : (Cond.code ⟨"ScopeTreeModel", "descends", "(II)Z"⟩ prog_12_method_34_code 4 (some .boolean)) ∈ aw_TB := aw_tb (List.mem_append_right _ (List.mem_append_right _ (List.mem_append_right _ (List.mem_append_right _ (List.mem_of_getElem? (i := 202) rfl))))) rfl
theorem wT_4_203 : (Cond.methodLink "ScopeTreeLaw" 130 ⟨"ScopeTreeModel", "apply", "(II)I"⟩) ∈ aw_TB := aw_tb (List.mem_append_right _ (List.mem_append_right _ (List.mem_append_right _ (List.mem_append_right _ (List.mem_of_getElem? (i := 203) rfl))))) rfl
theorem wT_4_204 : (Cond.instanceMethod ⟨"ScopeTreeModel", "apply", "(II)I"⟩) ∈ aw_TB := aw_tb (List.mem_append_right _ (List.mem_append_right _ (List.mem_append_right _ (List.mem_append_right _ (List.mem_of_getElem? (i := 204) rfl))))) rfl
theorem wT_4_205 : (Cond.selects "ScopeTreeModel" ⟨"ScopeTreeModel", "apply", "(II)I"⟩ ⟨"ScopeTreeModel", "apply", "(II)I"⟩) ∈ aw_TB := aw_tb (List.mem_append_right _ (List.mem_append_right _ (List.mem_append_right _ (List.mem_append_right _ (List.mem_of_getElem? (i := 205) rfl))))) rfl
theorem wT_4_206 : (Cond.code ⟨"ScopeTreeModel", "apply", "(II)I"⟩ prog_12_method_37_code 7 (some .int)) ∈ aw_TB := aw_tb (List.mem_append_right _ (List.mem_append_right _ (List.mem_append_right _ (List.mem_append_right _ (List.mem_of_getElem? (i := 206) rfl))))) rfl
theorem wT_4_207 : (Cond.methodLink "ScopeTreeModel" 181 ⟨"ScopeTreeModel", "describedFrom", "(II)I"⟩) ∈ aw_TB := aw_tb (List.mem_append_right _ (List.mem_append_right _ (List.mem_append_right _ (List.mem_append_right _ (List.mem_of_getElem? (i := 207) rfl))))) rfl
theorem wT_4_209 : (Cond.instanceMethod ⟨"ScopeTreeModel", "describedFrom", "(II)I"⟩) ∈ aw_TB := aw_tb (List.mem_append_right _ (List.mem_append_right _ (List.mem_append_right _ (List.mem_append_right _ (List.mem_of_getElem? (i := 209) rfl))))) rfl
theorem wT_4_210 : (Cond.code ⟨"ScopeTreeModel", "describedFrom", "(II)I"⟩ prog_12_method_36_code 9 (some .int)) ∈ aw_TB := aw_tb (List.mem_append_right _ (List.mem_append_right _ (List.mem_append_right _ (List.mem_append_right _ (List.mem_of_getElem? (i := 210) rfl))))) rfl
theorem wT_4_211 : (Cond.methodLink "ScopeTreeLaw" 133 ⟨"ScopeTreeModel", "applied", "(II)I"⟩) ∈ aw_TB := aw_tb (List.mem_append_right _ (List.mem_append_right _ (List.mem_append_right _ (List.mem_append_right _ (List.mem_of_getElem? (i := 211) rfl))))) rfl
theorem wT_4_212 : (Cond.instanceMethod ⟨"ScopeTreeModel", "applied", "(II)I"⟩) ∈ aw_TB := aw_tb (List.mem_append_right _ (List.mem_append_right _ (List.mem_append_right _ (List.mem_append_right _ (List.mem_of_getElem? (i := 212) rfl))))) rfl
theorem wT_4_213 : (Cond.selects "ScopeTreeModel" ⟨"ScopeTreeModel", "applied", "(II)I"⟩ ⟨"ScopeTreeModel", "applied", "(II)I"⟩) ∈ aw_TB := aw_tb (List.mem_append_right _ (List.mem_append_right _ (List.mem_append_right _ (List.mem_append_right _ (List.mem_of_getElem? (i := 213) rfl))))) rfl
theorem wT_4_214 : (Cond.code ⟨"ScopeTreeModel", "applied", "(II)I"⟩ prog_12_method_38_code 3 (some .int)) ∈ aw_TB := aw_tb (List.mem_append_right _ (List.mem_append_right _ (List.mem_append_right _ (List.mem_append_right _ (List.mem_of_getElem? (i := 214) rfl))))) rfl
theorem wT_4_215 : (Cond.constantLong "ScopeTreeLaw" 98 4294967295) ∈ aw_TB := aw_tb (List.mem_append_right _ (List.mem_append_right _ (List.mem_append_right _ (List.mem_append_right _ (List.mem_of_getElem? (i := 215) rfl))))) rfl
theorem wT_4_216 : (Cond.sameMethod "java/lang/Throwable" "java/lang/Throwable" "fillInStackTrace" "(I)Ljava/lang/Throwable;") ∈ aw_TB := aw_tb (List.mem_append_right _ (List.mem_append_right _ (List.mem_append_right _ (List.mem_append_right _ (List.mem_of_getElem? (i := 216) rfl))))) rfl
theorem wA_1_31 : (Cond.arrayOver (.object "ScopeTree$Archive")) ∈ lw_tbl := (List.mem_append_right _ (List.mem_append_left _ (List.mem_of_getElem? (i := 31) rfl)))
theorem wA_1_33 : (Cond.arrayOver (.object "ScopeTree$Scope")) ∈ lw_tbl := (List.mem_append_right _ (List.mem_append_left _ (List.mem_of_getElem? (i := 33) rfl)))
theorem wA_1_35 : (Cond.arrayOver (.object "ScopeTree$Loader")) ∈ lw_tbl := (List.mem_append_right _ (List.mem_append_left _ (List.mem_of_getElem? (i := 35) rfl)))
theorem wA_1_37 : (Cond.arrayOver (.object "ScopeTree$Type")) ∈ lw_tbl := (List.mem_append_right _ (List.mem_append_left _ (List.mem_of_getElem? (i := 37) rfl)))
theorem wA_1_44 : (Cond.arrayOver (.object "ScopeTree$ClassFile")) ∈ lw_tbl := (List.mem_append_right _ (List.mem_append_left _ (List.mem_of_getElem? (i := 44) rfl)))
theorem wA_1_46 : (Cond.arrayOver (.object "ScopeTree$Descriptor")) ∈ lw_tbl := (List.mem_append_right _ (List.mem_append_left _ (List.mem_of_getElem? (i := 46) rfl)))
theorem wA_1_144 : (Cond.laysStatic "ScopeTree$State" "OPEN" "LScopeTree$State;") ∈ lw_tbl := (List.mem_append_right _ (List.mem_append_left _ (List.mem_of_getElem? (i := 144) rfl)))
theorem wA_1_184 : (Cond.laysStatic "ScopeTree$State" "LOCKED" "LScopeTree$State;") ∈ lw_tbl := (List.mem_append_right _ (List.mem_append_left _ (List.mem_of_getElem? (i := 184) rfl)))
theorem wA_2_17 : (Cond.laysStatic "java/lang/Throwable" "UNASSIGNED_STACK" "[Ljava/lang/StackTraceElement;") ∈ lw_tbl := (List.mem_append_right _ (List.mem_append_right _ (List.mem_append_left _ (List.mem_of_getElem? (i := 17) rfl))))
theorem wA_2_19 : (Cond.laysStatic "java/lang/Throwable" "SUPPRESSED_SENTINEL" "Ljava/util/List;") ∈ lw_tbl := (List.mem_append_right _ (List.mem_append_right _ (List.mem_append_left _ (List.mem_of_getElem? (i := 19) rfl))))
theorem wA_2_32 : (Cond.stringRef "ScopeTree" 137 "no such archive") ∈ lw_tbl := (List.mem_append_right _ (List.mem_append_right _ (List.mem_append_left _ (List.mem_of_getElem? (i := 32) rfl))))
theorem wA_2_59 : (Cond.stringRef "ScopeTree" 86 "no name of a class file") ∈ lw_tbl := (List.mem_append_right _ (List.mem_append_right _ (List.mem_append_left _ (List.mem_of_getElem? (i := 59) rfl))))
theorem wA_2_60 : (Cond.stringRef "ScopeTree" 91 "no such super or version") ∈ lw_tbl := (List.mem_append_right _ (List.mem_append_right _ (List.mem_append_left _ (List.mem_of_getElem? (i := 60) rfl))))
theorem wA_2_104 : (Cond.stringRef "ScopeTree" 104 "the archive is full of class files") ∈ lw_tbl := (List.mem_append_right _ (List.mem_append_right _ (List.mem_append_left _ (List.mem_of_getElem? (i := 104) rfl))))
theorem wA_2_118 : (Cond.stringRef "ScopeTree" 110 "no such plugin or name") ∈ lw_tbl := (List.mem_append_right _ (List.mem_append_right _ (List.mem_append_left _ (List.mem_of_getElem? (i := 118) rfl))))
theorem wA_2_142 : (Cond.stringRef "ScopeTree" 121 "the archive is full of descriptors") ∈ lw_tbl := (List.mem_append_right _ (List.mem_append_right _ (List.mem_append_left _ (List.mem_of_getElem? (i := 142) rfl))))
theorem wA_2_161 : (Cond.stringRef "ScopeTree" 275 "no such scope") ∈ lw_tbl := (List.mem_append_right _ (List.mem_append_right _ (List.mem_append_left _ (List.mem_of_getElem? (i := 161) rfl))))
theorem wA_2_163 : (Cond.laysStatic "ScopeTree$State" "RELEASED" "LScopeTree$State;") ∈ lw_tbl := (List.mem_append_right _ (List.mem_append_right _ (List.mem_append_left _ (List.mem_of_getElem? (i := 163) rfl))))
theorem wA_2_164 : (Cond.stringRef "ScopeTree" 133 "the parent is released") ∈ lw_tbl := (List.mem_append_right _ (List.mem_append_right _ (List.mem_append_left _ (List.mem_of_getElem? (i := 164) rfl))))
theorem wA_2_165 : (Cond.stringRef "ScopeTree" 135 "no scope number is left") ∈ lw_tbl := (List.mem_append_right _ (List.mem_append_right _ (List.mem_append_left _ (List.mem_of_getElem? (i := 165) rfl))))
theorem wA_2_177 : (Cond.stringRef "ScopeTree" 282 "the scope is locked or released") ∈ lw_tbl := (List.mem_append_right _ (List.mem_append_right _ (List.mem_append_left _ (List.mem_of_getElem? (i := 177) rfl))))
theorem wA_2_193 : (Cond.stringRef "ScopeTree" 155 "no such set of packages") ∈ lw_tbl := (List.mem_append_right _ (List.mem_append_right _ (List.mem_append_left _ (List.mem_of_getElem? (i := 193) rfl))))
theorem wA_2_218 : (Cond.stringRef "ScopeTree" 170 "the parent is not locked") ∈ lw_tbl := (List.mem_append_right _ (List.mem_append_right _ (List.mem_append_left _ (List.mem_of_getElem? (i := 218) rfl))))
theorem wA_2_232 : (Cond.stringRef "ScopeTree" 178 "too few loader numbers are free") ∈ lw_tbl := (List.mem_append_right _ (List.mem_append_right _ (List.mem_append_left _ (List.mem_of_getElem? (i := 232) rfl))))
theorem wA_3_60 : (Cond.stringRef "ScopeTree" 195 "scope 0 is never released") ∈ lw_tbl := (List.mem_append_right _ (List.mem_append_right _ (List.mem_append_right _ (List.mem_append_left _ (List.mem_of_getElem? (i := 60) rfl)))))
theorem wA_3_65 : (Cond.stringRef "ScopeTree" 201 "released, or a child is not") ∈ lw_tbl := (List.mem_append_right _ (List.mem_append_right _ (List.mem_append_right _ (List.mem_append_left _ (List.mem_of_getElem? (i := 65) rfl)))))
theorem wA_3_85 : (Cond.stringRef "ScopeTree" 215 "no such name") ∈ lw_tbl := (List.mem_append_right _ (List.mem_append_right _ (List.mem_append_right _ (List.mem_append_left _ (List.mem_of_getElem? (i := 85) rfl)))))
theorem wA_3_89 : (Cond.stringRef "ScopeTree" 284 "the scope is not locked, or released") ∈ lw_tbl := (List.mem_append_right _ (List.mem_append_right _ (List.mem_append_right _ (List.mem_append_left _ (List.mem_of_getElem? (i := 89) rfl)))))
theorem wA_3_119 : (Cond.stringRef "ScopeTree" 341 "circular") ∈ lw_tbl := (List.mem_append_right _ (List.mem_append_right _ (List.mem_append_right _ (List.mem_append_left _ (List.mem_of_getElem? (i := 119) rfl)))))
theorem wA_3_120 : (Cond.stringRef "ScopeTree" 343 "deep") ∈ lw_tbl := (List.mem_append_right _ (List.mem_append_right _ (List.mem_append_right _ (List.mem_append_left _ (List.mem_of_getElem? (i := 120) rfl)))))
theorem wA_3_121 : (Cond.stringRef "ScopeTree" 348 "link error") ∈ lw_tbl := (List.mem_append_right _ (List.mem_append_right _ (List.mem_append_right _ (List.mem_append_left _ (List.mem_of_getElem? (i := 121) rfl)))))
theorem wA_3_126 : (Cond.stringRef "ScopeTree" 354 "no class number is left") ∈ lw_tbl := (List.mem_append_right _ (List.mem_append_right _ (List.mem_append_right _ (List.mem_append_left _ (List.mem_of_getElem? (i := 126) rfl)))))
theorem wA_3_136 : (Cond.stringRef "ScopeTree" 319 "no class of that name is found") ∈ lw_tbl := (List.mem_append_right _ (List.mem_append_right _ (List.mem_append_right _ (List.mem_append_left _ (List.mem_of_getElem? (i := 136) rfl)))))
theorem wA_3_154 : (Cond.stringRef "ScopeTree" 277 "no such class") ∈ lw_tbl := (List.mem_append_right _ (List.mem_append_right _ (List.mem_append_right _ (List.mem_append_left _ (List.mem_of_getElem? (i := 154) rfl)))))
theorem wA_3_155 : (Cond.stringRef "ScopeTree" 248 "no such question about a class") ∈ lw_tbl := (List.mem_append_right _ (List.mem_append_right _ (List.mem_append_right _ (List.mem_append_left _ (List.mem_of_getElem? (i := 155) rfl)))))
theorem wA_3_173 : (Cond.stringRef "ScopeTree" 255 "no such plugin") ∈ lw_tbl := (List.mem_append_right _ (List.mem_append_right _ (List.mem_append_right _ (List.mem_append_left _ (List.mem_of_getElem? (i := 173) rfl)))))
theorem wS_0 : Cond.selects "ScopeTree" ⟨"ScopeTree", "archiveAt", "(I)LScopeTree$Archive;"⟩ ⟨"ScopeTree", "archiveAt", "(I)LScopeTree$Archive;"⟩ ∈ aw_TB := aw_tb (List.mem_append_left _ (List.mem_of_getElem? (i := 0) rfl)) rfl
theorem wS_1 : Cond.selects "java/lang/Throwable" ⟨"java/lang/Throwable", "fillInStackTrace", "(I)Ljava/lang/Throwable;"⟩ ⟨"java/lang/Throwable", "fillInStackTrace", "(I)Ljava/lang/Throwable;"⟩ ∈ aw_TB := aw_tb (List.mem_append_left _ (List.mem_of_getElem? (i := 1) rfl)) rfl
theorem wS_2 : Cond.selects "ScopeTree$Archive" ⟨"ScopeTree$Archive", "putFile", "(LScopeTree$ClassFile;)Z"⟩ ⟨"ScopeTree$Archive", "putFile", "(LScopeTree$ClassFile;)Z"⟩ ∈ aw_TB := aw_tb (List.mem_append_left _ (List.mem_of_getElem? (i := 2) rfl)) rfl
theorem wS_3 : Cond.selects "ScopeTree$Archive" ⟨"ScopeTree$Archive", "placeOfFile", "(I)I"⟩ ⟨"ScopeTree$Archive", "placeOfFile", "(I)I"⟩ ∈ aw_TB := aw_tb (List.mem_append_left _ (List.mem_of_getElem? (i := 3) rfl)) rfl
theorem wS_4 : Cond.selects "ScopeTree$Archive" ⟨"ScopeTree$Archive", "putDescriptor", "(LScopeTree$Descriptor;)Z"⟩ ⟨"ScopeTree$Archive", "putDescriptor", "(LScopeTree$Descriptor;)Z"⟩ ∈ aw_TB := aw_tb (List.mem_append_left _ (List.mem_of_getElem? (i := 4) rfl)) rfl
theorem wS_5 : Cond.selects "ScopeTree$Archive" ⟨"ScopeTree$Archive", "placeOfDescriptor", "(I)I"⟩ ⟨"ScopeTree$Archive", "placeOfDescriptor", "(I)I"⟩ ∈ aw_TB := aw_tb (List.mem_append_left _ (List.mem_of_getElem? (i := 5) rfl)) rfl
theorem wS_6 : Cond.selects "ScopeTree" ⟨"ScopeTree", "scopeAt", "(I)LScopeTree$Scope;"⟩ ⟨"ScopeTree", "scopeAt", "(I)LScopeTree$Scope;"⟩ ∈ aw_TB := aw_tb (List.mem_append_left _ (List.mem_of_getElem? (i := 6) rfl)) rfl
theorem wS_7 : Cond.selects "ScopeTree$Path" ⟨"ScopeTree$Path", "append", "(I)Z"⟩ ⟨"ScopeTree$Path", "append", "(I)Z"⟩ ∈ aw_TB := aw_tb (List.mem_append_left _ (List.mem_of_getElem? (i := 7) rfl)) rfl
theorem wS_8 : Cond.selects "ScopeTree$Path" ⟨"ScopeTree$Path", "contains", "(I)Z"⟩ ⟨"ScopeTree$Path", "contains", "(I)Z"⟩ ∈ aw_TB := aw_tb (List.mem_append_left _ (List.mem_of_getElem? (i := 8) rfl)) rfl
theorem wS_9 : Cond.selects "ScopeTree" ⟨"ScopeTree", "freeLoaderNumbers", "()I"⟩ ⟨"ScopeTree", "freeLoaderNumbers", "()I"⟩ ∈ aw_TB := aw_tb (List.mem_append_left _ (List.mem_of_getElem? (i := 9) rfl)) rfl
theorem wS_10 : Cond.selects "ScopeTree" ⟨"ScopeTree", "wantedDefining", "(LScopeTree$Path;LScopeTree$Loader;)LScopeTree$Loader;"⟩ ⟨"ScopeTree", "wantedDefining", "(LScopeTree$Path;LScopeTree$Loader;)LScopeTree$Loader;"⟩ ∈ aw_TB := aw_tb (List.mem_append_left _ (List.mem_of_getElem? (i := 10) rfl)) rfl
theorem wS_11 : Cond.selects "ScopeTree" ⟨"ScopeTree", "contentsOf", "(LScopeTree$Path;)[LScopeTree$Archive;"⟩ ⟨"ScopeTree", "contentsOf", "(LScopeTree$Path;)[LScopeTree$Archive;"⟩ ∈ aw_TB := aw_tb (List.mem_append_left _ (List.mem_of_getElem? (i := 11) rfl)) rfl
theorem wS_12 : Cond.selects "ScopeTree$Archive" ⟨"ScopeTree$Archive", "copy", "()LScopeTree$Archive;"⟩ ⟨"ScopeTree$Archive", "copy", "()LScopeTree$Archive;"⟩ ∈ aw_TB := aw_tb (List.mem_append_left _ (List.mem_of_getElem? (i := 12) rfl)) rfl
theorem wS_13 : Cond.selects "ScopeTree$Loader" ⟨"ScopeTree$Loader", "hasPathLike", "([LScopeTree$Archive;)Z"⟩ ⟨"ScopeTree$Loader", "hasPathLike", "([LScopeTree$Archive;)Z"⟩ ∈ aw_TB := aw_tb (List.mem_append_left _ (List.mem_of_getElem? (i := 13) rfl)) rfl
theorem wS_14 : Cond.selects "ScopeTree$Archive" ⟨"ScopeTree$Archive", "isLike", "(LScopeTree$Archive;)Z"⟩ ⟨"ScopeTree$Archive", "isLike", "(LScopeTree$Archive;)Z"⟩ ∈ aw_TB := aw_tb (List.mem_append_left _ (List.mem_of_getElem? (i := 14) rfl)) rfl
theorem wS_15 : Cond.selects "ScopeTree$Archive" ⟨"ScopeTree$Archive", "fileOf", "(I)LScopeTree$ClassFile;"⟩ ⟨"ScopeTree$Archive", "fileOf", "(I)LScopeTree$ClassFile;"⟩ ∈ aw_TB := aw_tb (List.mem_append_left _ (List.mem_of_getElem? (i := 15) rfl)) rfl
theorem wS_16 : Cond.selects "ScopeTree$ClassFile" ⟨"ScopeTree$ClassFile", "isSame", "(LScopeTree$ClassFile;)Z"⟩ ⟨"ScopeTree$ClassFile", "isSame", "(LScopeTree$ClassFile;)Z"⟩ ∈ aw_TB := aw_tb (List.mem_append_left _ (List.mem_of_getElem? (i := 16) rfl)) rfl
theorem wS_17 : Cond.selects "ScopeTree$Archive" ⟨"ScopeTree$Archive", "descriptorOf", "(I)LScopeTree$Descriptor;"⟩ ⟨"ScopeTree$Archive", "descriptorOf", "(I)LScopeTree$Descriptor;"⟩ ∈ aw_TB := aw_tb (List.mem_append_left _ (List.mem_of_getElem? (i := 17) rfl)) rfl
theorem wS_18 : Cond.selects "ScopeTree$Descriptor" ⟨"ScopeTree$Descriptor", "isSame", "(LScopeTree$Descriptor;)Z"⟩ ⟨"ScopeTree$Descriptor", "isSame", "(LScopeTree$Descriptor;)Z"⟩ ∈ aw_TB := aw_tb (List.mem_append_left _ (List.mem_of_getElem? (i := 18) rfl)) rfl
theorem wS_19 : Cond.selects "ScopeTree" ⟨"ScopeTree", "newLoader", "(ILScopeTree$Loader;[LScopeTree$Archive;LScopeTree$Filter;)LScopeTree$Loader;"⟩ ⟨"ScopeTree", "newLoader", "(ILScopeTree$Loader;[LScopeTree$Archive;LScopeTree$Filter;)LScopeTree$Loader;"⟩ ∈ aw_TB := aw_tb (List.mem_append_left _ (List.mem_of_getElem? (i := 19) rfl)) rfl
theorem wS_20 : Cond.selects "ScopeTree" ⟨"ScopeTree", "leastFreeLoaderNumber", "()I"⟩ ⟨"ScopeTree", "leastFreeLoaderNumber", "()I"⟩ ∈ aw_TB := aw_tb (List.mem_append_left _ (List.mem_of_getElem? (i := 20) rfl)) rfl
theorem wS_21 : Cond.selects "ScopeTree" ⟨"ScopeTree", "wantedFiltering", "(LScopeTree$Filter;LScopeTree$Loader;)LScopeTree$Loader;"⟩ ⟨"ScopeTree", "wantedFiltering", "(LScopeTree$Filter;LScopeTree$Loader;)LScopeTree$Loader;"⟩ ∈ aw_TB := aw_tb (List.mem_append_left _ (List.mem_of_getElem? (i := 21) rfl)) rfl
theorem wS_22 : Cond.selects "ScopeTree$Filter" ⟨"ScopeTree$Filter", "isSame", "(LScopeTree$Filter;)Z"⟩ ⟨"ScopeTree$Filter", "isSame", "(LScopeTree$Filter;)Z"⟩ ∈ aw_TB := aw_tb (List.mem_append_left _ (List.mem_of_getElem? (i := 22) rfl)) rfl
theorem wS_23 : Cond.selects "ScopeTree" ⟨"ScopeTree", "hasChildLeft", "(LScopeTree$Scope;)Z"⟩ ⟨"ScopeTree", "hasChildLeft", "(LScopeTree$Scope;)Z"⟩ ∈ aw_TB := aw_tb (List.mem_append_left _ (List.mem_of_getElem? (i := 23) rfl)) rfl
theorem wS_24 : Cond.selects "ScopeTree" ⟨"ScopeTree", "letGo", "(LScopeTree$Loader;)I"⟩ ⟨"ScopeTree", "letGo", "(LScopeTree$Loader;)I"⟩ ∈ aw_TB := aw_tb (List.mem_append_left _ (List.mem_of_getElem? (i := 24) rfl)) rfl
theorem wS_25 : Cond.selects "ScopeTree" ⟨"ScopeTree", "typeFromScope", "(LScopeTree$Scope;I)LScopeTree$Type;"⟩ ⟨"ScopeTree", "typeFromScope", "(LScopeTree$Scope;I)LScopeTree$Type;"⟩ ∈ aw_TB := aw_tb (List.mem_append_left _ (List.mem_of_getElem? (i := 25) rfl)) rfl
theorem wS_26 : Cond.selects "ScopeTree" ⟨"ScopeTree", "findFrom", "(LScopeTree$Loader;II)LScopeTree$Type;"⟩ ⟨"ScopeTree", "findFrom", "(LScopeTree$Loader;II)LScopeTree$Type;"⟩ ∈ aw_TB := aw_tb (List.mem_append_left _ (List.mem_of_getElem? (i := 26) rfl)) rfl
theorem wS_27 : Cond.selects "ScopeTree$Filter" ⟨"ScopeTree$Filter", "admits", "(I)Z"⟩ ⟨"ScopeTree$Filter", "admits", "(I)Z"⟩ ∈ aw_TB := aw_tb (List.mem_append_left _ (List.mem_of_getElem? (i := 27) rfl)) rfl
theorem wS_28 : Cond.selects "ScopeTree$Loader" ⟨"ScopeTree$Loader", "fileOf", "(I)LScopeTree$ClassFile;"⟩ ⟨"ScopeTree$Loader", "fileOf", "(I)LScopeTree$ClassFile;"⟩ ∈ aw_TB := aw_tb (List.mem_append_left _ (List.mem_of_getElem? (i := 28) rfl)) rfl
theorem wS_29 : Cond.selects "ScopeTree" ⟨"ScopeTree", "typeDefinedBy", "(LScopeTree$Loader;LScopeTree$ClassFile;I)LScopeTree$Type;"⟩ ⟨"ScopeTree", "typeDefinedBy", "(LScopeTree$Loader;LScopeTree$ClassFile;I)LScopeTree$Type;"⟩ ∈ aw_TB := aw_tb (List.mem_append_left _ (List.mem_of_getElem? (i := 29) rfl)) rfl
theorem wS_30 : Cond.selects "ScopeTree" ⟨"ScopeTree", "knownType", "(LScopeTree$Loader;I)LScopeTree$Type;"⟩ ⟨"ScopeTree", "knownType", "(LScopeTree$Loader;I)LScopeTree$Type;"⟩ ∈ aw_TB := aw_tb (List.mem_append_left _ (List.mem_of_getElem? (i := 30) rfl)) rfl
theorem wS_31 : Cond.selects "ScopeTree" ⟨"ScopeTree", "isBeingDefined", "(LScopeTree$Loader;II)Z"⟩ ⟨"ScopeTree", "isBeingDefined", "(LScopeTree$Loader;II)Z"⟩ ∈ aw_TB := aw_tb (List.mem_append_left _ (List.mem_of_getElem? (i := 31) rfl)) rfl
theorem wS_32 : Cond.selects "ScopeTree" ⟨"ScopeTree", "newType", "(LScopeTree$ClassFile;LScopeTree$Loader;LScopeTree$Type;)LScopeTree$Type;"⟩ ⟨"ScopeTree", "newType", "(LScopeTree$ClassFile;LScopeTree$Loader;LScopeTree$Type;)LScopeTree$Type;"⟩ ∈ aw_TB := aw_tb (List.mem_append_left _ (List.mem_of_getElem? (i := 32) rfl)) rfl
theorem wS_33 : Cond.selects "ScopeTree" ⟨"ScopeTree", "typeAt", "(I)LScopeTree$Type;"⟩ ⟨"ScopeTree", "typeAt", "(I)LScopeTree$Type;"⟩ ∈ aw_TB := aw_tb (List.mem_append_left _ (List.mem_of_getElem? (i := 33) rfl)) rfl
theorem wS_34 : Cond.selects "ScopeTree$Loader" ⟨"ScopeTree$Loader", "descriptorOf", "(I)LScopeTree$Descriptor;"⟩ ⟨"ScopeTree$Loader", "descriptorOf", "(I)LScopeTree$Descriptor;"⟩ ∈ aw_TB := aw_tb (List.mem_append_left _ (List.mem_of_getElem? (i := 34) rfl)) rfl
theorem wS_35 : Cond.selects "ScopeTree$Scope" ⟨"ScopeTree$Scope", "hasApplied", "(LScopeTree$Type;)Z"⟩ ⟨"ScopeTree$Scope", "hasApplied", "(LScopeTree$Type;)Z"⟩ ∈ aw_TB := aw_tb (List.mem_append_left _ (List.mem_of_getElem? (i := 35) rfl)) rfl
theorem wS_36 : Cond.selects "ScopeTree$Scope" ⟨"ScopeTree$Scope", "appendApplied", "(LScopeTree$Type;)Z"⟩ ⟨"ScopeTree$Scope", "appendApplied", "(LScopeTree$Type;)Z"⟩ ∈ aw_TB := aw_tb (List.mem_append_left _ (List.mem_of_getElem? (i := 36) rfl)) rfl
theorem wS_37 : Cond.selects "ScopeTreeModel" ⟨"ScopeTreeModel", "fails", "(ZI)Z"⟩ ⟨"ScopeTreeModel", "fails", "(ZI)Z"⟩ ∈ aw_TB := aw_tb (List.mem_append_left _ (List.mem_of_getElem? (i := 37) rfl)) rfl
theorem wS_38 : Cond.selects "ScopeTreeModel" ⟨"ScopeTreeModel", "noScope", "(I)Z"⟩ ⟨"ScopeTreeModel", "noScope", "(I)Z"⟩ ∈ aw_TB := aw_tb (List.mem_append_left _ (List.mem_of_getElem? (i := 38) rfl)) rfl
theorem wS_39 : Cond.selects "ScopeTreeModel" ⟨"ScopeTreeModel", "freeLoaders", "()I"⟩ ⟨"ScopeTreeModel", "freeLoaders", "()I"⟩ ∈ aw_TB := aw_tb (List.mem_append_left _ (List.mem_of_getElem? (i := 39) rfl)) rfl
theorem wS_40 : Cond.selects "ScopeTreeModel" ⟨"ScopeTreeModel", "defining", "(III)I"⟩ ⟨"ScopeTreeModel", "defining", "(III)I"⟩ ∈ aw_TB := aw_tb (List.mem_append_left _ (List.mem_of_getElem? (i := 40) rfl)) rfl
theorem wS_41 : Cond.selects "ScopeTreeModel" ⟨"ScopeTreeModel", "alike", "(II)Z"⟩ ⟨"ScopeTreeModel", "alike", "(II)Z"⟩ ∈ aw_TB := aw_tb (List.mem_append_left _ (List.mem_of_getElem? (i := 41) rfl)) rfl
theorem wS_42 : Cond.selects "ScopeTreeModel" ⟨"ScopeTreeModel", "fileOf", "(II)I"⟩ ⟨"ScopeTreeModel", "fileOf", "(II)I"⟩ ∈ aw_TB := aw_tb (List.mem_append_left _ (List.mem_of_getElem? (i := 42) rfl)) rfl
theorem wS_43 : Cond.selects "ScopeTreeModel" ⟨"ScopeTreeModel", "described", "(II)I"⟩ ⟨"ScopeTreeModel", "described", "(II)I"⟩ ∈ aw_TB := aw_tb (List.mem_append_left _ (List.mem_of_getElem? (i := 43) rfl)) rfl
theorem wS_44 : Cond.selects "ScopeTreeModel" ⟨"ScopeTreeModel", "begin", "(II)I"⟩ ⟨"ScopeTreeModel", "begin", "(II)I"⟩ ∈ aw_TB := aw_tb (List.mem_append_left _ (List.mem_of_getElem? (i := 44) rfl)) rfl
theorem wS_45 : Cond.selects "ScopeTreeModel" ⟨"ScopeTreeModel", "freeLoader", "()I"⟩ ⟨"ScopeTreeModel", "freeLoader", "()I"⟩ ∈ aw_TB := aw_tb (List.mem_append_left _ (List.mem_of_getElem? (i := 45) rfl)) rfl
theorem wS_46 : Cond.selects "ScopeTreeModel" ⟨"ScopeTreeModel", "copySheet", "(II)V"⟩ ⟨"ScopeTreeModel", "copySheet", "(II)V"⟩ ∈ aw_TB := aw_tb (List.mem_append_left _ (List.mem_of_getElem? (i := 46) rfl)) rfl
theorem wS_47 : Cond.selects "ScopeTreeModel" ⟨"ScopeTreeModel", "filtering", "(II)I"⟩ ⟨"ScopeTreeModel", "filtering", "(II)I"⟩ ∈ aw_TB := aw_tb (List.mem_append_left _ (List.mem_of_getElem? (i := 47) rfl)) rfl
theorem wS_48 : Cond.selects "ScopeTreeModel" ⟨"ScopeTreeModel", "sweep", "()I"⟩ ⟨"ScopeTreeModel", "sweep", "()I"⟩ ∈ aw_TB := aw_tb (List.mem_append_left _ (List.mem_of_getElem? (i := 48) rfl)) rfl
theorem wS_49 : Cond.selects "ScopeTreeModel" ⟨"ScopeTreeModel", "holders", "(I)I"⟩ ⟨"ScopeTreeModel", "holders", "(I)I"⟩ ∈ aw_TB := aw_tb (List.mem_append_left _ (List.mem_of_getElem? (i := 49) rfl)) rfl
theorem wS_50 : Cond.selects "ScopeTreeModel" ⟨"ScopeTreeModel", "loads", "(II)I"⟩ ⟨"ScopeTreeModel", "loads", "(II)I"⟩ ∈ aw_TB := aw_tb (List.mem_append_left _ (List.mem_of_getElem? (i := 50) rfl)) rfl
theorem wS_51 : Cond.selects "ScopeTreeModel" ⟨"ScopeTreeModel", "resolve", "(II)I"⟩ ⟨"ScopeTreeModel", "resolve", "(II)I"⟩ ∈ aw_TB := aw_tb (List.mem_append_left _ (List.mem_of_getElem? (i := 51) rfl)) rfl
theorem wS_52 : Cond.selects "ScopeTreeModel" ⟨"ScopeTreeModel", "seek", "(II)Z"⟩ ⟨"ScopeTreeModel", "seek", "(II)Z"⟩ ∈ aw_TB := aw_tb (List.mem_append_left _ (List.mem_of_getElem? (i := 52) rfl)) rfl
theorem wS_53 : Cond.selects "ScopeTreeModel" ⟨"ScopeTreeModel", "admits", "(II)Z"⟩ ⟨"ScopeTreeModel", "admits", "(II)Z"⟩ ∈ aw_TB := aw_tb (List.mem_append_left _ (List.mem_of_getElem? (i := 53) rfl)) rfl
theorem wS_54 : Cond.selects "ScopeTreeModel" ⟨"ScopeTreeModel", "definedBy", "(II)I"⟩ ⟨"ScopeTreeModel", "definedBy", "(II)I"⟩ ∈ aw_TB := aw_tb (List.mem_append_left _ (List.mem_of_getElem? (i := 54) rfl)) rfl
theorem wS_55 : Cond.selects "ScopeTreeModel" ⟨"ScopeTreeModel", "descends", "(II)Z"⟩ ⟨"ScopeTreeModel", "descends", "(II)Z"⟩ ∈ aw_TB := aw_tb (List.mem_append_left _ (List.mem_of_getElem? (i := 55) rfl)) rfl
theorem wS_56 : Cond.selects "ScopeTreeModel" ⟨"ScopeTreeModel", "describedFrom", "(II)I"⟩ ⟨"ScopeTreeModel", "describedFrom", "(II)I"⟩ ∈ aw_TB := aw_tb (List.mem_append_left _ (List.mem_of_getElem? (i := 56) rfl)) rfl
theorem in_A : ∀ w ∈ u_ws "ScopeTree$Archive" tn_A 4, w ∈ aw_TB := by
  show ∀ w ∈ [(Cond.laysFinal "ScopeTree$Archive" "ScopeTree$Archive" "files" "[LScopeTree$ClassFile;"), (Cond.lays "ScopeTree$Archive" "ScopeTree$Archive" "fileCount" "I"), (Cond.laysFinal "ScopeTree$Archive" "ScopeTree$Archive" "descriptors" "[LScopeTree$Descriptor;"), (Cond.lays "ScopeTree$Archive" "ScopeTree$Archive" "descriptorCount" "I")], w ∈ aw_TB
  exact List.forall_mem_cons.mpr ⟨wT_1_53, List.forall_mem_cons.mpr ⟨wT_1_55, List.forall_mem_cons.mpr ⟨wT_1_57, List.forall_mem_cons.mpr ⟨wT_1_59, fun _ h => absurd h List.not_mem_nil⟩⟩⟩⟩
theorem nm_A : ∀ a, a < 4 → ∀ b, b < 4 → a ≠ b → (tn_A a).2.1 ≠ (tn_A b).2.1 := by decide +kernel
theorem tk_A : ∀ j, j < 4 → parseFieldDescriptor (tn_A j).2.2.1 = some (ty_A j) := by decide +kernel
theorem in_C : ∀ w ∈ u_ws "ScopeTree$ClassFile" tn_C 3, w ∈ aw_TB := by
  show ∀ w ∈ [(Cond.laysFinal "ScopeTree$ClassFile" "ScopeTree$ClassFile" "name" "I"), (Cond.laysFinal "ScopeTree$ClassFile" "ScopeTree$ClassFile" "superName" "I"), (Cond.laysFinal "ScopeTree$ClassFile" "ScopeTree$ClassFile" "version" "I")], w ∈ aw_TB
  exact List.forall_mem_cons.mpr ⟨wT_2_77, List.forall_mem_cons.mpr ⟨wT_2_79, List.forall_mem_cons.mpr ⟨wT_2_81, fun _ h => absurd h List.not_mem_nil⟩⟩⟩
theorem nm_C : ∀ a, a < 3 → ∀ b, b < 3 → a ≠ b → (tn_C a).2.1 ≠ (tn_C b).2.1 := by decide +kernel
theorem tk_C : ∀ j, j < 3 → parseFieldDescriptor (tn_C j).2.2.1 = some (ty_C j) := by decide +kernel
theorem in_D : ∀ w ∈ u_ws "ScopeTree$Descriptor" tn_D 2, w ∈ aw_TB := by
  show ∀ w ∈ [(Cond.laysFinal "ScopeTree$Descriptor" "ScopeTree$Descriptor" "plugin" "I"), (Cond.laysFinal "ScopeTree$Descriptor" "ScopeTree$Descriptor" "name" "I")], w ∈ aw_TB
  exact List.forall_mem_cons.mpr ⟨wT_2_129, List.forall_mem_cons.mpr ⟨wT_2_131, fun _ h => absurd h List.not_mem_nil⟩⟩
theorem nm_D : ∀ a, a < 2 → ∀ b, b < 2 → a ≠ b → (tn_D a).2.1 ≠ (tn_D b).2.1 := by decide +kernel
theorem tk_D : ∀ j, j < 2 → parseFieldDescriptor (tn_D j).2.2.1 = some (ty_D j) := by decide +kernel
theorem in_F : ∀ w ∈ u_ws "ScopeTree$Filter" tn_F 3, w ∈ aw_TB := by
  show ∀ w ∈ [(Cond.laysFinal "ScopeTree$Filter" "ScopeTree$Filter" "packages" "I"), (Cond.laysFinal "ScopeTree$Filter" "ScopeTree$Filter" "allowed" "J"), (Cond.laysFinal "ScopeTree$Filter" "ScopeTree$Filter" "denied" "J")], w ∈ aw_TB
  exact List.forall_mem_cons.mpr ⟨wT_2_203, List.forall_mem_cons.mpr ⟨wT_2_205, List.forall_mem_cons.mpr ⟨wT_2_207, fun _ h => absurd h List.not_mem_nil⟩⟩⟩
theorem nm_F : ∀ a, a < 3 → ∀ b, b < 3 → a ≠ b → (tn_F a).2.1 ≠ (tn_F b).2.1 := by decide +kernel
theorem tk_F : ∀ j, j < 3 → parseFieldDescriptor (tn_F j).2.2.1 = some (ty_F j) := by decide +kernel
theorem in_L : ∀ w ∈ u_ws "ScopeTree$Loader" tn_L 8, w ∈ aw_TB := by
  show ∀ w ∈ [(Cond.laysFinal "ScopeTree$Loader" "ScopeTree$Loader" "number" "I"), (Cond.laysFinal "ScopeTree$Loader" "ScopeTree$Loader" "kind" "I"), (Cond.laysFinal "ScopeTree$Loader" "ScopeTree$Loader" "parent" "LScopeTree$Loader;"), (Cond.laysFinal "ScopeTree$Loader" "ScopeTree$Loader" "contents" "[LScopeTree$Archive;"), (Cond.laysFinal "ScopeTree$Loader" "ScopeTree$Loader" "filter" "LScopeTree$Filter;"), (Cond.lays "ScopeTree$Loader" "ScopeTree$Loader" "holders" "I"), (Cond.lays "ScopeTree$Loader" "ScopeTree$Loader" "definedCount" "I"), (Cond.lays "ScopeTree$Loader" "ScopeTree$Loader" "isGone" "Z")], w ∈ aw_TB
  exact List.forall_mem_cons.mpr ⟨wT_1_80, List.forall_mem_cons.mpr ⟨wT_1_82, List.forall_mem_cons.mpr ⟨wT_1_84, List.forall_mem_cons.mpr ⟨wT_1_86, List.forall_mem_cons.mpr ⟨wT_1_88, List.forall_mem_cons.mpr ⟨wT_1_90, List.forall_mem_cons.mpr ⟨wT_1_92, List.forall_mem_cons.mpr ⟨wT_1_94, fun _ h => absurd h List.not_mem_nil⟩⟩⟩⟩⟩⟩⟩⟩
theorem nm_L : ∀ a, a < 8 → ∀ b, b < 8 → a ≠ b → (tn_L a).2.1 ≠ (tn_L b).2.1 := by decide +kernel
theorem tk_L : ∀ j, j < 8 → parseFieldDescriptor (tn_L j).2.2.1 = some (ty_L j) := by decide +kernel
theorem in_P : ∀ w ∈ u_ws "ScopeTree$Path" tn_P 2, w ∈ aw_TB := by
  show ∀ w ∈ [(Cond.laysFinal "ScopeTree$Path" "ScopeTree$Path" "archives" "[I"), (Cond.lays "ScopeTree$Path" "ScopeTree$Path" "length" "I")], w ∈ aw_TB
  exact List.forall_mem_cons.mpr ⟨wT_1_138, List.forall_mem_cons.mpr ⟨wT_1_140, fun _ h => absurd h List.not_mem_nil⟩⟩
theorem nm_P : ∀ a, a < 2 → ∀ b, b < 2 → a ≠ b → (tn_P a).2.1 ≠ (tn_P b).2.1 := by decide +kernel
theorem tk_P : ∀ j, j < 2 → parseFieldDescriptor (tn_P j).2.2.1 = some (ty_P j) := by decide +kernel
theorem in_S : ∀ w ∈ u_ws "ScopeTree$Scope" tn_S 10, w ∈ aw_TB := by
  show ∀ w ∈ [(Cond.laysFinal "ScopeTree$Scope" "ScopeTree$Scope" "parent" "LScopeTree$Scope;"), (Cond.laysFinal "ScopeTree$Scope" "ScopeTree$Scope" "localPath" "LScopeTree$Path;"), (Cond.laysFinal "ScopeTree$Scope" "ScopeTree$Scope" "exportPath" "LScopeTree$Path;"), (Cond.lays "ScopeTree$Scope" "ScopeTree$Scope" "filter" "LScopeTree$Filter;"), (Cond.lays "ScopeTree$Scope" "ScopeTree$Scope" "state" "LScopeTree$State;"), (Cond.lays "ScopeTree$Scope" "ScopeTree$Scope" "baseLoader" "LScopeTree$Loader;"), (Cond.lays "ScopeTree$Scope" "ScopeTree$Scope" "exportLoader" "LScopeTree$Loader;"), (Cond.lays "ScopeTree$Scope" "ScopeTree$Scope" "localLoader" "LScopeTree$Loader;"), (Cond.laysFinal "ScopeTree$Scope" "ScopeTree$Scope" "applied" "[LScopeTree$Type;"), (Cond.lays "ScopeTree$Scope" "ScopeTree$Scope" "appliedCount" "I")], w ∈ aw_TB
  exact List.forall_mem_cons.mpr ⟨wT_1_162, List.forall_mem_cons.mpr ⟨wT_1_164, List.forall_mem_cons.mpr ⟨wT_1_166, List.forall_mem_cons.mpr ⟨wT_1_168, List.forall_mem_cons.mpr ⟨wT_1_170, List.forall_mem_cons.mpr ⟨wT_1_172, List.forall_mem_cons.mpr ⟨wT_1_174, List.forall_mem_cons.mpr ⟨wT_1_176, List.forall_mem_cons.mpr ⟨wT_1_178, List.forall_mem_cons.mpr ⟨wT_1_180, fun _ h => absurd h List.not_mem_nil⟩⟩⟩⟩⟩⟩⟩⟩⟩⟩
theorem nm_S : ∀ a, a < 10 → ∀ b, b < 10 → a ≠ b → (tn_S a).2.1 ≠ (tn_S b).2.1 := by decide +kernel
theorem tk_S : ∀ j, j < 10 → parseFieldDescriptor (tn_S j).2.2.1 = some (ty_S j) := by decide +kernel
theorem in_Y : ∀ w ∈ u_ws "ScopeTree$Type" tn_Y 5, w ∈ aw_TB := by
  show ∀ w ∈ [(Cond.laysFinal "ScopeTree$Type" "ScopeTree$Type" "number" "I"), (Cond.laysFinal "ScopeTree$Type" "ScopeTree$Type" "name" "I"), (Cond.laysFinal "ScopeTree$Type" "ScopeTree$Type" "version" "I"), (Cond.laysFinal "ScopeTree$Type" "ScopeTree$Type" "definer" "LScopeTree$Loader;"), (Cond.laysFinal "ScopeTree$Type" "ScopeTree$Type" "superType" "LScopeTree$Type;")], w ∈ aw_TB
  exact List.forall_mem_cons.mpr ⟨wT_1_112, List.forall_mem_cons.mpr ⟨wT_1_114, List.forall_mem_cons.mpr ⟨wT_1_116, List.forall_mem_cons.mpr ⟨wT_1_118, List.forall_mem_cons.mpr ⟨wT_1_120, fun _ h => absurd h List.not_mem_nil⟩⟩⟩⟩⟩
theorem nm_Y : ∀ a, a < 5 → ∀ b, b < 5 → a ≠ b → (tn_Y a).2.1 ≠ (tn_Y b).2.1 := by decide +kernel
theorem tk_Y : ∀ j, j < 5 → parseFieldDescriptor (tn_Y j).2.2.1 = some (ty_Y j) := by decide +kernel
theorem in_T : ∀ w ∈ u_ws "ScopeTree" tn_T 8, w ∈ aw_TB := by
  show ∀ w ∈ [(Cond.laysFinal "ScopeTree" "ScopeTree" "archives" "[LScopeTree$Archive;"), (Cond.laysFinal "ScopeTree" "ScopeTree" "scopes" "[LScopeTree$Scope;"), (Cond.lays "ScopeTree" "ScopeTree" "scopeCount" "I"), (Cond.laysFinal "ScopeTree" "ScopeTree" "loaders" "[LScopeTree$Loader;"), (Cond.laysFinal "ScopeTree" "ScopeTree" "types" "[LScopeTree$Type;"), (Cond.lays "ScopeTree" "ScopeTree" "typeCount" "I"), (Cond.laysFinal "ScopeTree" "ScopeTree" "openLoaders" "[LScopeTree$Loader;"), (Cond.laysFinal "ScopeTree" "ScopeTree" "openNames" "[I")], w ∈ aw_TB
  exact List.forall_mem_cons.mpr ⟨wT_1_193, List.forall_mem_cons.mpr ⟨wT_1_195, List.forall_mem_cons.mpr ⟨wT_1_197, List.forall_mem_cons.mpr ⟨wT_1_199, List.forall_mem_cons.mpr ⟨wT_1_201, List.forall_mem_cons.mpr ⟨wT_1_203, List.forall_mem_cons.mpr ⟨wT_1_205, List.forall_mem_cons.mpr ⟨wT_1_207, fun _ h => absurd h List.not_mem_nil⟩⟩⟩⟩⟩⟩⟩⟩
theorem nm_T : ∀ a, a < 8 → ∀ b, b < 8 → a ≠ b → (tn_T a).2.1 ≠ (tn_T b).2.1 := by decide +kernel
theorem tk_T : ∀ j, j < 8 → parseFieldDescriptor (tn_T j).2.2.1 = some (ty_T j) := by decide +kernel
theorem in_M : ∀ w ∈ u_ws "ScopeTreeModel" tn_M 33, w ∈ aw_TB := by
  show ∀ w ∈ [(Cond.lays "ScopeTreeModel" "ScopeTreeModel" "thrown" "I"), (Cond.laysFinal "ScopeTreeModel" "ScopeTreeModel" "files" "[I"), (Cond.laysFinal "ScopeTreeModel" "ScopeTreeModel" "file" "[I"), (Cond.laysFinal "ScopeTreeModel" "ScopeTreeModel" "descriptors" "[I"), (Cond.laysFinal "ScopeTreeModel" "ScopeTreeModel" "descriptor" "[I"), (Cond.laysFinal "ScopeTreeModel" "ScopeTreeModel" "there" "[Z"), (Cond.laysFinal "ScopeTreeModel" "ScopeTreeModel" "kind" "[I"), (Cond.laysFinal "ScopeTreeModel" "ScopeTreeModel" "parent" "[I"), (Cond.laysFinal "ScopeTreeModel" "ScopeTreeModel" "pathLength" "[I"), (Cond.laysFinal "ScopeTreeModel" "ScopeTreeModel" "filterPackages" "[I"), (Cond.laysFinal "ScopeTreeModel" "ScopeTreeModel" "filterAllowed" "[J"), (Cond.laysFinal "ScopeTreeModel" "ScopeTreeModel" "filterDenied" "[J"), (Cond.lays "ScopeTreeModel" "ScopeTreeModel" "scopes" "I"), (Cond.laysFinal "ScopeTreeModel" "ScopeTreeModel" "state" "[I"), (Cond.laysFinal "ScopeTreeModel" "ScopeTreeModel" "above" "[I"), (Cond.laysFinal "ScopeTreeModel" "ScopeTreeModel" "paths" "[I"), (Cond.laysFinal "ScopeTreeModel" "ScopeTreeModel" "lengths" "[I"), (Cond.laysFinal "ScopeTreeModel" "ScopeTreeModel" "filtered" "[Z"), (Cond.laysFinal "ScopeTreeModel" "ScopeTreeModel" "packages" "[I"), (Cond.laysFinal "ScopeTreeModel" "ScopeTreeModel" "allowed" "[J"), (Cond.laysFinal "ScopeTreeModel" "ScopeTreeModel" "denied" "[J"), (Cond.laysFinal "ScopeTreeModel" "ScopeTreeModel" "three" "[I"), (Cond.laysFinal "ScopeTreeModel" "ScopeTreeModel" "applied" "[I"), (Cond.laysFinal "ScopeTreeModel" "ScopeTreeModel" "appliedCount" "[I"), (Cond.lays "ScopeTreeModel" "ScopeTreeModel" "classes" "I"), (Cond.laysFinal "ScopeTreeModel" "ScopeTreeModel" "nameOf" "[I"), (Cond.laysFinal "ScopeTreeModel" "ScopeTreeModel" "loaderOf" "[I"), (Cond.laysFinal "ScopeTreeModel" "ScopeTreeModel" "versionOf" "[I"), (Cond.laysFinal "ScopeTreeModel" "ScopeTreeModel" "superOf" "[I"), (Cond.lays "ScopeTreeModel" "ScopeTreeModel" "foundLoader" "I"), (Cond.lays "ScopeTreeModel" "ScopeTreeModel" "foundFile" "I"), (Cond.laysFinal "ScopeTreeModel" "ScopeTreeModel" "waitingLoader" "[I"), (Cond.laysFinal "ScopeTreeModel" "ScopeTreeModel" "waitingFile" "[I")], w ∈ aw_TB
  exact List.forall_mem_cons.mpr ⟨wT_3_239, List.forall_mem_cons.mpr ⟨wT_4_1, List.forall_mem_cons.mpr ⟨wT_4_3, List.forall_mem_cons.mpr ⟨wT_4_5, List.forall_mem_cons.mpr ⟨wT_4_7, List.forall_mem_cons.mpr ⟨wT_4_9, List.forall_mem_cons.mpr ⟨wT_4_11, List.forall_mem_cons.mpr ⟨wT_4_13, List.forall_mem_cons.mpr ⟨wT_4_15, List.forall_mem_cons.mpr ⟨wT_4_17, List.forall_mem_cons.mpr ⟨wT_4_19, List.forall_mem_cons.mpr ⟨wT_4_21, List.forall_mem_cons.mpr ⟨wT_4_23, List.forall_mem_cons.mpr ⟨wT_4_25, List.forall_mem_cons.mpr ⟨wT_4_27, List.forall_mem_cons.mpr ⟨wT_4_29, List.forall_mem_cons.mpr ⟨wT_4_31, List.forall_mem_cons.mpr ⟨wT_4_33, List.forall_mem_cons.mpr ⟨wT_4_35, List.forall_mem_cons.mpr ⟨wT_4_37, List.forall_mem_cons.mpr ⟨wT_4_39, List.forall_mem_cons.mpr ⟨wT_4_41, List.forall_mem_cons.mpr ⟨wT_4_43, List.forall_mem_cons.mpr ⟨wT_4_45, List.forall_mem_cons.mpr ⟨wT_4_47, List.forall_mem_cons.mpr ⟨wT_4_49, List.forall_mem_cons.mpr ⟨wT_4_51, List.forall_mem_cons.mpr ⟨wT_4_53, List.forall_mem_cons.mpr ⟨wT_4_55, List.forall_mem_cons.mpr ⟨wT_4_57, List.forall_mem_cons.mpr ⟨wT_4_59, List.forall_mem_cons.mpr ⟨wT_4_61, List.forall_mem_cons.mpr ⟨wT_4_63, fun _ h => absurd h List.not_mem_nil⟩⟩⟩⟩⟩⟩⟩⟩⟩⟩⟩⟩⟩⟩⟩⟩⟩⟩⟩⟩⟩⟩⟩⟩⟩⟩⟩⟩⟩⟩⟩⟩⟩
theorem nm_M : ∀ a, a < 33 → ∀ b, b < 33 → a ≠ b → (tn_M a).2.1 ≠ (tn_M b).2.1 := by decide +kernel
theorem tk_M : ∀ j, j < 33 → parseFieldDescriptor (tn_M j).2.2.1 = some (ty_M j) := by decide +kernel
abbrev mT_init : aw_M := (⟨"ScopeTree", "<init>", "()V"⟩, prog_1_method_1_code, 3, none, [])
abbrev mA_init : aw_M := (⟨"ScopeTree$Archive", "<init>", "()V"⟩, prog_2_method_1_code, 1, none, [])
abbrev mL_init : aw_M := (⟨"ScopeTree$Loader", "<init>", "(IILScopeTree$Loader;[LScopeTree$Archive;LScopeTree$Filter;)V"⟩, prog_6_method_1_code, 6, none, [])
abbrev mY_init : aw_M := (⟨"ScopeTree$Type", "<init>", "(IIILScopeTree$Loader;LScopeTree$Type;)V"⟩, prog_10_method_1_code, 6, none, [])
abbrev mS_init : aw_M := (⟨"ScopeTree$Scope", "<init>", "(LScopeTree$Scope;)V"⟩, prog_8_method_1_code, 2, none, [])
abbrev mP_init : aw_M := (⟨"ScopeTree$Path", "<init>", "()V"⟩, prog_7_method_1_code, 1, none, [])
abbrev mT_look : aw_M := (⟨"ScopeTree", "look", "(II)I"⟩, prog_1_method_11_code, 4, some .int, [])
abbrev mT_isBelow : aw_M := (⟨"ScopeTree", "isBelow", "(II)Z"⟩, prog_1_method_17_code, 2, some .boolean, [])
abbrev mW_file : aw_M := (⟨"ScopeTreeLaw", "file", "(LScopeTree;IIII[J)I"⟩, method_3_code, 7, some .int, [(0, 14, 17, 13), (0, 14, 21, 15)])
abbrev mT_file : aw_M := (⟨"ScopeTree", "file", "(IIII)I"⟩, prog_1_method_2_code, 6, some .int, [])
abbrev mT_archiveAt : aw_M := (⟨"ScopeTree", "archiveAt", "(I)LScopeTree$Archive;"⟩, prog_1_method_18_code, 2, some (.object "ScopeTree$Archive"), [])
abbrev mC_init : aw_M := (⟨"ScopeTree$ClassFile", "<init>", "(III)V"⟩, prog_3_method_1_code, 4, none, [])
abbrev mR_init : aw_M := (⟨"java/lang/Record", "<init>", "()V"⟩, prog_18_method_1_code, 1, none, [])
abbrev mA_putFile : aw_M := (⟨"ScopeTree$Archive", "putFile", "(LScopeTree$ClassFile;)Z"⟩, prog_2_method_4_code, 3, some .boolean, [])
abbrev mA_placeOfFile : aw_M := (⟨"ScopeTree$Archive", "placeOfFile", "(I)I"⟩, prog_2_method_6_code, 3, some .int, [])
abbrev mW_descriptor : aw_M := (⟨"ScopeTreeLaw", "descriptor", "(LScopeTree;III[J)I"⟩, method_4_code, 6, some .int, [(0, 12, 15, 13), (0, 12, 19, 15)])
abbrev mT_descriptor : aw_M := (⟨"ScopeTree", "descriptor", "(III)I"⟩, prog_1_method_3_code, 5, some .int, [])
abbrev mD_init : aw_M := (⟨"ScopeTree$Descriptor", "<init>", "(II)V"⟩, prog_4_method_1_code, 3, none, [])
abbrev mA_putDescriptor : aw_M := (⟨"ScopeTree$Archive", "putDescriptor", "(LScopeTree$Descriptor;)Z"⟩, prog_2_method_5_code, 3, some .boolean, [])
abbrev mA_placeOfDescriptor : aw_M := (⟨"ScopeTree$Archive", "placeOfDescriptor", "(I)I"⟩, prog_2_method_7_code, 3, some .int, [])
abbrev mW_wipe : aw_M := (⟨"ScopeTreeLaw", "wipe", "(LScopeTree;I)I"⟩, method_5_code, 3, some .int, [(0, 5, 8, 13)])
abbrev mT_wipe : aw_M := (⟨"ScopeTree", "wipe", "(I)V"⟩, prog_1_method_4_code, 3, none, [])
abbrev mW_child : aw_M := (⟨"ScopeTreeLaw", "child", "(LScopeTree;I[J)I"⟩, method_6_code, 4, some .int, [(0, 9, 12, 13), (0, 9, 15, 15)])
abbrev mT_child : aw_M := (⟨"ScopeTree", "child", "(I)I"⟩, prog_1_method_5_code, 3, some .int, [])
abbrev mT_scopeAt : aw_M := (⟨"ScopeTree", "scopeAt", "(I)LScopeTree$Scope;"⟩, prog_1_method_19_code, 2, some (.object "ScopeTree$Scope"), [])
abbrev mW_add : aw_M := (⟨"ScopeTreeLaw", "add", "(LScopeTree;IIZ[J)I"⟩, method_7_code, 6, some .int, [(0, 19, 22, 13), (0, 19, 26, 15)])
abbrev mT_add : aw_M := (⟨"ScopeTree", "add", "(IIZ)Z"⟩, prog_1_method_6_code, 5, some .boolean, [])
abbrev mT_requireOpen : aw_M := (⟨"ScopeTree", "requireOpen", "(LScopeTree$Scope;)V"⟩, prog_1_method_21_code, 1, none, [])
abbrev mP_append : aw_M := (⟨"ScopeTree$Path", "append", "(I)Z"⟩, prog_7_method_2_code, 2, some .boolean, [])
abbrev mP_contains : aw_M := (⟨"ScopeTree$Path", "contains", "(I)Z"⟩, prog_7_method_3_code, 3, some .boolean, [])
abbrev mW_filter : aw_M := (⟨"ScopeTreeLaw", "filter", "(LScopeTree;IIJJ)I"⟩, method_8_code, 8, some .int, [(0, 9, 12, 13), (0, 9, 16, 15)])
abbrev mT_filter : aw_M := (⟨"ScopeTree", "filter", "(IIJJ)V"⟩, prog_1_method_7_code, 8, none, [])
abbrev mF_init : aw_M := (⟨"ScopeTree$Filter", "<init>", "(IJJ)V"⟩, prog_5_method_1_code, 6, none, [])
abbrev mW_lock : aw_M := (⟨"ScopeTreeLaw", "lock", "(LScopeTree;I[J)I"⟩, method_9_code, 4, some .int, [(0, 9, 12, 13), (0, 9, 15, 15), (0, 9, 18, 40)])
abbrev mT_lock : aw_M := (⟨"ScopeTree", "lock", "(I)I"⟩, prog_1_method_8_code, 4, some .int, [])
abbrev mT_freeLoaderNumbers : aw_M := (⟨"ScopeTree", "freeLoaderNumbers", "()I"⟩, prog_1_method_24_code, 3, some .int, [])
abbrev mT_wantedDefining : aw_M := (⟨"ScopeTree", "wantedDefining", "(LScopeTree$Path;LScopeTree$Loader;)LScopeTree$Loader;"⟩, prog_1_method_25_code, 6, some (.object "ScopeTree$Loader"), [])
abbrev mT_contentsOf : aw_M := (⟨"ScopeTree", "contentsOf", "(LScopeTree$Path;)[LScopeTree$Archive;"⟩, prog_1_method_27_code, 4, some (.array (.object "ScopeTree$Archive")), [])
abbrev mA_copy : aw_M := (⟨"ScopeTree$Archive", "copy", "()LScopeTree$Archive;"⟩, prog_2_method_8_code, 3, some (.object "ScopeTree$Archive"), [])
abbrev mL_hasPathLike : aw_M := (⟨"ScopeTree$Loader", "hasPathLike", "([LScopeTree$Archive;)Z"⟩, prog_6_method_4_code, 3, some .boolean, [])
abbrev mA_isLike : aw_M := (⟨"ScopeTree$Archive", "isLike", "(LScopeTree$Archive;)Z"⟩, prog_2_method_9_code, 3, some .boolean, [])
abbrev mA_fileOf : aw_M := (⟨"ScopeTree$Archive", "fileOf", "(I)LScopeTree$ClassFile;"⟩, prog_2_method_2_code, 3, some (.object "ScopeTree$ClassFile"), [])
abbrev mC_isSame : aw_M := (⟨"ScopeTree$ClassFile", "isSame", "(LScopeTree$ClassFile;)Z"⟩, prog_3_method_2_code, 2, some .boolean, [])
abbrev mA_descriptorOf : aw_M := (⟨"ScopeTree$Archive", "descriptorOf", "(I)LScopeTree$Descriptor;"⟩, prog_2_method_3_code, 3, some (.object "ScopeTree$Descriptor"), [])
abbrev mD_isSame : aw_M := (⟨"ScopeTree$Descriptor", "isSame", "(LScopeTree$Descriptor;)Z"⟩, prog_4_method_2_code, 2, some .boolean, [])
abbrev mT_newLoader : aw_M := (⟨"ScopeTree", "newLoader", "(ILScopeTree$Loader;[LScopeTree$Archive;LScopeTree$Filter;)LScopeTree$Loader;"⟩, prog_1_method_28_code, 7, some (.object "ScopeTree$Loader"), [])
abbrev mT_leastFreeLoaderNumber : aw_M := (⟨"ScopeTree", "leastFreeLoaderNumber", "()I"⟩, prog_1_method_29_code, 2, some .int, [])
abbrev mT_wantedFiltering : aw_M := (⟨"ScopeTree", "wantedFiltering", "(LScopeTree$Filter;LScopeTree$Loader;)LScopeTree$Loader;"⟩, prog_1_method_26_code, 5, some (.object "ScopeTree$Loader"), [])
abbrev mF_isSame : aw_M := (⟨"ScopeTree$Filter", "isSame", "(LScopeTree$Filter;)Z"⟩, prog_5_method_3_code, 2, some .boolean, [])
abbrev mW_release : aw_M := (⟨"ScopeTreeLaw", "release", "(LScopeTree;I[J)I"⟩, method_10_code, 4, some .int, [(0, 9, 12, 13), (0, 9, 15, 15)])
abbrev mT_release : aw_M := (⟨"ScopeTree", "release", "(I)I"⟩, prog_1_method_9_code, 4, some .int, [])
abbrev mT_hasChildLeft : aw_M := (⟨"ScopeTree", "hasChildLeft", "(LScopeTree$Scope;)Z"⟩, prog_1_method_23_code, 3, some .boolean, [])
abbrev mT_letGo : aw_M := (⟨"ScopeTree", "letGo", "(LScopeTree$Loader;)I"⟩, prog_1_method_30_code, 4, some .int, [])
abbrev mW_loader : aw_M := (⟨"ScopeTreeLaw", "loader", "(LScopeTree;IZ[J)I"⟩, method_11_code, 5, some .int, [(0, 10, 13, 13)])
abbrev mT_loader : aw_M := (⟨"ScopeTree", "loader", "(IZ)I"⟩, prog_1_method_10_code, 4, some .int, [])
abbrev mW_load : aw_M := (⟨"ScopeTreeLaw", "load", "(LScopeTree;II[J)I"⟩, method_12_code, 5, some .int, [(0, 10, 13, 13), (0, 10, 17, 15), (0, 10, 21, 53), (0, 10, 25, 40)])
abbrev mT_load : aw_M := (⟨"ScopeTree", "load", "(II)I"⟩, prog_1_method_12_code, 4, some .int, [])
abbrev mT_requireLocked : aw_M := (⟨"ScopeTree", "requireLocked", "(LScopeTree$Scope;)V"⟩, prog_1_method_22_code, 1, none, [])
abbrev mT_typeFromScope : aw_M := (⟨"ScopeTree", "typeFromScope", "(LScopeTree$Scope;I)LScopeTree$Type;"⟩, prog_1_method_31_code, 4, some (.object "ScopeTree$Type"), [])
abbrev mT_findFrom : aw_M := (⟨"ScopeTree", "findFrom", "(LScopeTree$Loader;II)LScopeTree$Type;"⟩, prog_1_method_32_code, 6, some (.object "ScopeTree$Type"), [])
abbrev mF_admits : aw_M := (⟨"ScopeTree$Filter", "admits", "(I)Z"⟩, prog_5_method_2_code, 2, some .boolean, [])
abbrev mL_fileOf : aw_M := (⟨"ScopeTree$Loader", "fileOf", "(I)LScopeTree$ClassFile;"⟩, prog_6_method_2_code, 4, some (.object "ScopeTree$ClassFile"), [])
abbrev mT_typeDefinedBy : aw_M := (⟨"ScopeTree", "typeDefinedBy", "(LScopeTree$Loader;LScopeTree$ClassFile;I)LScopeTree$Type;"⟩, prog_1_method_33_code, 6, some (.object "ScopeTree$Type"), [])
abbrev mT_knownType : aw_M := (⟨"ScopeTree", "knownType", "(LScopeTree$Loader;I)LScopeTree$Type;"⟩, prog_1_method_34_code, 4, some (.object "ScopeTree$Type"), [])
abbrev mT_isBeingDefined : aw_M := (⟨"ScopeTree", "isBeingDefined", "(LScopeTree$Loader;II)Z"⟩, prog_1_method_35_code, 5, some .boolean, [])
abbrev mT_newType : aw_M := (⟨"ScopeTree", "newType", "(LScopeTree$ClassFile;LScopeTree$Loader;LScopeTree$Type;)LScopeTree$Type;"⟩, prog_1_method_36_code, 5, some (.object "ScopeTree$Type"), [])
abbrev mW_info : aw_M := (⟨"ScopeTreeLaw", "info", "(LScopeTree;II[J)I"⟩, method_13_code, 5, some .int, [(0, 10, 13, 53)])
abbrev mT_info : aw_M := (⟨"ScopeTree", "info", "(II)I"⟩, prog_1_method_13_code, 4, some .int, [])
abbrev mT_typeAt : aw_M := (⟨"ScopeTree", "typeAt", "(I)LScopeTree$Type;"⟩, prog_1_method_20_code, 2, some (.object "ScopeTree$Type"), [])
abbrev mW_isA : aw_M := (⟨"ScopeTreeLaw", "isA", "(LScopeTree;II[J)I"⟩, method_14_code, 5, some .int, [(0, 17, 20, 53)])
abbrev mT_isA : aw_M := (⟨"ScopeTree", "isA", "(II)Z"⟩, prog_1_method_14_code, 3, some .boolean, [])
abbrev mT_isSubtype : aw_M := (⟨"ScopeTree", "isSubtype", "(LScopeTree$Type;LScopeTree$Type;)Z"⟩, prog_1_method_37_code, 3, some .boolean, [])
abbrev mW_apply : aw_M := (⟨"ScopeTreeLaw", "apply", "(LScopeTree;II[J)I"⟩, method_15_code, 5, some .int, [(0, 10, 13, 13), (0, 10, 17, 15), (0, 10, 21, 53), (0, 10, 25, 40)])
abbrev mT_apply : aw_M := (⟨"ScopeTree", "apply", "(II)I"⟩, prog_1_method_15_code, 6, some .int, [])
abbrev mT_visibleDescriptor : aw_M := (⟨"ScopeTree", "visibleDescriptor", "(LScopeTree$Loader;I)LScopeTree$Descriptor;"⟩, prog_1_method_38_code, 4, some (.object "ScopeTree$Descriptor"), [])
abbrev mL_descriptorOf : aw_M := (⟨"ScopeTree$Loader", "descriptorOf", "(I)LScopeTree$Descriptor;"⟩, prog_6_method_3_code, 4, some (.object "ScopeTree$Descriptor"), [])
abbrev mT_isLetThrough : aw_M := (⟨"ScopeTree", "isLetThrough", "(LScopeTree$Loader;LScopeTree$Loader;I)Z"⟩, prog_1_method_39_code, 4, some .boolean, [])
abbrev mS_hasApplied : aw_M := (⟨"ScopeTree$Scope", "hasApplied", "(LScopeTree$Type;)Z"⟩, prog_8_method_2_code, 3, some .boolean, [])
abbrev mS_appendApplied : aw_M := (⟨"ScopeTree$Scope", "appendApplied", "(LScopeTree$Type;)Z"⟩, prog_8_method_3_code, 2, some .boolean, [])
abbrev mW_applied : aw_M := (⟨"ScopeTreeLaw", "applied", "(LScopeTree;II[J)I"⟩, method_16_code, 5, some .int, [(0, 10, 13, 13)])
abbrev mT_applied : aw_M := (⟨"ScopeTree", "applied", "(II)I"⟩, prog_1_method_16_code, 4, some .int, [])
abbrev mM_init : aw_M := (⟨"ScopeTreeModel", "<init>", "()V"⟩, prog_12_method_1_code, 2, none, [])
abbrev mM_thrown : aw_M := (⟨"ScopeTreeModel", "thrown", "()I"⟩, prog_12_method_2_code, 1, some .int, [])
abbrev mM_file : aw_M := (⟨"ScopeTreeModel", "file", "(IIII)I"⟩, prog_12_method_5_code, 7, some .int, [])
abbrev mM_in : aw_M := (⟨"ScopeTreeModel", "in", "(III)Z"⟩, prog_12_method_4_code, 3, some .boolean, [])
abbrev mM_fails : aw_M := (⟨"ScopeTreeModel", "fails", "(ZI)Z"⟩, prog_12_method_3_code, 3, some .boolean, [])
abbrev mM_descriptor : aw_M := (⟨"ScopeTreeModel", "descriptor", "(III)I"⟩, prog_12_method_6_code, 5, some .int, [])
abbrev mM_wipe : aw_M := (⟨"ScopeTreeModel", "wipe", "(I)V"⟩, prog_12_method_7_code, 2, none, [])
abbrev mM_child : aw_M := (⟨"ScopeTreeModel", "child", "(I)I"⟩, prog_12_method_21_code, 2, some .int, [])
abbrev mM_noScope : aw_M := (⟨"ScopeTreeModel", "noScope", "(I)Z"⟩, prog_12_method_20_code, 2, some .boolean, [])
abbrev mM_add : aw_M := (⟨"ScopeTreeModel", "add", "(IIZ)Z"⟩, prog_12_method_22_code, 7, some .boolean, [])
abbrev mM_filter : aw_M := (⟨"ScopeTreeModel", "filter", "(IIJJ)V"⟩, prog_12_method_23_code, 7, none, [])
abbrev mM_lock : aw_M := (⟨"ScopeTreeModel", "lock", "(I)I"⟩, prog_12_method_24_code, 5, some .int, [])
abbrev mM_freeLoaders : aw_M := (⟨"ScopeTreeModel", "freeLoaders", "()I"⟩, prog_12_method_13_code, 3, some .int, [])
abbrev mM_defining : aw_M := (⟨"ScopeTreeModel", "defining", "(III)I"⟩, prog_12_method_15_code, 9, some .int, [])
abbrev mM_alike : aw_M := (⟨"ScopeTreeModel", "alike", "(II)Z"⟩, prog_12_method_11_code, 7, some .boolean, [])
abbrev mM_fileOf : aw_M := (⟨"ScopeTreeModel", "fileOf", "(II)I"⟩, prog_12_method_9_code, 5, some .int, [])
abbrev mM_described : aw_M := (⟨"ScopeTreeModel", "described", "(II)I"⟩, prog_12_method_10_code, 5, some .int, [])
abbrev mM_begin : aw_M := (⟨"ScopeTreeModel", "begin", "(II)I"⟩, prog_12_method_14_code, 4, some .int, [])
abbrev mM_freeLoader : aw_M := (⟨"ScopeTreeModel", "freeLoader", "()I"⟩, prog_12_method_12_code, 2, some .int, [])
abbrev mM_copySheet : aw_M := (⟨"ScopeTreeModel", "copySheet", "(II)V"⟩, prog_12_method_8_code, 4, none, [])
abbrev mM_filtering : aw_M := (⟨"ScopeTreeModel", "filtering", "(II)I"⟩, prog_12_method_16_code, 4, some .int, [])
abbrev mM_release : aw_M := (⟨"ScopeTreeModel", "release", "(I)I"⟩, prog_12_method_25_code, 4, some .int, [])
abbrev mM_sweep : aw_M := (⟨"ScopeTreeModel", "sweep", "()I"⟩, prog_12_method_19_code, 5, some .int, [])
abbrev mM_holders : aw_M := (⟨"ScopeTreeModel", "holders", "(I)I"⟩, prog_12_method_18_code, 5, some .int, [])
abbrev mM_loader : aw_M := (⟨"ScopeTreeModel", "loader", "(IZ)I"⟩, prog_12_method_26_code, 3, some .int, [])
abbrev mM_look : aw_M := (⟨"ScopeTreeModel", "look", "(II)I"⟩, prog_12_method_27_code, 5, some .int, [])
abbrev mM_load : aw_M := (⟨"ScopeTreeModel", "load", "(II)I"⟩, prog_12_method_32_code, 3, some .int, [])
abbrev mM_loads : aw_M := (⟨"ScopeTreeModel", "loads", "(II)I"⟩, prog_12_method_31_code, 4, some .int, [])
abbrev mM_resolve : aw_M := (⟨"ScopeTreeModel", "resolve", "(II)I"⟩, prog_12_method_30_code, 8, some .int, [])
abbrev mM_seek : aw_M := (⟨"ScopeTreeModel", "seek", "(II)Z"⟩, prog_12_method_28_code, 5, some .boolean, [])
abbrev mM_admits : aw_M := (⟨"ScopeTreeModel", "admits", "(II)Z"⟩, prog_12_method_17_code, 3, some .boolean, [])
abbrev mM_definedBy : aw_M := (⟨"ScopeTreeModel", "definedBy", "(II)I"⟩, prog_12_method_29_code, 5, some .int, [])
abbrev mM_info : aw_M := (⟨"ScopeTreeModel", "info", "(II)I"⟩, prog_12_method_33_code, 3, some .int, [])
abbrev mM_isA : aw_M := (⟨"ScopeTreeModel", "isA", "(II)Z"⟩, prog_12_method_35_code, 3, some .boolean, [])
abbrev mM_descends : aw_M := (⟨"ScopeTreeModel", "descends", "(II)Z"⟩, prog_12_method_34_code, 4, some .boolean, [])
abbrev mM_apply : aw_M := (⟨"ScopeTreeModel", "apply", "(II)I"⟩, prog_12_method_37_code, 7, some .int, [])
abbrev mM_describedFrom : aw_M := (⟨"ScopeTreeModel", "describedFrom", "(II)I"⟩, prog_12_method_36_code, 9, some .int, [])
abbrev mM_applied : aw_M := (⟨"ScopeTreeModel", "applied", "(II)I"⟩, prog_12_method_38_code, 3, some .int, [])
theorem cb_T_init : aw_CB mT_init 0 := ⟨rfl, rfl, by decide, wT_1_26, wT_1_1, by decide, by decide, by decide +kernel⟩
theorem cb_A_init : aw_CB mA_init 0 := ⟨rfl, rfl, by decide, wT_1_41, wT_1_2, by decide, by decide, by decide +kernel⟩
theorem cb_L_init : aw_CB mL_init 5 := ⟨rfl, rfl, by decide, wT_1_66, wT_1_3, by decide, by decide, by decide +kernel⟩
theorem cb_Y_init : aw_CB mY_init 5 := ⟨rfl, rfl, by decide, wT_1_100, wT_1_4, by decide, by decide, by decide +kernel⟩
theorem cb_S_init : aw_CB mS_init 1 := ⟨rfl, rfl, by decide, wT_1_126, wT_1_5, by decide, by decide, by decide +kernel⟩
theorem cb_P_init : aw_CB mP_init 0 := ⟨rfl, rfl, by decide, wT_1_132, wT_1_6, by decide, by decide, by decide +kernel⟩
theorem cb_T_look : aw_CB mT_look 2 := ⟨rfl, rfl, by decide, wT_1_213, wT_1_1, by decide, by decide, by decide +kernel⟩
theorem cb_T_isBelow : aw_CB mT_isBelow 2 := ⟨rfl, rfl, by decide, wT_1_216, wT_1_1, by decide, by decide, by decide +kernel⟩
theorem cb_W_file : aw_CBW mW_file 6 := ⟨rfl, by decide, wT_1_219, wT_1_0, by decide, by decide, by decide +kernel⟩
theorem cb_T_file : aw_CB mT_file 4 := ⟨rfl, rfl, by decide, wT_1_225, wT_1_1, by decide, by decide, by decide +kernel⟩
theorem cb_T_archiveAt : aw_CB mT_archiveAt 1 := ⟨rfl, rfl, by decide, wT_1_229, wT_1_1, by decide, by decide, by decide +kernel⟩
theorem cb_C_init : aw_CB mC_init 3 := ⟨rfl, rfl, by decide, wT_2_65, wT_1_15, by decide, by decide, by decide +kernel⟩
theorem cb_R_init : aw_CB mR_init 0 := ⟨rfl, rfl, by decide, wT_2_68, wT_1_14, by decide, by decide, by decide +kernel⟩
theorem cb_A_putFile : aw_CB mA_putFile 1 := ⟨rfl, rfl, by decide, wT_2_87, wT_1_2, by decide, by decide, by decide +kernel⟩
theorem cb_A_placeOfFile : aw_CB mA_placeOfFile 1 := ⟨rfl, rfl, by decide, wT_2_91, wT_1_2, by decide, by decide, by decide +kernel⟩
theorem cb_W_descriptor : aw_CBW mW_descriptor 5 := ⟨rfl, by decide, wT_2_113, wT_1_0, by decide, by decide, by decide +kernel⟩
theorem cb_T_descriptor : aw_CB mT_descriptor 3 := ⟨rfl, rfl, by decide, wT_2_117, wT_1_1, by decide, by decide, by decide +kernel⟩
theorem cb_D_init : aw_CB mD_init 2 := ⟨rfl, rfl, by decide, wT_2_123, wT_1_18, by decide, by decide, by decide +kernel⟩
theorem cb_A_putDescriptor : aw_CB mA_putDescriptor 1 := ⟨rfl, rfl, by decide, wT_2_137, wT_1_2, by decide, by decide, by decide +kernel⟩
theorem cb_A_placeOfDescriptor : aw_CB mA_placeOfDescriptor 1 := ⟨rfl, rfl, by decide, wT_2_141, wT_1_2, by decide, by decide, by decide +kernel⟩
theorem cb_W_wipe : aw_CBW mW_wipe 2 := ⟨rfl, by decide, wT_2_145, wT_1_0, by decide, by decide, by decide +kernel⟩
theorem cb_T_wipe : aw_CB mT_wipe 1 := ⟨rfl, rfl, by decide, wT_2_149, wT_1_1, by decide, by decide, by decide +kernel⟩
theorem cb_W_child : aw_CBW mW_child 3 := ⟨rfl, by decide, wT_2_152, wT_1_0, by decide, by decide, by decide +kernel⟩
theorem cb_T_child : aw_CB mT_child 1 := ⟨rfl, rfl, by decide, wT_2_156, wT_1_1, by decide, by decide, by decide +kernel⟩
theorem cb_T_scopeAt : aw_CB mT_scopeAt 1 := ⟨rfl, rfl, by decide, wT_2_160, wT_1_1, by decide, by decide, by decide +kernel⟩
theorem cb_W_add : aw_CBW mW_add 5 := ⟨rfl, by decide, wT_2_168, wT_1_0, by decide, by decide, by decide +kernel⟩
theorem cb_T_add : aw_CB mT_add 3 := ⟨rfl, rfl, by decide, wT_2_172, wT_1_1, by decide, by decide, by decide +kernel⟩
theorem cb_T_requireOpen : aw_CB mT_requireOpen 1 := ⟨rfl, rfl, by decide, wT_2_175, wT_1_1, by decide, by decide, by decide +kernel⟩
theorem cb_P_append : aw_CB mP_append 1 := ⟨rfl, rfl, by decide, wT_2_181, wT_1_6, by decide, by decide, by decide +kernel⟩
theorem cb_P_contains : aw_CB mP_contains 1 := ⟨rfl, rfl, by decide, wT_2_185, wT_1_6, by decide, by decide, by decide +kernel⟩
theorem cb_W_filter : aw_CBW mW_filter 5 := ⟨rfl, by decide, wT_2_188, wT_1_0, by decide, by decide, by decide +kernel⟩
theorem cb_T_filter : aw_CB mT_filter 4 := ⟨rfl, rfl, by decide, wT_2_192, wT_1_1, by decide, by decide, by decide +kernel⟩
theorem cb_F_init : aw_CB mF_init 3 := ⟨rfl, rfl, by decide, wT_2_198, wT_1_19, by decide, by decide, by decide +kernel⟩
theorem cb_W_lock : aw_CBW mW_lock 3 := ⟨rfl, by decide, wT_2_212, wT_1_0, by decide, by decide, by decide +kernel⟩
theorem cb_T_lock : aw_CB mT_lock 1 := ⟨rfl, rfl, by decide, wT_2_217, wT_1_1, by decide, by decide, by decide +kernel⟩
theorem cb_T_freeLoaderNumbers : aw_CB mT_freeLoaderNumbers 0 := ⟨rfl, rfl, by decide, wT_2_222, wT_1_1, by decide, by decide, by decide +kernel⟩
theorem cb_T_wantedDefining : aw_CB mT_wantedDefining 2 := ⟨rfl, rfl, by decide, wT_3_2, wT_1_1, by decide, by decide, by decide +kernel⟩
theorem cb_T_contentsOf : aw_CB mT_contentsOf 1 := ⟨rfl, rfl, by decide, wT_3_6, wT_1_1, by decide, by decide, by decide +kernel⟩
theorem cb_A_copy : aw_CB mA_copy 0 := ⟨rfl, rfl, by decide, wT_3_10, wT_1_2, by decide, by decide, by decide +kernel⟩
theorem cb_L_hasPathLike : aw_CB mL_hasPathLike 1 := ⟨rfl, rfl, by decide, wT_3_16, wT_1_3, by decide, by decide, by decide +kernel⟩
theorem cb_A_isLike : aw_CB mA_isLike 1 := ⟨rfl, rfl, by decide, wT_3_20, wT_1_2, by decide, by decide, by decide +kernel⟩
theorem cb_A_fileOf : aw_CB mA_fileOf 1 := ⟨rfl, rfl, by decide, wT_3_24, wT_1_2, by decide, by decide, by decide +kernel⟩
theorem cb_C_isSame : aw_CB mC_isSame 1 := ⟨rfl, rfl, by decide, wT_3_28, wT_1_15, by decide, by decide, by decide +kernel⟩
theorem cb_A_descriptorOf : aw_CB mA_descriptorOf 1 := ⟨rfl, rfl, by decide, wT_3_32, wT_1_2, by decide, by decide, by decide +kernel⟩
theorem cb_D_isSame : aw_CB mD_isSame 1 := ⟨rfl, rfl, by decide, wT_3_36, wT_1_18, by decide, by decide, by decide +kernel⟩
theorem cb_T_newLoader : aw_CB mT_newLoader 4 := ⟨rfl, rfl, by decide, wT_3_40, wT_1_1, by decide, by decide, by decide +kernel⟩
theorem cb_T_leastFreeLoaderNumber : aw_CB mT_leastFreeLoaderNumber 0 := ⟨rfl, rfl, by decide, wT_3_44, wT_1_1, by decide, by decide, by decide +kernel⟩
theorem cb_T_wantedFiltering : aw_CB mT_wantedFiltering 2 := ⟨rfl, rfl, by decide, wT_3_48, wT_1_1, by decide, by decide, by decide +kernel⟩
theorem cb_F_isSame : aw_CB mF_isSame 1 := ⟨rfl, rfl, by decide, wT_3_52, wT_1_19, by decide, by decide, by decide +kernel⟩
theorem cb_W_release : aw_CBW mW_release 3 := ⟨rfl, by decide, wT_3_55, wT_1_0, by decide, by decide, by decide +kernel⟩
theorem cb_T_release : aw_CB mT_release 1 := ⟨rfl, rfl, by decide, wT_3_59, wT_1_1, by decide, by decide, by decide +kernel⟩
theorem cb_T_hasChildLeft : aw_CB mT_hasChildLeft 1 := ⟨rfl, rfl, by decide, wT_3_64, wT_1_1, by decide, by decide, by decide +kernel⟩
theorem cb_T_letGo : aw_CB mT_letGo 1 := ⟨rfl, rfl, by decide, wT_3_69, wT_1_1, by decide, by decide, by decide +kernel⟩
theorem cb_W_loader : aw_CBW mW_loader 4 := ⟨rfl, by decide, wT_3_72, wT_1_0, by decide, by decide, by decide +kernel⟩
theorem cb_T_loader : aw_CB mT_loader 2 := ⟨rfl, rfl, by decide, wT_3_76, wT_1_1, by decide, by decide, by decide +kernel⟩
theorem cb_W_load : aw_CBW mW_load 4 := ⟨rfl, by decide, wT_3_79, wT_1_0, by decide, by decide, by decide +kernel⟩
theorem cb_T_load : aw_CB mT_load 2 := ⟨rfl, rfl, by decide, wT_3_84, wT_1_1, by decide, by decide, by decide +kernel⟩
theorem cb_T_requireLocked : aw_CB mT_requireLocked 1 := ⟨rfl, rfl, by decide, wT_3_88, wT_1_1, by decide, by decide, by decide +kernel⟩
theorem cb_T_typeFromScope : aw_CB mT_typeFromScope 2 := ⟨rfl, rfl, by decide, wT_3_93, wT_1_1, by decide, by decide, by decide +kernel⟩
theorem cb_T_findFrom : aw_CB mT_findFrom 3 := ⟨rfl, rfl, by decide, wT_3_97, wT_1_1, by decide, by decide, by decide +kernel⟩
theorem cb_F_admits : aw_CB mF_admits 1 := ⟨rfl, rfl, by decide, wT_3_101, wT_1_19, by decide, by decide, by decide +kernel⟩
theorem cb_L_fileOf : aw_CB mL_fileOf 1 := ⟨rfl, rfl, by decide, wT_3_105, wT_1_3, by decide, by decide, by decide +kernel⟩
theorem cb_T_typeDefinedBy : aw_CB mT_typeDefinedBy 3 := ⟨rfl, rfl, by decide, wT_3_110, wT_1_1, by decide, by decide, by decide +kernel⟩
theorem cb_T_knownType : aw_CB mT_knownType 2 := ⟨rfl, rfl, by decide, wT_3_114, wT_1_1, by decide, by decide, by decide +kernel⟩
theorem cb_T_isBeingDefined : aw_CB mT_isBeingDefined 3 := ⟨rfl, rfl, by decide, wT_3_118, wT_1_1, by decide, by decide, by decide +kernel⟩
theorem cb_T_newType : aw_CB mT_newType 3 := ⟨rfl, rfl, by decide, wT_3_125, wT_1_1, by decide, by decide, by decide +kernel⟩
theorem cb_W_info : aw_CBW mW_info 4 := ⟨rfl, by decide, wT_3_145, wT_1_0, by decide, by decide, by decide +kernel⟩
theorem cb_T_info : aw_CB mT_info 2 := ⟨rfl, rfl, by decide, wT_3_149, wT_1_1, by decide, by decide, by decide +kernel⟩
theorem cb_T_typeAt : aw_CB mT_typeAt 1 := ⟨rfl, rfl, by decide, wT_3_153, wT_1_1, by decide, by decide, by decide +kernel⟩
theorem cb_W_isA : aw_CBW mW_isA 4 := ⟨rfl, by decide, wT_3_158, wT_1_0, by decide, by decide, by decide +kernel⟩
theorem cb_T_isA : aw_CB mT_isA 2 := ⟨rfl, rfl, by decide, wT_3_162, wT_1_1, by decide, by decide, by decide +kernel⟩
theorem cb_T_isSubtype : aw_CB mT_isSubtype 2 := ⟨rfl, rfl, by decide, wT_3_165, wT_1_1, by decide, by decide, by decide +kernel⟩
theorem cb_W_apply : aw_CBW mW_apply 4 := ⟨rfl, by decide, wT_3_168, wT_1_0, by decide, by decide, by decide +kernel⟩
theorem cb_T_apply : aw_CB mT_apply 2 := ⟨rfl, rfl, by decide, wT_3_172, wT_1_1, by decide, by decide, by decide +kernel⟩
theorem cb_T_visibleDescriptor : aw_CB mT_visibleDescriptor 2 := ⟨rfl, rfl, by decide, wT_3_176, wT_1_1, by decide, by decide, by decide +kernel⟩
theorem cb_L_descriptorOf : aw_CB mL_descriptorOf 1 := ⟨rfl, rfl, by decide, wT_3_180, wT_1_3, by decide, by decide, by decide +kernel⟩
theorem cb_T_isLetThrough : aw_CB mT_isLetThrough 3 := ⟨rfl, rfl, by decide, wT_3_184, wT_1_1, by decide, by decide, by decide +kernel⟩
theorem cb_S_hasApplied : aw_CB mS_hasApplied 1 := ⟨rfl, rfl, by decide, wT_3_188, wT_1_5, by decide, by decide, by decide +kernel⟩
theorem cb_S_appendApplied : aw_CB mS_appendApplied 1 := ⟨rfl, rfl, by decide, wT_3_192, wT_1_5, by decide, by decide, by decide +kernel⟩
theorem cb_W_applied : aw_CBW mW_applied 4 := ⟨rfl, by decide, wT_3_195, wT_1_0, by decide, by decide, by decide +kernel⟩
theorem cb_T_applied : aw_CB mT_applied 2 := ⟨rfl, rfl, by decide, wT_3_199, wT_1_1, by decide, by decide, by decide +kernel⟩
theorem cb_M_init : aw_CB mM_init 0 := ⟨rfl, rfl, by decide, wT_3_204, wT_1_9, by decide, by decide, by decide +kernel⟩
theorem cb_M_thrown : aw_CB mM_thrown 0 := ⟨rfl, rfl, by decide, wT_4_71, wT_1_9, by decide, by decide, by decide +kernel⟩
theorem cb_M_file : aw_CB mM_file 4 := ⟨rfl, rfl, by decide, wT_4_75, wT_1_9, by decide, by decide, by decide +kernel⟩
theorem cb_M_in : aw_CB mM_in 3 := ⟨rfl, rfl, by decide, wT_4_78, wT_1_9, by decide, by decide, by decide +kernel⟩
theorem cb_M_fails : aw_CB mM_fails 2 := ⟨rfl, rfl, by decide, wT_4_82, wT_1_9, by decide, by decide, by decide +kernel⟩
theorem cb_M_descriptor : aw_CB mM_descriptor 3 := ⟨rfl, rfl, by decide, wT_4_86, wT_1_9, by decide, by decide, by decide +kernel⟩
theorem cb_M_wipe : aw_CB mM_wipe 1 := ⟨rfl, rfl, by decide, wT_4_90, wT_1_9, by decide, by decide, by decide +kernel⟩
theorem cb_M_child : aw_CB mM_child 1 := ⟨rfl, rfl, by decide, wT_4_94, wT_1_9, by decide, by decide, by decide +kernel⟩
theorem cb_M_noScope : aw_CB mM_noScope 1 := ⟨rfl, rfl, by decide, wT_4_98, wT_1_9, by decide, by decide, by decide +kernel⟩
theorem cb_M_add : aw_CB mM_add 3 := ⟨rfl, rfl, by decide, wT_4_102, wT_1_9, by decide, by decide, by decide +kernel⟩
theorem cb_M_filter : aw_CB mM_filter 4 := ⟨rfl, rfl, by decide, wT_4_106, wT_1_9, by decide, by decide, by decide +kernel⟩
theorem cb_M_lock : aw_CB mM_lock 1 := ⟨rfl, rfl, by decide, wT_4_110, wT_1_9, by decide, by decide, by decide +kernel⟩
theorem cb_M_freeLoaders : aw_CB mM_freeLoaders 0 := ⟨rfl, rfl, by decide, wT_4_114, wT_1_9, by decide, by decide, by decide +kernel⟩
theorem cb_M_defining : aw_CB mM_defining 3 := ⟨rfl, rfl, by decide, wT_4_118, wT_1_9, by decide, by decide, by decide +kernel⟩
theorem cb_M_alike : aw_CB mM_alike 2 := ⟨rfl, rfl, by decide, wT_4_122, wT_1_9, by decide, by decide, by decide +kernel⟩
theorem cb_M_fileOf : aw_CB mM_fileOf 2 := ⟨rfl, rfl, by decide, wT_4_126, wT_1_9, by decide, by decide, by decide +kernel⟩
theorem cb_M_described : aw_CB mM_described 2 := ⟨rfl, rfl, by decide, wT_4_130, wT_1_9, by decide, by decide, by decide +kernel⟩
theorem cb_M_begin : aw_CB mM_begin 2 := ⟨rfl, rfl, by decide, wT_4_134, wT_1_9, by decide, by decide, by decide +kernel⟩
theorem cb_M_freeLoader : aw_CB mM_freeLoader 0 := ⟨rfl, rfl, by decide, wT_4_138, wT_1_9, by decide, by decide, by decide +kernel⟩
theorem cb_M_copySheet : aw_CB mM_copySheet 2 := ⟨rfl, rfl, by decide, wT_4_142, wT_1_9, by decide, by decide, by decide +kernel⟩
theorem cb_M_filtering : aw_CB mM_filtering 2 := ⟨rfl, rfl, by decide, wT_4_146, wT_1_9, by decide, by decide, by decide +kernel⟩
theorem cb_M_release : aw_CB mM_release 1 := ⟨rfl, rfl, by decide, wT_4_150, wT_1_9, by decide, by decide, by decide +kernel⟩
theorem cb_M_sweep : aw_CB mM_sweep 0 := ⟨rfl, rfl, by decide, wT_4_154, wT_1_9, by decide, by decide, by decide +kernel⟩
theorem cb_M_holders : aw_CB mM_holders 1 := ⟨rfl, rfl, by decide, wT_4_158, wT_1_9, by decide, by decide, by decide +kernel⟩
theorem cb_M_loader : aw_CB mM_loader 2 := ⟨rfl, rfl, by decide, wT_4_162, wT_1_9, by decide, by decide, by decide +kernel⟩
theorem cb_M_look : aw_CB mM_look 2 := ⟨rfl, rfl, by decide, wT_4_166, wT_1_9, by decide, by decide, by decide +kernel⟩
theorem cb_M_load : aw_CB mM_load 2 := ⟨rfl, rfl, by decide, wT_4_170, wT_1_9, by decide, by decide, by decide +kernel⟩
theorem cb_M_loads : aw_CB mM_loads 2 := ⟨rfl, rfl, by decide, wT_4_174, wT_1_9, by decide, by decide, by decide +kernel⟩
theorem cb_M_resolve : aw_CB mM_resolve 2 := ⟨rfl, rfl, by decide, wT_4_178, wT_1_9, by decide, by decide, by decide +kernel⟩
theorem cb_M_seek : aw_CB mM_seek 2 := ⟨rfl, rfl, by decide, wT_4_182, wT_1_9, by decide, by decide, by decide +kernel⟩
theorem cb_M_admits : aw_CB mM_admits 2 := ⟨rfl, rfl, by decide, wT_4_186, wT_1_9, by decide, by decide, by decide +kernel⟩
theorem cb_M_definedBy : aw_CB mM_definedBy 2 := ⟨rfl, rfl, by decide, wT_4_190, wT_1_9, by decide, by decide, by decide +kernel⟩
theorem cb_M_info : aw_CB mM_info 2 := ⟨rfl, rfl, by decide, wT_4_194, wT_1_9, by decide, by decide, by decide +kernel⟩
theorem cb_M_isA : aw_CB mM_isA 2 := ⟨rfl, rfl, by decide, wT_4_198, wT_1_9, by decide, by decide, by decide +kernel⟩
theorem cb_M_descends : aw_CB mM_descends 2 := ⟨rfl, rfl, by decide, wT_4_202, wT_1_9, by decide, by decide, by decide +kernel⟩
theorem cb_M_apply : aw_CB mM_apply 2 := ⟨rfl, rfl, by decide, wT_4_206, wT_1_9, by decide, by decide, by decide +kernel⟩
theorem cb_M_describedFrom : aw_CB mM_describedFrom 2 := ⟨rfl, rfl, by decide, wT_4_210, wT_1_9, by decide, by decide, by decide +kernel⟩
theorem cb_M_applied : aw_CB mM_applied 2 := ⟨rfl, rfl, by decide, wT_4_214, wT_1_9, by decide, by decide, by decide +kernel⟩
theorem sT_11 : aw_S "ScopeTree" 11 8 0 (.array (.object "ScopeTree$Archive")) true := ⟨_, tn_T, 8, ty_T, rfl, by decide, in_T, tk_T, nm_T, rfl, by decide +kernel, Or.inl wT_1_185, fun _ => rfl⟩
theorem sT_17 : aw_S "ScopeTree" 17 8 1 (.array (.object "ScopeTree$Scope")) true := ⟨_, tn_T, 8, ty_T, rfl, by decide, in_T, tk_T, nm_T, rfl, by decide +kernel, Or.inl wT_1_186, fun _ => rfl⟩
theorem sT_23 : aw_S "ScopeTree" 23 8 3 (.array (.object "ScopeTree$Loader")) true := ⟨_, tn_T, 8, ty_T, rfl, by decide, in_T, tk_T, nm_T, rfl, by decide +kernel, Or.inl wT_1_188, fun _ => rfl⟩
theorem sT_29 : aw_S "ScopeTree" 29 8 4 (.array (.object "ScopeTree$Type")) true := ⟨_, tn_T, 8, ty_T, rfl, by decide, in_T, tk_T, nm_T, rfl, by decide +kernel, Or.inl wT_1_189, fun _ => rfl⟩
theorem sT_33 : aw_S "ScopeTree" 33 8 6 (.array (.object "ScopeTree$Loader")) true := ⟨_, tn_T, 8, ty_T, rfl, by decide, in_T, tk_T, nm_T, rfl, by decide +kernel, Or.inl wT_1_191, fun _ => rfl⟩
theorem sT_36 : aw_S "ScopeTree" 36 8 7 (.array (.int)) true := ⟨_, tn_T, 8, ty_T, rfl, by decide, in_T, tk_T, nm_T, rfl, by decide +kernel, Or.inl wT_1_192, fun _ => rfl⟩
theorem fT_11 : aw_F "ScopeTree" 11 8 0 := ⟨_, tn_T, 8, rfl, by decide, in_T, Or.inl wT_1_185⟩
theorem nT_9 : aw_N "ScopeTree" 9 0 4 [.null, .int 0, .null, .int 0] := ⟨_, tn_A, ty_A, rfl, in_A, tk_A, wT_1_30, wT_1_38, wT_1_2, by decide +kernel⟩
theorem cT_40 : aw_CIN "ScopeTree" 40 mA_init 0 := ⟨cb_A_init, rfl, rfl, wT_1_40, _, wN_1_39⟩
theorem nT_21 : aw_N "ScopeTree" 21 4 8 [.int 0, .int 0, .null, .null, .null, .int 0, .int 0, .int 0] := ⟨_, tn_L, ty_L, rfl, in_L, tk_L, wT_1_34, wT_1_63, wT_1_3, by decide +kernel⟩
theorem cT_41 : aw_CIN "ScopeTree" 41 mL_init 5 := ⟨cb_L_init, rfl, rfl, wT_1_65, _, wN_1_64⟩
theorem fT_23 : aw_F "ScopeTree" 23 8 3 := ⟨_, tn_T, 8, rfl, by decide, in_T, Or.inl wT_1_188⟩
theorem fT_29 : aw_F "ScopeTree" 29 8 4 := ⟨_, tn_T, 8, rfl, by decide, in_T, Or.inl wT_1_189⟩
theorem nT_27 : aw_N "ScopeTree" 27 7 5 [.int 0, .int 0, .int 0, .null, .null] := ⟨_, tn_Y, ty_Y, rfl, in_Y, tk_Y, wT_1_36, wT_1_97, wT_1_4, by decide +kernel⟩
theorem cT_44 : aw_CIN "ScopeTree" 44 mY_init 5 := ⟨cb_Y_init, rfl, rfl, wT_1_99, _, wN_1_98⟩
theorem sT_47 : aw_S "ScopeTree" 47 8 5 (.int) false := ⟨_, tn_T, 8, ty_T, rfl, by decide, in_T, tk_T, nm_T, rfl, by decide +kernel, Or.inl wT_1_190, fun h => by cases h⟩
theorem nT_15 : aw_N "ScopeTree" 15 6 10 [.null, .null, .null, .null, .null, .null, .null, .null, .null, .int 0] := ⟨_, tn_S, ty_S, rfl, in_S, tk_S, wT_1_32, wT_1_123, wT_1_5, by decide +kernel⟩
theorem cT_51 : aw_CIN "ScopeTree" 51 mS_init 1 := ⟨cb_S_init, rfl, rfl, wT_1_125, _, wN_1_124⟩
theorem sT_60 : aw_S "ScopeTree" 60 6 4 (.object "ScopeTree$State") false := ⟨_, tn_S, 10, ty_S, rfl, by decide, in_S, tk_S, nm_S, rfl, by decide +kernel, Or.inr ⟨rfl, _, wN_1_154⟩, fun h => by cases h⟩
theorem sT_63 : aw_S "ScopeTree" 63 6 6 (.object "ScopeTree$Loader") false := ⟨_, tn_S, 10, ty_S, rfl, by decide, in_S, tk_S, nm_S, rfl, by decide +kernel, Or.inr ⟨rfl, _, wN_1_156⟩, fun h => by cases h⟩
theorem sT_67 : aw_S "ScopeTree" 67 6 7 (.object "ScopeTree$Loader") false := ⟨_, tn_S, 10, ty_S, rfl, by decide, in_S, tk_S, nm_S, rfl, by decide +kernel, Or.inr ⟨rfl, _, wN_1_157⟩, fun h => by cases h⟩
theorem sT_70 : aw_S "ScopeTree" 70 4 5 (.int) false := ⟨_, tn_L, 8, ty_L, rfl, by decide, in_L, tk_L, nm_L, rfl, by decide +kernel, Or.inr ⟨rfl, _, wN_1_77⟩, fun h => by cases h⟩
theorem fT_17 : aw_F "ScopeTree" 17 8 1 := ⟨_, tn_T, 8, rfl, by decide, in_T, Or.inl wT_1_186⟩
theorem sT_73 : aw_S "ScopeTree" 73 8 2 (.int) false := ⟨_, tn_T, 8, ty_T, rfl, by decide, in_T, tk_T, nm_T, rfl, by decide +kernel, Or.inl wT_1_187, fun h => by cases h⟩
theorem cT_76 : aw_CV "ScopeTree" 76 mT_archiveAt 8 1 := ⟨cb_T_archiveAt, ⟨tn_T, 8, rfl⟩, wT_1_228, wS_0, wT_1_226⟩
theorem cT_80 : aw_CS "ScopeTree" 80 mT_isBelow 2 := ⟨cb_T_isBelow, wT_1_215, wT_1_214⟩
theorem nT_93 : aw_N "ScopeTree" 93 1 3 [.int 0, .int 0, .int 0] := ⟨_, tn_C, ty_C, rfl, in_C, tk_C, wT_2_61, wT_2_62, wT_1_15, by decide +kernel⟩
theorem cT_95 : aw_CIN "ScopeTree" 95 mC_init 3 := ⟨cb_C_init, rfl, rfl, wT_2_64, _, wN_2_63⟩
theorem cT_98 : aw_CVN "ScopeTree" 98 mA_putFile 0 1 := ⟨cb_A_putFile, ⟨tn_A, 4, rfl⟩, wT_2_86, wS_2, _, wN_2_84⟩
theorem fT_107 : aw_F "ScopeTree" 107 0 1 := ⟨_, tn_A, 4, rfl, by decide, in_A, Or.inr ⟨_, wN_1_49⟩⟩
theorem nT_112 : aw_N "ScopeTree" 112 2 2 [.int 0, .int 0] := ⟨_, tn_D, ty_D, rfl, in_D, tk_D, wT_2_119, wT_2_120, wT_1_18, by decide +kernel⟩
theorem cT_114 : aw_CIN "ScopeTree" 114 mD_init 2 := ⟨cb_D_init, rfl, rfl, wT_2_122, _, wN_2_121⟩
theorem cT_117 : aw_CVN "ScopeTree" 117 mA_putDescriptor 0 1 := ⟨cb_A_putDescriptor, ⟨tn_A, 4, rfl⟩, wT_2_136, wS_4, _, wN_2_134⟩
theorem fT_123 : aw_F "ScopeTree" 123 0 3 := ⟨_, tn_A, 4, rfl, by decide, in_A, Or.inr ⟨_, wN_1_52⟩⟩
theorem sT_107 : aw_S "ScopeTree" 107 0 1 (.int) false := ⟨_, tn_A, 4, ty_A, rfl, by decide, in_A, tk_A, nm_A, rfl, by decide +kernel, Or.inr ⟨rfl, _, wN_1_49⟩, fun h => by cases h⟩
theorem sT_123 : aw_S "ScopeTree" 123 0 3 (.int) false := ⟨_, tn_A, 4, ty_A, rfl, by decide, in_A, tk_A, nm_A, rfl, by decide +kernel, Or.inr ⟨rfl, _, wN_1_52⟩, fun h => by cases h⟩
theorem cT_126 : aw_CV "ScopeTree" 126 mT_scopeAt 8 1 := ⟨cb_T_scopeAt, ⟨tn_T, 8, rfl⟩, wT_2_159, wS_6, wT_2_157⟩
theorem fT_60 : aw_F "ScopeTree" 60 6 4 := ⟨_, tn_S, 10, rfl, by decide, in_S, Or.inr ⟨_, wN_1_154⟩⟩
theorem fT_73 : aw_F "ScopeTree" 73 8 2 := ⟨_, tn_T, 8, rfl, by decide, in_T, Or.inl wT_1_187⟩
theorem cT_139 : aw_CS "ScopeTree" 139 mT_requireOpen 1 := ⟨cb_T_requireOpen, wT_2_174, wT_2_173⟩
theorem fT_142 : aw_F "ScopeTree" 142 6 2 := ⟨_, tn_S, 10, rfl, by decide, in_S, Or.inr ⟨_, wN_1_151⟩⟩
theorem cT_146 : aw_CVN "ScopeTree" 146 mP_append 5 1 := ⟨cb_P_append, ⟨tn_P, 2, rfl⟩, wT_2_180, wS_7, _, wN_2_178⟩
theorem fT_152 : aw_F "ScopeTree" 152 6 1 := ⟨_, tn_S, 10, rfl, by decide, in_S, Or.inr ⟨_, wN_1_149⟩⟩
theorem nT_157 : aw_N "ScopeTree" 157 3 3 [.int 0, .long 0, .long 0] := ⟨_, tn_F, ty_F, rfl, in_F, tk_F, wT_2_194, wT_2_195, wT_1_19, by decide +kernel⟩
theorem cT_159 : aw_CIN "ScopeTree" 159 mF_init 3 := ⟨cb_F_init, rfl, rfl, wT_2_197, _, wN_2_196⟩
theorem sT_162 : aw_S "ScopeTree" 162 6 3 (.object "ScopeTree$Filter") false := ⟨_, tn_S, 10, ty_S, rfl, by decide, in_S, tk_S, nm_S, rfl, by decide +kernel, Or.inr ⟨rfl, _, wN_1_152⟩, fun h => by cases h⟩
theorem fT_166 : aw_F "ScopeTree" 166 6 0 := ⟨_, tn_S, 10, rfl, by decide, in_S, Or.inr ⟨_, wN_1_147⟩⟩
theorem cT_172 : aw_CV "ScopeTree" 172 mT_freeLoaderNumbers 8 0 := ⟨cb_T_freeLoaderNumbers, ⟨tn_T, 8, rfl⟩, wT_2_221, wS_9, wT_2_219⟩
theorem fT_63 : aw_F "ScopeTree" 63 6 6 := ⟨_, tn_S, 10, rfl, by decide, in_S, Or.inr ⟨_, wN_1_156⟩⟩
theorem cT_181 : aw_CV "ScopeTree" 181 mT_wantedDefining 8 2 := ⟨cb_T_wantedDefining, ⟨tn_T, 8, rfl⟩, wT_3_1, wS_10, wT_2_239⟩
theorem sT_185 : aw_S "ScopeTree" 185 6 5 (.object "ScopeTree$Loader") false := ⟨_, tn_S, 10, ty_S, rfl, by decide, in_S, tk_S, nm_S, rfl, by decide +kernel, Or.inr ⟨rfl, _, wN_1_155⟩, fun h => by cases h⟩
theorem fT_162 : aw_F "ScopeTree" 162 6 3 := ⟨_, tn_S, 10, rfl, by decide, in_S, Or.inr ⟨_, wN_1_152⟩⟩
theorem fT_185 : aw_F "ScopeTree" 185 6 5 := ⟨_, tn_S, 10, rfl, by decide, in_S, Or.inr ⟨_, wN_1_155⟩⟩
theorem cT_188 : aw_CV "ScopeTree" 188 mT_wantedFiltering 8 2 := ⟨cb_T_wantedFiltering, ⟨tn_T, 8, rfl⟩, wT_3_47, wS_21, wT_3_45⟩
theorem fT_70 : aw_F "ScopeTree" 70 4 5 := ⟨_, tn_L, 8, rfl, by decide, in_L, Or.inr ⟨_, wN_1_77⟩⟩
theorem fT_67 : aw_F "ScopeTree" 67 6 7 := ⟨_, tn_S, 10, rfl, by decide, in_S, Or.inr ⟨_, wN_1_157⟩⟩
theorem fT_192 : aw_F "ScopeTree" 192 4 0 := ⟨_, tn_L, 8, rfl, by decide, in_L, Or.inr ⟨_, wN_1_69⟩⟩
theorem cT_197 : aw_CV "ScopeTree" 197 mT_hasChildLeft 8 1 := ⟨cb_T_hasChildLeft, ⟨tn_T, 8, rfl⟩, wT_3_63, wS_23, wT_3_61⟩
theorem cT_203 : aw_CV "ScopeTree" 203 mT_letGo 8 1 := ⟨cb_T_letGo, ⟨tn_T, 8, rfl⟩, wT_3_68, wS_24, wT_3_66⟩
theorem fT_207 : aw_F "ScopeTree" 207 4 1 := ⟨_, tn_L, 8, rfl, by decide, in_L, Or.inr ⟨_, wN_1_71⟩⟩
theorem fT_210 : aw_F "ScopeTree" 210 4 2 := ⟨_, tn_L, 8, rfl, by decide, in_L, Or.inr ⟨_, wN_1_73⟩⟩
theorem fT_212 : aw_F "ScopeTree" 212 4 6 := ⟨_, tn_L, 8, rfl, by decide, in_L, Or.inr ⟨_, wN_1_78⟩⟩
theorem cT_217 : aw_CS "ScopeTree" 217 mT_requireLocked 1 := ⟨cb_T_requireLocked, wT_3_87, wT_3_86⟩
theorem cT_220 : aw_CV "ScopeTree" 220 mT_typeFromScope 8 2 := ⟨cb_T_typeFromScope, ⟨tn_T, 8, rfl⟩, wT_3_92, wS_25, wT_3_90⟩
theorem fT_224 : aw_F "ScopeTree" 224 7 0 := ⟨_, tn_Y, 5, rfl, by decide, in_Y, Or.inr ⟨_, wN_1_103⟩⟩
theorem cT_225 : aw_CV "ScopeTree" 225 mT_typeAt 8 1 := ⟨cb_T_typeAt, ⟨tn_T, 8, rfl⟩, wT_3_152, wS_33, wT_3_150⟩
theorem fT_229 : aw_F "ScopeTree" 229 7 1 := ⟨_, tn_Y, 5, rfl, by decide, in_Y, Or.inr ⟨_, wN_1_105⟩⟩
theorem fT_232 : aw_F "ScopeTree" 232 7 3 := ⟨_, tn_Y, 5, rfl, by decide, in_Y, Or.inr ⟨_, wN_1_109⟩⟩
theorem fT_235 : aw_F "ScopeTree" 235 4 7 := ⟨_, tn_L, 8, rfl, by decide, in_L, Or.inr ⟨_, wN_1_79⟩⟩
theorem fT_239 : aw_F "ScopeTree" 239 7 2 := ⟨_, tn_Y, 5, rfl, by decide, in_Y, Or.inr ⟨_, wN_1_107⟩⟩
theorem fT_242 : aw_F "ScopeTree" 242 7 4 := ⟨_, tn_Y, 5, rfl, by decide, in_Y, Or.inr ⟨_, wN_1_111⟩⟩
theorem cT_251 : aw_CS "ScopeTree" 251 mT_isSubtype 2 := ⟨cb_T_isSubtype, wT_3_164, wT_3_163⟩
theorem cT_257 : aw_CS "ScopeTree" 257 mT_visibleDescriptor 2 := ⟨cb_T_visibleDescriptor, wT_3_175, wT_3_174⟩
theorem fT_261 : aw_F "ScopeTree" 261 2 1 := ⟨_, tn_D, 2, rfl, by decide, in_D, Or.inr ⟨_, wN_2_128⟩⟩
theorem cT_262 : aw_CVN "ScopeTree" 262 mS_hasApplied 6 1 := ⟨cb_S_hasApplied, ⟨tn_S, 10, rfl⟩, wT_3_187, wS_35, _, wN_3_185⟩
theorem cT_266 : aw_CVN "ScopeTree" 266 mS_appendApplied 6 1 := ⟨cb_S_appendApplied, ⟨tn_S, 10, rfl⟩, wT_3_191, wS_36, _, wN_3_189⟩
theorem fT_269 : aw_F "ScopeTree" 269 6 9 := ⟨_, tn_S, 10, rfl, by decide, in_S, Or.inr ⟨_, wN_1_161⟩⟩
theorem fT_272 : aw_F "ScopeTree" 272 6 8 := ⟨_, tn_S, 10, rfl, by decide, in_S, Or.inr ⟨_, wN_1_159⟩⟩
theorem fT_47 : aw_F "ScopeTree" 47 8 5 := ⟨_, tn_T, 8, rfl, by decide, in_T, Or.inl wT_1_190⟩
theorem fT_286 : aw_F "ScopeTree" 286 5 1 := ⟨_, tn_P, 2, rfl, by decide, in_P, Or.inr ⟨_, wN_1_137⟩⟩
theorem cT_289 : aw_CV "ScopeTree" 289 mT_contentsOf 8 1 := ⟨cb_T_contentsOf, ⟨tn_T, 8, rfl⟩, wT_3_5, wS_11, wT_3_3⟩
theorem cT_293 : aw_CVN "ScopeTree" 293 mL_hasPathLike 4 1 := ⟨cb_L_hasPathLike, ⟨tn_L, 8, rfl⟩, wT_3_15, wS_13, _, wN_3_13⟩
theorem cT_297 : aw_CV "ScopeTree" 297 mT_newLoader 8 4 := ⟨cb_T_newLoader, ⟨tn_T, 8, rfl⟩, wT_3_39, wS_19, wT_3_37⟩
theorem fT_301 : aw_F "ScopeTree" 301 4 4 := ⟨_, tn_L, 8, rfl, by decide, in_L, Or.inr ⟨_, wN_1_76⟩⟩
theorem cT_302 : aw_CVN "ScopeTree" 302 mF_isSame 3 1 := ⟨cb_F_isSame, ⟨tn_F, 3, rfl⟩, wT_3_51, wS_22, _, wN_3_49⟩
theorem fT_306 : aw_F "ScopeTree" 306 5 0 := ⟨_, tn_P, 2, rfl, by decide, in_P, Or.inr ⟨_, wN_1_135⟩⟩
theorem cT_308 : aw_CVN "ScopeTree" 308 mA_copy 0 0 := ⟨cb_A_copy, ⟨tn_A, 4, rfl⟩, wT_3_9, wS_12, _, wN_3_7⟩
theorem cT_312 : aw_CV "ScopeTree" 312 mT_leastFreeLoaderNumber 8 0 := ⟨cb_T_leastFreeLoaderNumber, ⟨tn_T, 8, rfl⟩, wT_3_43, wS_20, wT_3_41⟩
theorem sT_235 : aw_S "ScopeTree" 235 4 7 (.boolean) false := ⟨_, tn_L, 8, ty_L, rfl, by decide, in_L, tk_L, nm_L, rfl, by decide +kernel, Or.inr ⟨rfl, _, wN_1_79⟩, fun h => by cases h⟩
theorem cT_315 : aw_CV "ScopeTree" 315 mT_findFrom 8 3 := ⟨cb_T_findFrom, ⟨tn_T, 8, rfl⟩, wT_3_96, wS_26, wT_3_94⟩
theorem cT_321 : aw_CVN "ScopeTree" 321 mF_admits 3 1 := ⟨cb_F_admits, ⟨tn_F, 3, rfl⟩, wT_3_100, wS_27, _, wN_3_98⟩
theorem cT_324 : aw_CVN "ScopeTree" 324 mL_fileOf 4 1 := ⟨cb_L_fileOf, ⟨tn_L, 8, rfl⟩, wT_3_104, wS_28, _, wN_3_102⟩
theorem cT_328 : aw_CV "ScopeTree" 328 mT_typeDefinedBy 8 3 := ⟨cb_T_typeDefinedBy, ⟨tn_T, 8, rfl⟩, wT_3_109, wS_29, wT_3_107⟩
theorem fT_332 : aw_F "ScopeTree" 332 1 0 := ⟨_, tn_C, 3, rfl, by decide, in_C, Or.inr ⟨_, wN_2_72⟩⟩
theorem cT_333 : aw_CV "ScopeTree" 333 mT_knownType 8 2 := ⟨cb_T_knownType, ⟨tn_T, 8, rfl⟩, wT_3_113, wS_30, wT_3_111⟩
theorem cT_337 : aw_CV "ScopeTree" 337 mT_isBeingDefined 8 3 := ⟨cb_T_isBeingDefined, ⟨tn_T, 8, rfl⟩, wT_3_117, wS_31, wT_3_115⟩
theorem fT_33 : aw_F "ScopeTree" 33 8 6 := ⟨_, tn_T, 8, rfl, by decide, in_T, Or.inl wT_1_191⟩
theorem fT_36 : aw_F "ScopeTree" 36 8 7 := ⟨_, tn_T, 8, rfl, by decide, in_T, Or.inl wT_1_192⟩
theorem fT_345 : aw_F "ScopeTree" 345 1 1 := ⟨_, tn_C, 3, rfl, by decide, in_C, Or.inr ⟨_, wN_2_74⟩⟩
theorem cT_350 : aw_CV "ScopeTree" 350 mT_newType 8 3 := ⟨cb_T_newType, ⟨tn_T, 8, rfl⟩, wT_3_124, wS_32, wT_3_122⟩
theorem fT_356 : aw_F "ScopeTree" 356 1 2 := ⟨_, tn_C, 3, rfl, by decide, in_C, Or.inr ⟨_, wN_2_76⟩⟩
theorem sT_212 : aw_S "ScopeTree" 212 4 6 (.int) false := ⟨_, tn_L, 8, ty_L, rfl, by decide, in_L, tk_L, nm_L, rfl, by decide +kernel, Or.inr ⟨rfl, _, wN_1_78⟩, fun h => by cases h⟩
theorem cT_357 : aw_CVN "ScopeTree" 357 mL_descriptorOf 4 1 := ⟨cb_L_descriptorOf, ⟨tn_L, 8, rfl⟩, wT_3_179, wS_34, _, wN_3_177⟩
theorem cT_361 : aw_CS "ScopeTree" 361 mT_isLetThrough 3 := ⟨cb_T_isLetThrough, wT_3_183, wT_3_182⟩
theorem sM_7 : aw_S "ScopeTreeModel" 7 9 1 (.array (.int)) true := ⟨_, tn_M, 33, ty_M, rfl, by decide, in_M, tk_M, nm_M, rfl, by decide +kernel, Or.inl wT_3_207, fun _ => rfl⟩
theorem sM_13 : aw_S "ScopeTreeModel" 13 9 2 (.array (.int)) true := ⟨_, tn_M, 33, ty_M, rfl, by decide, in_M, tk_M, nm_M, rfl, by decide +kernel, Or.inl wT_3_208, fun _ => rfl⟩
theorem sM_16 : aw_S "ScopeTreeModel" 16 9 3 (.array (.int)) true := ⟨_, tn_M, 33, ty_M, rfl, by decide, in_M, tk_M, nm_M, rfl, by decide +kernel, Or.inl wT_3_209, fun _ => rfl⟩
theorem sM_19 : aw_S "ScopeTreeModel" 19 9 4 (.array (.int)) true := ⟨_, tn_M, 33, ty_M, rfl, by decide, in_M, tk_M, nm_M, rfl, by decide +kernel, Or.inl wT_3_210, fun _ => rfl⟩
theorem sM_22 : aw_S "ScopeTreeModel" 22 9 5 (.array (.boolean)) true := ⟨_, tn_M, 33, ty_M, rfl, by decide, in_M, tk_M, nm_M, rfl, by decide +kernel, Or.inl wT_3_211, fun _ => rfl⟩
theorem sM_26 : aw_S "ScopeTreeModel" 26 9 6 (.array (.int)) true := ⟨_, tn_M, 33, ty_M, rfl, by decide, in_M, tk_M, nm_M, rfl, by decide +kernel, Or.inl wT_3_212, fun _ => rfl⟩
theorem sM_29 : aw_S "ScopeTreeModel" 29 9 7 (.array (.int)) true := ⟨_, tn_M, 33, ty_M, rfl, by decide, in_M, tk_M, nm_M, rfl, by decide +kernel, Or.inl wT_3_213, fun _ => rfl⟩
theorem sM_32 : aw_S "ScopeTreeModel" 32 9 8 (.array (.int)) true := ⟨_, tn_M, 33, ty_M, rfl, by decide, in_M, tk_M, nm_M, rfl, by decide +kernel, Or.inl wT_3_214, fun _ => rfl⟩
theorem sM_35 : aw_S "ScopeTreeModel" 35 9 9 (.array (.int)) true := ⟨_, tn_M, 33, ty_M, rfl, by decide, in_M, tk_M, nm_M, rfl, by decide +kernel, Or.inl wT_3_215, fun _ => rfl⟩
theorem sM_38 : aw_S "ScopeTreeModel" 38 9 10 (.array (.long)) true := ⟨_, tn_M, 33, ty_M, rfl, by decide, in_M, tk_M, nm_M, rfl, by decide +kernel, Or.inl wT_3_216, fun _ => rfl⟩
theorem sM_42 : aw_S "ScopeTreeModel" 42 9 11 (.array (.long)) true := ⟨_, tn_M, 33, ty_M, rfl, by decide, in_M, tk_M, nm_M, rfl, by decide +kernel, Or.inl wT_3_217, fun _ => rfl⟩
theorem sM_45 : aw_S "ScopeTreeModel" 45 9 12 (.int) false := ⟨_, tn_M, 33, ty_M, rfl, by decide, in_M, tk_M, nm_M, rfl, by decide +kernel, Or.inl wT_3_218, fun h => by cases h⟩
theorem sM_49 : aw_S "ScopeTreeModel" 49 9 13 (.array (.int)) true := ⟨_, tn_M, 33, ty_M, rfl, by decide, in_M, tk_M, nm_M, rfl, by decide +kernel, Or.inl wT_3_219, fun _ => rfl⟩
theorem sM_52 : aw_S "ScopeTreeModel" 52 9 14 (.array (.int)) true := ⟨_, tn_M, 33, ty_M, rfl, by decide, in_M, tk_M, nm_M, rfl, by decide +kernel, Or.inl wT_3_220, fun _ => rfl⟩
theorem sM_55 : aw_S "ScopeTreeModel" 55 9 15 (.array (.int)) true := ⟨_, tn_M, 33, ty_M, rfl, by decide, in_M, tk_M, nm_M, rfl, by decide +kernel, Or.inl wT_3_221, fun _ => rfl⟩
theorem sM_58 : aw_S "ScopeTreeModel" 58 9 16 (.array (.int)) true := ⟨_, tn_M, 33, ty_M, rfl, by decide, in_M, tk_M, nm_M, rfl, by decide +kernel, Or.inl wT_3_222, fun _ => rfl⟩
theorem sM_61 : aw_S "ScopeTreeModel" 61 9 17 (.array (.boolean)) true := ⟨_, tn_M, 33, ty_M, rfl, by decide, in_M, tk_M, nm_M, rfl, by decide +kernel, Or.inl wT_3_223, fun _ => rfl⟩
theorem sM_64 : aw_S "ScopeTreeModel" 64 9 18 (.array (.int)) true := ⟨_, tn_M, 33, ty_M, rfl, by decide, in_M, tk_M, nm_M, rfl, by decide +kernel, Or.inl wT_3_224, fun _ => rfl⟩
theorem sM_67 : aw_S "ScopeTreeModel" 67 9 19 (.array (.long)) true := ⟨_, tn_M, 33, ty_M, rfl, by decide, in_M, tk_M, nm_M, rfl, by decide +kernel, Or.inl wT_3_225, fun _ => rfl⟩
theorem sM_70 : aw_S "ScopeTreeModel" 70 9 20 (.array (.long)) true := ⟨_, tn_M, 33, ty_M, rfl, by decide, in_M, tk_M, nm_M, rfl, by decide +kernel, Or.inl wT_3_226, fun _ => rfl⟩
theorem sM_73 : aw_S "ScopeTreeModel" 73 9 21 (.array (.int)) true := ⟨_, tn_M, 33, ty_M, rfl, by decide, in_M, tk_M, nm_M, rfl, by decide +kernel, Or.inl wT_3_227, fun _ => rfl⟩
theorem sM_76 : aw_S "ScopeTreeModel" 76 9 22 (.array (.int)) true := ⟨_, tn_M, 33, ty_M, rfl, by decide, in_M, tk_M, nm_M, rfl, by decide +kernel, Or.inl wT_3_228, fun _ => rfl⟩
theorem sM_79 : aw_S "ScopeTreeModel" 79 9 23 (.array (.int)) true := ⟨_, tn_M, 33, ty_M, rfl, by decide, in_M, tk_M, nm_M, rfl, by decide +kernel, Or.inl wT_3_229, fun _ => rfl⟩
theorem sM_82 : aw_S "ScopeTreeModel" 82 9 24 (.int) false := ⟨_, tn_M, 33, ty_M, rfl, by decide, in_M, tk_M, nm_M, rfl, by decide +kernel, Or.inl wT_3_230, fun h => by cases h⟩
theorem sM_85 : aw_S "ScopeTreeModel" 85 9 25 (.array (.int)) true := ⟨_, tn_M, 33, ty_M, rfl, by decide, in_M, tk_M, nm_M, rfl, by decide +kernel, Or.inl wT_3_231, fun _ => rfl⟩
theorem sM_88 : aw_S "ScopeTreeModel" 88 9 26 (.array (.int)) true := ⟨_, tn_M, 33, ty_M, rfl, by decide, in_M, tk_M, nm_M, rfl, by decide +kernel, Or.inl wT_3_232, fun _ => rfl⟩
theorem sM_91 : aw_S "ScopeTreeModel" 91 9 27 (.array (.int)) true := ⟨_, tn_M, 33, ty_M, rfl, by decide, in_M, tk_M, nm_M, rfl, by decide +kernel, Or.inl wT_3_233, fun _ => rfl⟩
theorem sM_94 : aw_S "ScopeTreeModel" 94 9 28 (.array (.int)) true := ⟨_, tn_M, 33, ty_M, rfl, by decide, in_M, tk_M, nm_M, rfl, by decide +kernel, Or.inl wT_3_234, fun _ => rfl⟩
theorem sM_97 : aw_S "ScopeTreeModel" 97 9 31 (.array (.int)) true := ⟨_, tn_M, 33, ty_M, rfl, by decide, in_M, tk_M, nm_M, rfl, by decide +kernel, Or.inl wT_3_237, fun _ => rfl⟩
theorem sM_100 : aw_S "ScopeTreeModel" 100 9 32 (.array (.int)) true := ⟨_, tn_M, 33, ty_M, rfl, by decide, in_M, tk_M, nm_M, rfl, by decide +kernel, Or.inl wT_3_238, fun _ => rfl⟩
theorem fM_22 : aw_F "ScopeTreeModel" 22 9 5 := ⟨_, tn_M, 33, rfl, by decide, in_M, Or.inl wT_3_211⟩
theorem fM_29 : aw_F "ScopeTreeModel" 29 9 7 := ⟨_, tn_M, 33, rfl, by decide, in_M, Or.inl wT_3_213⟩
theorem fM_49 : aw_F "ScopeTreeModel" 49 9 13 := ⟨_, tn_M, 33, rfl, by decide, in_M, Or.inl wT_3_219⟩
theorem fM_85 : aw_F "ScopeTreeModel" 85 9 25 := ⟨_, tn_M, 33, rfl, by decide, in_M, Or.inl wT_3_231⟩
theorem fM_94 : aw_F "ScopeTreeModel" 94 9 28 := ⟨_, tn_M, 33, rfl, by decide, in_M, Or.inl wT_3_234⟩
theorem fM_103 : aw_F "ScopeTreeModel" 103 9 0 := ⟨_, tn_M, 33, rfl, by decide, in_M, Or.inl wT_3_206⟩
theorem sM_103 : aw_S "ScopeTreeModel" 103 9 0 (.int) false := ⟨_, tn_M, 33, ty_M, rfl, by decide, in_M, tk_M, nm_M, rfl, by decide +kernel, Or.inl wT_3_206, fun h => by cases h⟩
theorem cM_106 : aw_CS "ScopeTreeModel" 106 mM_in 3 := ⟨cb_M_in, wT_4_77, wT_4_76⟩
theorem cM_110 : aw_CV "ScopeTreeModel" 110 mM_fails 9 2 := ⟨cb_M_fails, ⟨tn_M, 33, rfl⟩, wT_4_81, wS_37, wT_4_79⟩
theorem fM_7 : aw_F "ScopeTreeModel" 7 9 1 := ⟨_, tn_M, 33, rfl, by decide, in_M, Or.inl wT_3_207⟩
theorem fM_13 : aw_F "ScopeTreeModel" 13 9 2 := ⟨_, tn_M, 33, rfl, by decide, in_M, Or.inl wT_3_208⟩
theorem fM_16 : aw_F "ScopeTreeModel" 16 9 3 := ⟨_, tn_M, 33, rfl, by decide, in_M, Or.inl wT_3_209⟩
theorem fM_19 : aw_F "ScopeTreeModel" 19 9 4 := ⟨_, tn_M, 33, rfl, by decide, in_M, Or.inl wT_3_210⟩
theorem cM_114 : aw_CV "ScopeTreeModel" 114 mM_fileOf 9 2 := ⟨cb_M_fileOf, ⟨tn_M, 33, rfl⟩, wT_4_125, wS_42, wT_4_123⟩
theorem cM_118 : aw_CV "ScopeTreeModel" 118 mM_described 9 2 := ⟨cb_M_described, ⟨tn_M, 33, rfl⟩, wT_4_129, wS_43, wT_4_127⟩
theorem cM_121 : aw_CV "ScopeTreeModel" 121 mM_freeLoader 9 0 := ⟨cb_M_freeLoader, ⟨tn_M, 33, rfl⟩, wT_4_137, wS_45, wT_4_135⟩
theorem fM_26 : aw_F "ScopeTreeModel" 26 9 6 := ⟨_, tn_M, 33, rfl, by decide, in_M, Or.inl wT_3_212⟩
theorem fM_32 : aw_F "ScopeTreeModel" 32 9 8 := ⟨_, tn_M, 33, rfl, by decide, in_M, Or.inl wT_3_214⟩
theorem fM_58 : aw_F "ScopeTreeModel" 58 9 16 := ⟨_, tn_M, 33, rfl, by decide, in_M, Or.inl wT_3_222⟩
theorem fM_55 : aw_F "ScopeTreeModel" 55 9 15 := ⟨_, tn_M, 33, rfl, by decide, in_M, Or.inl wT_3_221⟩
theorem cM_125 : aw_CV "ScopeTreeModel" 125 mM_alike 9 2 := ⟨cb_M_alike, ⟨tn_M, 33, rfl⟩, wT_4_121, wS_41, wT_4_119⟩
theorem cM_129 : aw_CV "ScopeTreeModel" 129 mM_begin 9 2 := ⟨cb_M_begin, ⟨tn_M, 33, rfl⟩, wT_4_133, wS_44, wT_4_131⟩
theorem cM_132 : aw_CV "ScopeTreeModel" 132 mM_copySheet 9 2 := ⟨cb_M_copySheet, ⟨tn_M, 33, rfl⟩, wT_4_141, wS_46, wT_4_139⟩
theorem fM_61 : aw_F "ScopeTreeModel" 61 9 17 := ⟨_, tn_M, 33, rfl, by decide, in_M, Or.inl wT_3_223⟩
theorem fM_35 : aw_F "ScopeTreeModel" 35 9 9 := ⟨_, tn_M, 33, rfl, by decide, in_M, Or.inl wT_3_215⟩
theorem fM_64 : aw_F "ScopeTreeModel" 64 9 18 := ⟨_, tn_M, 33, rfl, by decide, in_M, Or.inl wT_3_224⟩
theorem fM_38 : aw_F "ScopeTreeModel" 38 9 10 := ⟨_, tn_M, 33, rfl, by decide, in_M, Or.inl wT_3_216⟩
theorem fM_67 : aw_F "ScopeTreeModel" 67 9 19 := ⟨_, tn_M, 33, rfl, by decide, in_M, Or.inl wT_3_225⟩
theorem fM_42 : aw_F "ScopeTreeModel" 42 9 11 := ⟨_, tn_M, 33, rfl, by decide, in_M, Or.inl wT_3_217⟩
theorem fM_70 : aw_F "ScopeTreeModel" 70 9 20 := ⟨_, tn_M, 33, rfl, by decide, in_M, Or.inl wT_3_226⟩
theorem fM_45 : aw_F "ScopeTreeModel" 45 9 12 := ⟨_, tn_M, 33, rfl, by decide, in_M, Or.inl wT_3_218⟩
theorem fM_73 : aw_F "ScopeTreeModel" 73 9 21 := ⟨_, tn_M, 33, rfl, by decide, in_M, Or.inl wT_3_227⟩
theorem cM_136 : aw_CV "ScopeTreeModel" 136 mM_holders 9 1 := ⟨cb_M_holders, ⟨tn_M, 33, rfl⟩, wT_4_157, wS_49, wT_4_155⟩
theorem fM_82 : aw_F "ScopeTreeModel" 82 9 24 := ⟨_, tn_M, 33, rfl, by decide, in_M, Or.inl wT_3_230⟩
theorem fM_88 : aw_F "ScopeTreeModel" 88 9 26 := ⟨_, tn_M, 33, rfl, by decide, in_M, Or.inl wT_3_232⟩
theorem cM_140 : aw_CV "ScopeTreeModel" 140 mM_noScope 9 1 := ⟨cb_M_noScope, ⟨tn_M, 33, rfl⟩, wT_4_97, wS_38, wT_4_95⟩
theorem fM_52 : aw_F "ScopeTreeModel" 52 9 14 := ⟨_, tn_M, 33, rfl, by decide, in_M, Or.inl wT_3_220⟩
theorem cM_144 : aw_CV "ScopeTreeModel" 144 mM_freeLoaders 9 0 := ⟨cb_M_freeLoaders, ⟨tn_M, 33, rfl⟩, wT_4_113, wS_39, wT_4_111⟩
theorem cM_147 : aw_CV "ScopeTreeModel" 147 mM_defining 9 3 := ⟨cb_M_defining, ⟨tn_M, 33, rfl⟩, wT_4_117, wS_40, wT_4_115⟩
theorem cM_151 : aw_CV "ScopeTreeModel" 151 mM_filtering 9 2 := ⟨cb_M_filtering, ⟨tn_M, 33, rfl⟩, wT_4_145, wS_47, wT_4_143⟩
theorem cM_154 : aw_CV "ScopeTreeModel" 154 mM_sweep 9 0 := ⟨cb_M_sweep, ⟨tn_M, 33, rfl⟩, wT_4_153, wS_48, wT_4_151⟩
theorem sM_157 : aw_S "ScopeTreeModel" 157 9 30 (.int) false := ⟨_, tn_M, 33, ty_M, rfl, by decide, in_M, tk_M, nm_M, rfl, by decide +kernel, Or.inl wT_3_236, fun h => by cases h⟩
theorem fM_157 : aw_F "ScopeTreeModel" 157 9 30 := ⟨_, tn_M, 33, rfl, by decide, in_M, Or.inl wT_3_236⟩
theorem cM_160 : aw_CV "ScopeTreeModel" 160 mM_admits 9 2 := ⟨cb_M_admits, ⟨tn_M, 33, rfl⟩, wT_4_185, wS_53, wT_4_183⟩
theorem sM_163 : aw_S "ScopeTreeModel" 163 9 29 (.int) false := ⟨_, tn_M, 33, ty_M, rfl, by decide, in_M, tk_M, nm_M, rfl, by decide +kernel, Or.inl wT_3_235, fun h => by cases h⟩
theorem cM_166 : aw_CV "ScopeTreeModel" 166 mM_seek 9 2 := ⟨cb_M_seek, ⟨tn_M, 33, rfl⟩, wT_4_181, wS_52, wT_4_179⟩
theorem fM_163 : aw_F "ScopeTreeModel" 163 9 29 := ⟨_, tn_M, 33, rfl, by decide, in_M, Or.inl wT_3_235⟩
theorem cM_169 : aw_CV "ScopeTreeModel" 169 mM_definedBy 9 2 := ⟨cb_M_definedBy, ⟨tn_M, 33, rfl⟩, wT_4_189, wS_54, wT_4_187⟩
theorem fM_97 : aw_F "ScopeTreeModel" 97 9 31 := ⟨_, tn_M, 33, rfl, by decide, in_M, Or.inl wT_3_237⟩
theorem fM_100 : aw_F "ScopeTreeModel" 100 9 32 := ⟨_, tn_M, 33, rfl, by decide, in_M, Or.inl wT_3_238⟩
theorem fM_91 : aw_F "ScopeTreeModel" 91 9 27 := ⟨_, tn_M, 33, rfl, by decide, in_M, Or.inl wT_3_233⟩
theorem cM_172 : aw_CV "ScopeTreeModel" 172 mM_resolve 9 2 := ⟨cb_M_resolve, ⟨tn_M, 33, rfl⟩, wT_4_177, wS_51, wT_4_175⟩
theorem cM_175 : aw_CV "ScopeTreeModel" 175 mM_loads 9 2 := ⟨cb_M_loads, ⟨tn_M, 33, rfl⟩, wT_4_173, wS_50, wT_4_171⟩
theorem cM_178 : aw_CV "ScopeTreeModel" 178 mM_descends 9 2 := ⟨cb_M_descends, ⟨tn_M, 33, rfl⟩, wT_4_201, wS_55, wT_4_199⟩
theorem cM_181 : aw_CV "ScopeTreeModel" 181 mM_describedFrom 9 2 := ⟨cb_M_describedFrom, ⟨tn_M, 33, rfl⟩, wT_4_209, wS_56, wT_4_207⟩
theorem fM_79 : aw_F "ScopeTreeModel" 79 9 23 := ⟨_, tn_M, 33, rfl, by decide, in_M, Or.inl wT_3_229⟩
theorem fM_76 : aw_F "ScopeTreeModel" 76 9 22 := ⟨_, tn_M, 33, rfl, by decide, in_M, Or.inl wT_3_228⟩
theorem sA_11 : aw_S "ScopeTree$Archive" 11 0 0 (.array (.object "ScopeTree$ClassFile")) true := ⟨_, tn_A, 4, ty_A, rfl, by decide, in_A, tk_A, nm_A, rfl, by decide +kernel, Or.inl wT_1_47, fun _ => rfl⟩
theorem sA_19 : aw_S "ScopeTree$Archive" 19 0 2 (.array (.object "ScopeTree$Descriptor")) true := ⟨_, tn_A, 4, ty_A, rfl, by decide, in_A, tk_A, nm_A, rfl, by decide +kernel, Or.inl wT_1_50, fun _ => rfl⟩
theorem cA_23 : aw_CV "ScopeTree$Archive" 23 mA_placeOfFile 0 1 := ⟨cb_A_placeOfFile, ⟨tn_A, 4, rfl⟩, wT_2_90, wS_3, wT_2_88⟩
theorem fA_27 : aw_F "ScopeTree$Archive" 27 0 1 := ⟨_, tn_A, 4, rfl, by decide, in_A, Or.inl wT_1_48⟩
theorem fA_11 : aw_F "ScopeTree$Archive" 11 0 0 := ⟨_, tn_A, 4, rfl, by decide, in_A, Or.inl wT_1_47⟩
theorem cA_31 : aw_CV "ScopeTree$Archive" 31 mA_placeOfDescriptor 0 1 := ⟨cb_A_placeOfDescriptor, ⟨tn_A, 4, rfl⟩, wT_2_140, wS_5, wT_2_138⟩
theorem fA_34 : aw_F "ScopeTree$Archive" 34 0 3 := ⟨_, tn_A, 4, rfl, by decide, in_A, Or.inl wT_1_51⟩
theorem fA_19 : aw_F "ScopeTree$Archive" 19 0 2 := ⟨_, tn_A, 4, rfl, by decide, in_A, Or.inl wT_1_50⟩
theorem fA_37 : aw_F "ScopeTree$Archive" 37 1 0 := ⟨_, tn_C, 3, rfl, by decide, in_C, Or.inr ⟨_, wN_2_71⟩⟩
theorem sA_27 : aw_S "ScopeTree$Archive" 27 0 1 (.int) false := ⟨_, tn_A, 4, ty_A, rfl, by decide, in_A, tk_A, nm_A, rfl, by decide +kernel, Or.inl wT_1_48, fun h => by cases h⟩
theorem fA_46 : aw_F "ScopeTree$Archive" 46 2 0 := ⟨_, tn_D, 2, rfl, by decide, in_D, Or.inr ⟨_, wN_2_126⟩⟩
theorem sA_34 : aw_S "ScopeTree$Archive" 34 0 3 (.int) false := ⟨_, tn_A, 4, ty_A, rfl, by decide, in_A, tk_A, nm_A, rfl, by decide +kernel, Or.inl wT_1_51, fun h => by cases h⟩
theorem nA_12 : aw_N "ScopeTree$Archive" 12 0 4 [.null, .int 0, .null, .int 0] := ⟨_, tn_A, ty_A, rfl, in_A, tk_A, wT_3_11, wT_1_38, wT_1_2, by decide +kernel⟩
theorem cA_49 : aw_CI "ScopeTree$Archive" 49 mA_init 0 := ⟨cb_A_init, rfl, rfl, wT_1_40, wT_3_12⟩
theorem cA_50 : aw_CV "ScopeTree$Archive" 50 mA_fileOf 0 1 := ⟨cb_A_fileOf, ⟨tn_A, 4, rfl⟩, wT_3_23, wS_15, wT_3_21⟩
theorem cA_54 : aw_CVN "ScopeTree$Archive" 54 mC_isSame 1 1 := ⟨cb_C_isSame, ⟨tn_C, 3, rfl⟩, wT_3_27, wS_16, _, wN_3_25⟩
theorem cA_58 : aw_CV "ScopeTree$Archive" 58 mA_descriptorOf 0 1 := ⟨cb_A_descriptorOf, ⟨tn_A, 4, rfl⟩, wT_3_31, wS_17, wT_3_29⟩
theorem cA_62 : aw_CVN "ScopeTree$Archive" 62 mD_isSame 2 1 := ⟨cb_D_isSame, ⟨tn_D, 2, rfl⟩, wT_3_35, wS_18, _, wN_3_33⟩
theorem cC_1 : aw_CI "ScopeTree$ClassFile" 1 mR_init 0 := ⟨cb_R_init, rfl, rfl, wT_2_67, wT_2_66⟩
theorem sC_7 : aw_S "ScopeTree$ClassFile" 7 1 0 (.int) true := ⟨_, tn_C, 3, ty_C, rfl, by decide, in_C, tk_C, nm_C, rfl, by decide +kernel, Or.inl wT_2_70, fun _ => rfl⟩
theorem sC_13 : aw_S "ScopeTree$ClassFile" 13 1 1 (.int) true := ⟨_, tn_C, 3, ty_C, rfl, by decide, in_C, tk_C, nm_C, rfl, by decide +kernel, Or.inl wT_2_73, fun _ => rfl⟩
theorem sC_16 : aw_S "ScopeTree$ClassFile" 16 1 2 (.int) true := ⟨_, tn_C, 3, ty_C, rfl, by decide, in_C, tk_C, nm_C, rfl, by decide +kernel, Or.inl wT_2_75, fun _ => rfl⟩
theorem fC_7 : aw_F "ScopeTree$ClassFile" 7 1 0 := ⟨_, tn_C, 3, rfl, by decide, in_C, Or.inl wT_2_70⟩
theorem fC_13 : aw_F "ScopeTree$ClassFile" 13 1 1 := ⟨_, tn_C, 3, rfl, by decide, in_C, Or.inl wT_2_73⟩
theorem fC_16 : aw_F "ScopeTree$ClassFile" 16 1 2 := ⟨_, tn_C, 3, rfl, by decide, in_C, Or.inl wT_2_75⟩
theorem cD_1 : aw_CI "ScopeTree$Descriptor" 1 mR_init 0 := ⟨cb_R_init, rfl, rfl, wT_2_67, wT_2_124⟩
theorem sD_7 : aw_S "ScopeTree$Descriptor" 7 2 0 (.int) true := ⟨_, tn_D, 2, ty_D, rfl, by decide, in_D, tk_D, nm_D, rfl, by decide +kernel, Or.inl wT_2_125, fun _ => rfl⟩
theorem sD_13 : aw_S "ScopeTree$Descriptor" 13 2 1 (.int) true := ⟨_, tn_D, 2, ty_D, rfl, by decide, in_D, tk_D, nm_D, rfl, by decide +kernel, Or.inl wT_2_127, fun _ => rfl⟩
theorem fD_7 : aw_F "ScopeTree$Descriptor" 7 2 0 := ⟨_, tn_D, 2, rfl, by decide, in_D, Or.inl wT_2_125⟩
theorem fD_13 : aw_F "ScopeTree$Descriptor" 13 2 1 := ⟨_, tn_D, 2, rfl, by decide, in_D, Or.inl wT_2_127⟩
theorem cF_1 : aw_CI "ScopeTree$Filter" 1 mR_init 0 := ⟨cb_R_init, rfl, rfl, wT_2_67, wT_2_199⟩
theorem sF_7 : aw_S "ScopeTree$Filter" 7 3 0 (.int) true := ⟨_, tn_F, 3, ty_F, rfl, by decide, in_F, tk_F, nm_F, rfl, by decide +kernel, Or.inl wT_2_200, fun _ => rfl⟩
theorem sF_13 : aw_S "ScopeTree$Filter" 13 3 1 (.long) true := ⟨_, tn_F, 3, ty_F, rfl, by decide, in_F, tk_F, nm_F, rfl, by decide +kernel, Or.inl wT_2_201, fun _ => rfl⟩
theorem sF_17 : aw_S "ScopeTree$Filter" 17 3 2 (.long) true := ⟨_, tn_F, 3, ty_F, rfl, by decide, in_F, tk_F, nm_F, rfl, by decide +kernel, Or.inl wT_2_202, fun _ => rfl⟩
theorem fF_17 : aw_F "ScopeTree$Filter" 17 3 2 := ⟨_, tn_F, 3, rfl, by decide, in_F, Or.inl wT_2_202⟩
theorem fF_13 : aw_F "ScopeTree$Filter" 13 3 1 := ⟨_, tn_F, 3, rfl, by decide, in_F, Or.inl wT_2_201⟩
theorem fF_7 : aw_F "ScopeTree$Filter" 7 3 0 := ⟨_, tn_F, 3, rfl, by decide, in_F, Or.inl wT_2_200⟩
theorem sL_7 : aw_S "ScopeTree$Loader" 7 4 0 (.int) true := ⟨_, tn_L, 8, ty_L, rfl, by decide, in_L, tk_L, nm_L, rfl, by decide +kernel, Or.inl wT_1_68, fun _ => rfl⟩
theorem sL_13 : aw_S "ScopeTree$Loader" 13 4 1 (.int) true := ⟨_, tn_L, 8, ty_L, rfl, by decide, in_L, tk_L, nm_L, rfl, by decide +kernel, Or.inl wT_1_70, fun _ => rfl⟩
theorem sL_16 : aw_S "ScopeTree$Loader" 16 4 2 (.object "ScopeTree$Loader") true := ⟨_, tn_L, 8, ty_L, rfl, by decide, in_L, tk_L, nm_L, rfl, by decide +kernel, Or.inl wT_1_72, fun _ => rfl⟩
theorem sL_20 : aw_S "ScopeTree$Loader" 20 4 3 (.array (.object "ScopeTree$Archive")) true := ⟨_, tn_L, 8, ty_L, rfl, by decide, in_L, tk_L, nm_L, rfl, by decide +kernel, Or.inl wT_1_74, fun _ => rfl⟩
theorem sL_24 : aw_S "ScopeTree$Loader" 24 4 4 (.object "ScopeTree$Filter") true := ⟨_, tn_L, 8, ty_L, rfl, by decide, in_L, tk_L, nm_L, rfl, by decide +kernel, Or.inl wT_1_75, fun _ => rfl⟩
theorem fL_20 : aw_F "ScopeTree$Loader" 20 4 3 := ⟨_, tn_L, 8, rfl, by decide, in_L, Or.inl wT_1_74⟩
theorem cL_28 : aw_CVN "ScopeTree$Loader" 28 mA_fileOf 0 1 := ⟨cb_A_fileOf, ⟨tn_A, 4, rfl⟩, wT_3_23, wS_15, _, wN_3_106⟩
theorem cL_34 : aw_CVN "ScopeTree$Loader" 34 mA_descriptorOf 0 1 := ⟨cb_A_descriptorOf, ⟨tn_A, 4, rfl⟩, wT_3_31, wS_17, _, wN_3_181⟩
theorem cL_38 : aw_CVN "ScopeTree$Loader" 38 mA_isLike 0 1 := ⟨cb_A_isLike, ⟨tn_A, 4, rfl⟩, wT_3_19, wS_14, _, wN_3_17⟩
theorem sP_9 : aw_S "ScopeTree$Path" 9 5 0 (.array (.int)) true := ⟨_, tn_P, 2, ty_P, rfl, by decide, in_P, tk_P, nm_P, rfl, by decide +kernel, Or.inl wT_1_134, fun _ => rfl⟩
theorem fP_15 : aw_F "ScopeTree$Path" 15 5 1 := ⟨_, tn_P, 2, rfl, by decide, in_P, Or.inl wT_1_136⟩
theorem cP_19 : aw_CV "ScopeTree$Path" 19 mP_contains 5 1 := ⟨cb_P_contains, ⟨tn_P, 2, rfl⟩, wT_2_184, wS_8, wT_2_182⟩
theorem fP_9 : aw_F "ScopeTree$Path" 9 5 0 := ⟨_, tn_P, 2, rfl, by decide, in_P, Or.inl wT_1_134⟩
theorem sP_15 : aw_S "ScopeTree$Path" 15 5 1 (.int) false := ⟨_, tn_P, 2, ty_P, rfl, by decide, in_P, tk_P, nm_P, rfl, by decide +kernel, Or.inl wT_1_136, fun h => by cases h⟩
theorem nS_9 : aw_N "ScopeTree$Scope" 9 5 2 [.null, .int 0] := ⟨_, tn_P, ty_P, rfl, in_P, tk_P, wT_1_128, wT_1_129, wT_1_6, by decide +kernel⟩
theorem cS_11 : aw_CIN "ScopeTree$Scope" 11 mP_init 0 := ⟨cb_P_init, rfl, rfl, wT_1_131, _, wN_1_130⟩
theorem sS_12 : aw_S "ScopeTree$Scope" 12 6 1 (.object "ScopeTree$Path") true := ⟨_, tn_S, 10, ty_S, rfl, by decide, in_S, tk_S, nm_S, rfl, by decide +kernel, Or.inl wT_1_148, fun _ => rfl⟩
theorem sS_18 : aw_S "ScopeTree$Scope" 18 6 2 (.object "ScopeTree$Path") true := ⟨_, tn_S, 10, ty_S, rfl, by decide, in_S, tk_S, nm_S, rfl, by decide +kernel, Or.inl wT_1_150, fun _ => rfl⟩
theorem sS_27 : aw_S "ScopeTree$Scope" 27 6 4 (.object "ScopeTree$State") false := ⟨_, tn_S, 10, ty_S, rfl, by decide, in_S, tk_S, nm_S, rfl, by decide +kernel, Or.inl wT_1_153, fun h => by cases h⟩
theorem sS_32 : aw_S "ScopeTree$Scope" 32 6 8 (.array (.object "ScopeTree$Type")) true := ⟨_, tn_S, 10, ty_S, rfl, by decide, in_S, tk_S, nm_S, rfl, by decide +kernel, Or.inl wT_1_158, fun _ => rfl⟩
theorem sS_36 : aw_S "ScopeTree$Scope" 36 6 0 (.object "ScopeTree$Scope") true := ⟨_, tn_S, 10, ty_S, rfl, by decide, in_S, tk_S, nm_S, rfl, by decide +kernel, Or.inl wT_1_146, fun _ => rfl⟩
theorem fS_40 : aw_F "ScopeTree$Scope" 40 6 9 := ⟨_, tn_S, 10, rfl, by decide, in_S, Or.inl wT_1_160⟩
theorem fS_32 : aw_F "ScopeTree$Scope" 32 6 8 := ⟨_, tn_S, 10, rfl, by decide, in_S, Or.inl wT_1_158⟩
theorem sS_40 : aw_S "ScopeTree$Scope" 40 6 9 (.int) false := ⟨_, tn_S, 10, ty_S, rfl, by decide, in_S, tk_S, nm_S, rfl, by decide +kernel, Or.inl wT_1_160, fun h => by cases h⟩
theorem sY_7 : aw_S "ScopeTree$Type" 7 7 0 (.int) true := ⟨_, tn_Y, 5, ty_Y, rfl, by decide, in_Y, tk_Y, nm_Y, rfl, by decide +kernel, Or.inl wT_1_102, fun _ => rfl⟩
theorem sY_13 : aw_S "ScopeTree$Type" 13 7 1 (.int) true := ⟨_, tn_Y, 5, ty_Y, rfl, by decide, in_Y, tk_Y, nm_Y, rfl, by decide +kernel, Or.inl wT_1_104, fun _ => rfl⟩
theorem sY_16 : aw_S "ScopeTree$Type" 16 7 2 (.int) true := ⟨_, tn_Y, 5, ty_Y, rfl, by decide, in_Y, tk_Y, nm_Y, rfl, by decide +kernel, Or.inl wT_1_106, fun _ => rfl⟩
theorem sY_19 : aw_S "ScopeTree$Type" 19 7 3 (.object "ScopeTree$Loader") true := ⟨_, tn_Y, 5, ty_Y, rfl, by decide, in_Y, tk_Y, nm_Y, rfl, by decide +kernel, Or.inl wT_1_108, fun _ => rfl⟩
theorem sY_23 : aw_S "ScopeTree$Type" 23 7 4 (.object "ScopeTree$Type") true := ⟨_, tn_Y, 5, ty_Y, rfl, by decide, in_Y, tk_Y, nm_Y, rfl, by decide +kernel, Or.inl wT_1_110, fun _ => rfl⟩
theorem cW_7 : aw_CV "ScopeTreeLaw" 7 mT_file 8 4 := ⟨cb_T_file, ⟨tn_T, 8, rfl⟩, wT_1_223, wT_1_224, wT_1_222⟩
theorem cW_17 : aw_CV "ScopeTreeLaw" 17 mT_descriptor 8 3 := ⟨cb_T_descriptor, ⟨tn_T, 8, rfl⟩, wT_2_115, wT_2_116, wT_2_114⟩
theorem cW_21 : aw_CV "ScopeTreeLaw" 21 mT_wipe 8 1 := ⟨cb_T_wipe, ⟨tn_T, 8, rfl⟩, wT_2_147, wT_2_148, wT_2_146⟩
theorem cW_25 : aw_CV "ScopeTreeLaw" 25 mT_child 8 1 := ⟨cb_T_child, ⟨tn_T, 8, rfl⟩, wT_2_154, wT_2_155, wT_2_153⟩
theorem cW_29 : aw_CV "ScopeTreeLaw" 29 mT_add 8 3 := ⟨cb_T_add, ⟨tn_T, 8, rfl⟩, wT_2_170, wT_2_171, wT_2_169⟩
theorem cW_33 : aw_CV "ScopeTreeLaw" 33 mT_filter 8 4 := ⟨cb_T_filter, ⟨tn_T, 8, rfl⟩, wT_2_190, wT_2_191, wT_2_189⟩
theorem cW_37 : aw_CV "ScopeTreeLaw" 37 mT_lock 8 1 := ⟨cb_T_lock, ⟨tn_T, 8, rfl⟩, wT_2_215, wT_2_216, wT_2_214⟩
theorem cW_42 : aw_CV "ScopeTreeLaw" 42 mT_release 8 1 := ⟨cb_T_release, ⟨tn_T, 8, rfl⟩, wT_3_57, wT_3_58, wT_3_56⟩
theorem cW_45 : aw_CV "ScopeTreeLaw" 45 mT_loader 8 2 := ⟨cb_T_loader, ⟨tn_T, 8, rfl⟩, wT_3_74, wT_3_75, wT_3_73⟩
theorem cW_49 : aw_CV "ScopeTreeLaw" 49 mT_load 8 2 := ⟨cb_T_load, ⟨tn_T, 8, rfl⟩, wT_3_82, wT_3_83, wT_3_81⟩
theorem cW_55 : aw_CV "ScopeTreeLaw" 55 mT_info 8 2 := ⟨cb_T_info, ⟨tn_T, 8, rfl⟩, wT_3_147, wT_3_148, wT_3_146⟩
theorem cW_58 : aw_CV "ScopeTreeLaw" 58 mT_isA 8 2 := ⟨cb_T_isA, ⟨tn_T, 8, rfl⟩, wT_3_160, wT_3_161, wT_3_159⟩
theorem cW_62 : aw_CV "ScopeTreeLaw" 62 mT_apply 8 2 := ⟨cb_T_apply, ⟨tn_T, 8, rfl⟩, wT_3_170, wT_3_171, wT_3_169⟩
theorem cW_65 : aw_CV "ScopeTreeLaw" 65 mT_applied 8 2 := ⟨cb_T_applied, ⟨tn_T, 8, rfl⟩, wT_3_197, wT_3_198, wT_3_196⟩
theorem nW_8 : aw_N "ScopeTreeLaw" 8 8 8 [.null, .null, .int 0, .null, .null, .int 0, .null, .null] := ⟨_, tn_T, ty_T, rfl, in_T, tk_T, wT_1_22, wT_1_23, wT_1_1, by decide +kernel⟩
theorem cW_68 : aw_CI "ScopeTreeLaw" 68 mT_init 0 := ⟨cb_T_init, rfl, rfl, wT_1_25, wT_1_24⟩
theorem nW_69 : aw_N "ScopeTreeLaw" 69 9 33 [.int 0, .null, .null, .null, .null, .null, .null, .null, .null, .null, .null, .null, .int 0, .null, .null, .null, .null, .null, .null, .null, .null, .null, .null, .null, .int 0, .null, .null, .null, .null, .int 0, .int 0, .null, .null] := ⟨_, tn_M, ty_M, rfl, in_M, tk_M, wT_3_200, wT_3_201, wT_1_9, by decide +kernel⟩
theorem cW_71 : aw_CI "ScopeTreeLaw" 71 mM_init 0 := ⟨cb_M_init, rfl, rfl, wT_3_203, wT_3_202⟩
theorem cW_72 : aw_CSW "ScopeTreeLaw" 72 mW_file 6 := ⟨cb_W_file, wT_1_218, wT_1_217⟩
theorem cW_77 : aw_CV "ScopeTreeLaw" 77 mM_file 9 4 := ⟨cb_M_file, ⟨tn_M, 33, rfl⟩, wT_4_73, wT_4_74, wT_4_72⟩
theorem cW_78 : aw_CV "ScopeTreeLaw" 78 mM_thrown 9 0 := ⟨cb_M_thrown, ⟨tn_M, 33, rfl⟩, wT_4_69, wT_4_70, wT_4_68⟩
theorem cW_82 : aw_CSW "ScopeTreeLaw" 82 mW_descriptor 5 := ⟨cb_W_descriptor, wT_2_112, wT_2_111⟩
theorem cW_85 : aw_CV "ScopeTreeLaw" 85 mM_descriptor 9 3 := ⟨cb_M_descriptor, ⟨tn_M, 33, rfl⟩, wT_4_84, wT_4_85, wT_4_83⟩
theorem cW_86 : aw_CSW "ScopeTreeLaw" 86 mW_wipe 2 := ⟨cb_W_wipe, wT_2_144, wT_2_143⟩
theorem cW_89 : aw_CV "ScopeTreeLaw" 89 mM_wipe 9 1 := ⟨cb_M_wipe, ⟨tn_M, 33, rfl⟩, wT_4_88, wT_4_89, wT_4_87⟩
theorem cW_90 : aw_CSW "ScopeTreeLaw" 90 mW_child 3 := ⟨cb_W_child, wT_2_151, wT_2_150⟩
theorem cW_93 : aw_CV "ScopeTreeLaw" 93 mM_child 9 1 := ⟨cb_M_child, ⟨tn_M, 33, rfl⟩, wT_4_92, wT_4_93, wT_4_91⟩
theorem cW_94 : aw_CSW "ScopeTreeLaw" 94 mW_add 5 := ⟨cb_W_add, wT_2_167, wT_2_166⟩
theorem cW_97 : aw_CV "ScopeTreeLaw" 97 mM_add 9 3 := ⟨cb_M_add, ⟨tn_M, 33, rfl⟩, wT_4_100, wT_4_101, wT_4_99⟩
theorem cW_100 : aw_CSW "ScopeTreeLaw" 100 mW_filter 5 := ⟨cb_W_filter, wT_2_187, wT_2_186⟩
theorem cW_103 : aw_CV "ScopeTreeLaw" 103 mM_filter 9 4 := ⟨cb_M_filter, ⟨tn_M, 33, rfl⟩, wT_4_104, wT_4_105, wT_4_103⟩
theorem cW_104 : aw_CSW "ScopeTreeLaw" 104 mW_lock 3 := ⟨cb_W_lock, wT_2_211, wT_2_210⟩
theorem cW_106 : aw_CV "ScopeTreeLaw" 106 mM_lock 9 1 := ⟨cb_M_lock, ⟨tn_M, 33, rfl⟩, wT_4_108, wT_4_109, wT_4_107⟩
theorem cW_107 : aw_CSW "ScopeTreeLaw" 107 mW_release 3 := ⟨cb_W_release, wT_3_54, wT_3_53⟩
theorem cW_109 : aw_CV "ScopeTreeLaw" 109 mM_release 9 1 := ⟨cb_M_release, ⟨tn_M, 33, rfl⟩, wT_4_148, wT_4_149, wT_4_147⟩
theorem cW_110 : aw_CSW "ScopeTreeLaw" 110 mW_loader 4 := ⟨cb_W_loader, wT_3_71, wT_3_70⟩
theorem cW_113 : aw_CV "ScopeTreeLaw" 113 mM_loader 9 2 := ⟨cb_M_loader, ⟨tn_M, 33, rfl⟩, wT_4_160, wT_4_161, wT_4_159⟩
theorem cW_114 : aw_CV "ScopeTreeLaw" 114 mT_look 8 2 := ⟨cb_T_look, ⟨tn_T, 8, rfl⟩, wT_1_211, wT_1_212, wT_1_210⟩
theorem cW_117 : aw_CV "ScopeTreeLaw" 117 mM_look 9 2 := ⟨cb_M_look, ⟨tn_M, 33, rfl⟩, wT_4_164, wT_4_165, wT_4_163⟩
theorem cW_118 : aw_CSW "ScopeTreeLaw" 118 mW_load 4 := ⟨cb_W_load, wT_3_78, wT_3_77⟩
theorem cW_121 : aw_CV "ScopeTreeLaw" 121 mM_load 9 2 := ⟨cb_M_load, ⟨tn_M, 33, rfl⟩, wT_4_168, wT_4_169, wT_4_167⟩
theorem cW_122 : aw_CSW "ScopeTreeLaw" 122 mW_info 4 := ⟨cb_W_info, wT_3_144, wT_3_143⟩
theorem cW_124 : aw_CV "ScopeTreeLaw" 124 mM_info 9 2 := ⟨cb_M_info, ⟨tn_M, 33, rfl⟩, wT_4_192, wT_4_193, wT_4_191⟩
theorem cW_125 : aw_CSW "ScopeTreeLaw" 125 mW_isA 4 := ⟨cb_W_isA, wT_3_157, wT_3_156⟩
theorem cW_127 : aw_CV "ScopeTreeLaw" 127 mM_isA 9 2 := ⟨cb_M_isA, ⟨tn_M, 33, rfl⟩, wT_4_196, wT_4_197, wT_4_195⟩
theorem cW_128 : aw_CSW "ScopeTreeLaw" 128 mW_apply 4 := ⟨cb_W_apply, wT_3_167, wT_3_166⟩
theorem cW_130 : aw_CV "ScopeTreeLaw" 130 mM_apply 9 2 := ⟨cb_M_apply, ⟨tn_M, 33, rfl⟩, wT_4_204, wT_4_205, wT_4_203⟩
theorem cW_131 : aw_CSW "ScopeTreeLaw" 131 mW_applied 4 := ⟨cb_W_applied, wT_3_194, wT_3_193⟩
theorem cW_133 : aw_CV "ScopeTreeLaw" 133 mM_applied 9 2 := ⟨cb_M_applied, ⟨tn_M, 33, rfl⟩, wT_4_212, wT_4_213, wT_4_211⟩
set_option maxRecDepth 100000 in
theorem tw_IA : ∀ w ∈ vx_atS "ScopeTree" 88 "java/lang/IllegalArgumentException" ["java/lang/RuntimeException", "java/lang/Exception"], w ∈ aw_TB ∨ w ∈ aw_NB := by decide +kernel
set_option maxRecDepth 100000 in
theorem tg_IA : ∀ w ∈ Cond.classLink "ScopeTree" 84 "java/lang/IllegalArgumentException" :: Cond.initialized "java/lang/IllegalArgumentException" :: vx_atS "ScopeTree" 88 "java/lang/IllegalArgumentException" ["java/lang/RuntimeException", "java/lang/Exception"], vx_ot w = true := by decide +kernel
theorem t_86 : aw_TS "ScopeTree" 84 86 88 "java/lang/IllegalArgumentException" "no name of a class file" ["java/lang/RuntimeException", "java/lang/Exception"] := ⟨by decide +kernel, by decide +kernel, by decide, wT_1_230, wT_1_13, by decide +kernel, tw_IA, tg_IA⟩
theorem t_91 : aw_TS "ScopeTree" 84 91 88 "java/lang/IllegalArgumentException" "no such super or version" ["java/lang/RuntimeException", "java/lang/Exception"] := ⟨by decide +kernel, by decide +kernel, by decide, wT_1_230, wT_1_13, by decide +kernel, tw_IA, tg_IA⟩
set_option maxRecDepth 100000 in
theorem tw_IS : ∀ w ∈ vx_atS "ScopeTree" 106 "java/lang/IllegalStateException" ["java/lang/RuntimeException", "java/lang/Exception"], w ∈ aw_TB ∨ w ∈ aw_NB := by decide +kernel
set_option maxRecDepth 100000 in
theorem tg_IS : ∀ w ∈ Cond.classLink "ScopeTree" 102 "java/lang/IllegalStateException" :: Cond.initialized "java/lang/IllegalStateException" :: vx_atS "ScopeTree" 106 "java/lang/IllegalStateException" ["java/lang/RuntimeException", "java/lang/Exception"], vx_ot w = true := by decide +kernel
theorem t_104 : aw_TS "ScopeTree" 102 104 106 "java/lang/IllegalStateException" "the archive is full of class files" ["java/lang/RuntimeException", "java/lang/Exception"] := ⟨by decide +kernel, by decide +kernel, by decide, wT_2_95, wT_1_17, by decide +kernel, tw_IS, tg_IS⟩
theorem t_110 : aw_TS "ScopeTree" 84 110 88 "java/lang/IllegalArgumentException" "no such plugin or name" ["java/lang/RuntimeException", "java/lang/Exception"] := ⟨by decide +kernel, by decide +kernel, by decide, wT_1_230, wT_1_13, by decide +kernel, tw_IA, tg_IA⟩
theorem t_121 : aw_TS "ScopeTree" 102 121 106 "java/lang/IllegalStateException" "the archive is full of descriptors" ["java/lang/RuntimeException", "java/lang/Exception"] := ⟨by decide +kernel, by decide +kernel, by decide, wT_2_95, wT_1_17, by decide +kernel, tw_IS, tg_IS⟩
theorem t_133 : aw_TS "ScopeTree" 84 133 88 "java/lang/IllegalArgumentException" "the parent is released" ["java/lang/RuntimeException", "java/lang/Exception"] := ⟨by decide +kernel, by decide +kernel, by decide, wT_1_230, wT_1_13, by decide +kernel, tw_IA, tg_IA⟩
theorem t_135 : aw_TS "ScopeTree" 102 135 106 "java/lang/IllegalStateException" "no scope number is left" ["java/lang/RuntimeException", "java/lang/Exception"] := ⟨by decide +kernel, by decide +kernel, by decide, wT_2_95, wT_1_17, by decide +kernel, tw_IS, tg_IS⟩
theorem t_137 : aw_TS "ScopeTree" 84 137 88 "java/lang/IllegalArgumentException" "no such archive" ["java/lang/RuntimeException", "java/lang/Exception"] := ⟨by decide +kernel, by decide +kernel, by decide, wT_1_230, wT_1_13, by decide +kernel, tw_IA, tg_IA⟩
theorem t_155 : aw_TS "ScopeTree" 84 155 88 "java/lang/IllegalArgumentException" "no such set of packages" ["java/lang/RuntimeException", "java/lang/Exception"] := ⟨by decide +kernel, by decide +kernel, by decide, wT_1_230, wT_1_13, by decide +kernel, tw_IA, tg_IA⟩
theorem t_170 : aw_TS "ScopeTree" 102 170 106 "java/lang/IllegalStateException" "the parent is not locked" ["java/lang/RuntimeException", "java/lang/Exception"] := ⟨by decide +kernel, by decide +kernel, by decide, wT_2_95, wT_1_17, by decide +kernel, tw_IS, tg_IS⟩
set_option maxRecDepth 100000 in
theorem tw_UO : ∀ w ∈ vx_atS "ScopeTree" 180 "java/lang/UnsupportedOperationException" ["java/lang/RuntimeException", "java/lang/Exception"], w ∈ aw_TB ∨ w ∈ aw_NB := by decide +kernel
set_option maxRecDepth 100000 in
theorem tg_UO : ∀ w ∈ Cond.classLink "ScopeTree" 176 "java/lang/UnsupportedOperationException" :: Cond.initialized "java/lang/UnsupportedOperationException" :: vx_atS "ScopeTree" 180 "java/lang/UnsupportedOperationException" ["java/lang/RuntimeException", "java/lang/Exception"], vx_ot w = true := by decide +kernel
theorem t_178 : aw_TS "ScopeTree" 176 178 180 "java/lang/UnsupportedOperationException" "too few loader numbers are free" ["java/lang/RuntimeException", "java/lang/Exception"] := ⟨by decide +kernel, by decide +kernel, by decide, wT_2_223, wT_1_20, by decide +kernel, tw_UO, tg_UO⟩
theorem t_195 : aw_TS "ScopeTree" 84 195 88 "java/lang/IllegalArgumentException" "scope 0 is never released" ["java/lang/RuntimeException", "java/lang/Exception"] := ⟨by decide +kernel, by decide +kernel, by decide, wT_1_230, wT_1_13, by decide +kernel, tw_IA, tg_IA⟩
theorem t_201 : aw_TS "ScopeTree" 102 201 106 "java/lang/IllegalStateException" "released, or a child is not" ["java/lang/RuntimeException", "java/lang/Exception"] := ⟨by decide +kernel, by decide +kernel, by decide, wT_2_95, wT_1_17, by decide +kernel, tw_IS, tg_IS⟩
theorem t_215 : aw_TS "ScopeTree" 84 215 88 "java/lang/IllegalArgumentException" "no such name" ["java/lang/RuntimeException", "java/lang/Exception"] := ⟨by decide +kernel, by decide +kernel, by decide, wT_1_230, wT_1_13, by decide +kernel, tw_IA, tg_IA⟩
theorem t_255 : aw_TS "ScopeTree" 84 255 88 "java/lang/IllegalArgumentException" "no such plugin" ["java/lang/RuntimeException", "java/lang/Exception"] := ⟨by decide +kernel, by decide +kernel, by decide, wT_1_230, wT_1_13, by decide +kernel, tw_IA, tg_IA⟩
theorem t_275 : aw_TS "ScopeTree" 84 275 88 "java/lang/IllegalArgumentException" "no such scope" ["java/lang/RuntimeException", "java/lang/Exception"] := ⟨by decide +kernel, by decide +kernel, by decide, wT_1_230, wT_1_13, by decide +kernel, tw_IA, tg_IA⟩
theorem t_282 : aw_TS "ScopeTree" 102 282 106 "java/lang/IllegalStateException" "the scope is locked or released" ["java/lang/RuntimeException", "java/lang/Exception"] := ⟨by decide +kernel, by decide +kernel, by decide, wT_2_95, wT_1_17, by decide +kernel, tw_IS, tg_IS⟩
theorem t_284 : aw_TS "ScopeTree" 102 284 106 "java/lang/IllegalStateException" "the scope is not locked, or released" ["java/lang/RuntimeException", "java/lang/Exception"] := ⟨by decide +kernel, by decide +kernel, by decide, wT_2_95, wT_1_17, by decide +kernel, tw_IS, tg_IS⟩
theorem t_341 : aw_TS "ScopeTree" 176 341 180 "java/lang/UnsupportedOperationException" "circular" ["java/lang/RuntimeException", "java/lang/Exception"] := ⟨by decide +kernel, by decide +kernel, by decide, wT_2_223, wT_1_20, by decide +kernel, tw_UO, tg_UO⟩
theorem t_343 : aw_TS "ScopeTree" 176 343 180 "java/lang/UnsupportedOperationException" "deep" ["java/lang/RuntimeException", "java/lang/Exception"] := ⟨by decide +kernel, by decide +kernel, by decide, wT_2_223, wT_1_20, by decide +kernel, tw_UO, tg_UO⟩
theorem t_348 : aw_TS "ScopeTree" 176 348 180 "java/lang/UnsupportedOperationException" "link error" ["java/lang/RuntimeException", "java/lang/Exception"] := ⟨by decide +kernel, by decide +kernel, by decide, wT_2_223, wT_1_20, by decide +kernel, tw_UO, tg_UO⟩
theorem t_354 : aw_TS "ScopeTree" 176 354 180 "java/lang/UnsupportedOperationException" "no class number is left" ["java/lang/RuntimeException", "java/lang/Exception"] := ⟨by decide +kernel, by decide +kernel, by decide, wT_2_223, wT_1_20, by decide +kernel, tw_UO, tg_UO⟩
theorem stA_0 : Cond.arrayOver (.object "ScopeTree$Archive") ∈ lw_tbl := wA_1_31
theorem stA_1 : Cond.arrayOver (.object "ScopeTree$Scope") ∈ lw_tbl := wA_1_33
theorem stA_2 : Cond.arrayOver (.object "ScopeTree$Loader") ∈ lw_tbl := wA_1_35
theorem stA_3 : Cond.arrayOver (.object "ScopeTree$Type") ∈ lw_tbl := wA_1_37
theorem stA_4 : Cond.arrayOver (.object "ScopeTree$ClassFile") ∈ lw_tbl := wA_1_44
theorem stA_5 : Cond.arrayOver (.object "ScopeTree$Descriptor") ∈ lw_tbl := wA_1_46
theorem stE_0 : Cond.laysStatic "ScopeTree$State" "OPEN" "LScopeTree$State;" ∈ lw_tbl := wA_1_144
theorem stE_1 : Cond.laysStatic "ScopeTree$State" "LOCKED" "LScopeTree$State;" ∈ lw_tbl := wA_1_184
theorem stE_2 : Cond.laysStatic "ScopeTree$State" "RELEASED" "LScopeTree$State;" ∈ lw_tbl := wA_2_163
theorem stU : Cond.laysStatic "java/lang/Throwable" "UNASSIGNED_STACK" "[Ljava/lang/StackTraceElement;" ∈ lw_tbl := wA_2_17
theorem stN : Cond.laysStatic "java/lang/Throwable" "SUPPRESSED_SENTINEL" "Ljava/util/List;" ∈ lw_tbl := wA_2_19
theorem stIT : Cond.initialized "java/lang/Throwable" ∈ aw_TB := wT_1_10
theorem stIS : Cond.initialized "ScopeTree$State" ∈ aw_TB := wT_1_8
theorem stC_A : Cond.instantiable "ScopeTree$Archive" 4 ∈ aw_TB := wT_1_38
theorem stC_C : Cond.instantiable "ScopeTree$ClassFile" 3 ∈ aw_TB := wT_2_62
theorem stC_D : Cond.instantiable "ScopeTree$Descriptor" 2 ∈ aw_TB := wT_2_120
theorem stC_F : Cond.instantiable "ScopeTree$Filter" 3 ∈ aw_TB := wT_2_195
theorem stC_L : Cond.instantiable "ScopeTree$Loader" 8 ∈ aw_TB := wT_1_63
theorem stC_P : Cond.instantiable "ScopeTree$Path" 2 ∈ aw_TB := wT_1_129
theorem stC_S : Cond.instantiable "ScopeTree$Scope" 10 ∈ aw_TB := wT_1_123
theorem stC_Y : Cond.instantiable "ScopeTree$Type" 5 ∈ aw_TB := wT_1_97
theorem stC_T : Cond.instantiable "ScopeTree" 8 ∈ aw_TB := wT_1_23
theorem stC_M : Cond.instantiable "ScopeTreeModel" 33 ∈ aw_TB := wT_3_201
theorem wP_I : Cond.arrayClass .int ∈ aw_TB := wT_1_62
theorem wP_Z : Cond.arrayClass .boolean ∈ aw_TB := wT_4_66
theorem wP_J : Cond.arrayClass .long ∈ aw_TB := wT_4_67
theorem wOI : Cond.instanceMethod objectInit ∈ aw_TB := wT_1_28
theorem wOC : Cond.code objectInit ⟨#[0xb1]⟩ 1 none ∈ aw_TB := wT_1_29
