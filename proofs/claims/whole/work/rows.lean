section
-- ===== PART A: goes FIRST, ahead of the names: the tables' words, and 'selects' of the private methods out of them =====
/-- a private method of a class that the tables say can be made, by its rows of tables_1 -/
def lw_okq (q : MethodName × Nat) : Prop := (q.1.cls ≠ "java/lang/invoke/MethodHandle" ∧ q.1.cls ≠ "java/lang/invoke/VarHandle") ∧ Cond.instantiable q.1.cls q.2 ∈ tables_1 ∧ Cond.privateMethod q.1 ∈ tables_1 ∧ Cond.instanceMethod q.1 ∈ tables_1
theorem lw_p0 : lw_okq (⟨"ScopeTree", "archiveAt", "(I)LScopeTree$Archive;"⟩, 8) := ⟨⟨by decide +kernel, by decide +kernel⟩, List.mem_of_getElem? (i := 23) (by decide +kernel), List.mem_of_getElem? (i := 227) (by decide +kernel), List.mem_of_getElem? (i := 228) (by decide +kernel)⟩
theorem lw_p1 : lw_okq (⟨"java/lang/Throwable", "fillInStackTrace", "(I)Ljava/lang/Throwable;"⟩, 6) := ⟨⟨by decide +kernel, by decide +kernel⟩, List.mem_of_getElem? (i := 270) (by decide +kernel), List.mem_of_getElem? (i := 268) (by decide +kernel), List.mem_of_getElem? (i := 269) (by decide +kernel)⟩
theorem lw_p2 : lw_okq (⟨"ScopeTree$Archive", "putFile", "(LScopeTree$ClassFile;)Z"⟩, 4) := ⟨⟨by decide +kernel, by decide +kernel⟩, List.mem_of_getElem? (i := 38) (by decide +kernel), List.mem_of_getElem? (i := 325) (by decide +kernel), List.mem_of_getElem? (i := 326) (by decide +kernel)⟩
theorem lw_p3 : lw_okq (⟨"ScopeTree$Archive", "placeOfFile", "(I)I"⟩, 4) := ⟨⟨by decide +kernel, by decide +kernel⟩, List.mem_of_getElem? (i := 38) (by decide +kernel), List.mem_of_getElem? (i := 329) (by decide +kernel), List.mem_of_getElem? (i := 330) (by decide +kernel)⟩
theorem lw_p4 : lw_okq (⟨"ScopeTree$Archive", "putDescriptor", "(LScopeTree$Descriptor;)Z"⟩, 4) := ⟨⟨by decide +kernel, by decide +kernel⟩, List.mem_of_getElem? (i := 38) (by decide +kernel), List.mem_of_getElem? (i := 375) (by decide +kernel), List.mem_of_getElem? (i := 376) (by decide +kernel)⟩
theorem lw_p5 : lw_okq (⟨"ScopeTree$Archive", "placeOfDescriptor", "(I)I"⟩, 4) := ⟨⟨by decide +kernel, by decide +kernel⟩, List.mem_of_getElem? (i := 38) (by decide +kernel), List.mem_of_getElem? (i := 379) (by decide +kernel), List.mem_of_getElem? (i := 380) (by decide +kernel)⟩
theorem lw_p6 : lw_okq (⟨"ScopeTree", "scopeAt", "(I)LScopeTree$Scope;"⟩, 8) := ⟨⟨by decide +kernel, by decide +kernel⟩, List.mem_of_getElem? (i := 23) (by decide +kernel), List.mem_of_getElem? (i := 398) (by decide +kernel), List.mem_of_getElem? (i := 399) (by decide +kernel)⟩
theorem lw_p7 : lw_okq (⟨"ScopeTree$Path", "append", "(I)Z"⟩, 2) := ⟨⟨by decide +kernel, by decide +kernel⟩, List.mem_of_getElem? (i := 129) (by decide +kernel), List.mem_of_getElem? (i := 419) (by decide +kernel), List.mem_of_getElem? (i := 420) (by decide +kernel)⟩
theorem lw_p8 : lw_okq (⟨"ScopeTree$Path", "contains", "(I)Z"⟩, 2) := ⟨⟨by decide +kernel, by decide +kernel⟩, List.mem_of_getElem? (i := 129) (by decide +kernel), List.mem_of_getElem? (i := 423) (by decide +kernel), List.mem_of_getElem? (i := 424) (by decide +kernel)⟩
theorem lw_p9 : lw_okq (⟨"ScopeTree", "freeLoaderNumbers", "()I"⟩, 8) := ⟨⟨by decide +kernel, by decide +kernel⟩, List.mem_of_getElem? (i := 23) (by decide +kernel), List.mem_of_getElem? (i := 460) (by decide +kernel), List.mem_of_getElem? (i := 461) (by decide +kernel)⟩
theorem lw_p10 : lw_okq (⟨"ScopeTree", "wantedDefining", "(LScopeTree$Path;LScopeTree$Loader;)LScopeTree$Loader;"⟩, 8) := ⟨⟨by decide +kernel, by decide +kernel⟩, List.mem_of_getElem? (i := 23) (by decide +kernel), List.mem_of_getElem? (i := 480) (by decide +kernel), List.mem_of_getElem? (i := 481) (by decide +kernel)⟩
theorem lw_p11 : lw_okq (⟨"ScopeTree", "contentsOf", "(LScopeTree$Path;)[LScopeTree$Archive;"⟩, 8) := ⟨⟨by decide +kernel, by decide +kernel⟩, List.mem_of_getElem? (i := 23) (by decide +kernel), List.mem_of_getElem? (i := 484) (by decide +kernel), List.mem_of_getElem? (i := 485) (by decide +kernel)⟩
theorem lw_p12 : lw_okq (⟨"ScopeTree$Archive", "copy", "()LScopeTree$Archive;"⟩, 4) := ⟨⟨by decide +kernel, by decide +kernel⟩, List.mem_of_getElem? (i := 38) (by decide +kernel), List.mem_of_getElem? (i := 488) (by decide +kernel), List.mem_of_getElem? (i := 489) (by decide +kernel)⟩
theorem lw_p13 : lw_okq (⟨"ScopeTree$Loader", "hasPathLike", "([LScopeTree$Archive;)Z"⟩, 8) := ⟨⟨by decide +kernel, by decide +kernel⟩, List.mem_of_getElem? (i := 63) (by decide +kernel), List.mem_of_getElem? (i := 494) (by decide +kernel), List.mem_of_getElem? (i := 495) (by decide +kernel)⟩
theorem lw_p14 : lw_okq (⟨"ScopeTree$Archive", "isLike", "(LScopeTree$Archive;)Z"⟩, 4) := ⟨⟨by decide +kernel, by decide +kernel⟩, List.mem_of_getElem? (i := 38) (by decide +kernel), List.mem_of_getElem? (i := 498) (by decide +kernel), List.mem_of_getElem? (i := 499) (by decide +kernel)⟩
theorem lw_p15 : lw_okq (⟨"ScopeTree$Archive", "fileOf", "(I)LScopeTree$ClassFile;"⟩, 4) := ⟨⟨by decide +kernel, by decide +kernel⟩, List.mem_of_getElem? (i := 38) (by decide +kernel), List.mem_of_getElem? (i := 502) (by decide +kernel), List.mem_of_getElem? (i := 503) (by decide +kernel)⟩
def lw_privs_1 : List (MethodName × Nat) := [(⟨"ScopeTree", "archiveAt", "(I)LScopeTree$Archive;"⟩, 8), (⟨"java/lang/Throwable", "fillInStackTrace", "(I)Ljava/lang/Throwable;"⟩, 6), (⟨"ScopeTree$Archive", "putFile", "(LScopeTree$ClassFile;)Z"⟩, 4), (⟨"ScopeTree$Archive", "placeOfFile", "(I)I"⟩, 4), (⟨"ScopeTree$Archive", "putDescriptor", "(LScopeTree$Descriptor;)Z"⟩, 4), (⟨"ScopeTree$Archive", "placeOfDescriptor", "(I)I"⟩, 4), (⟨"ScopeTree", "scopeAt", "(I)LScopeTree$Scope;"⟩, 8), (⟨"ScopeTree$Path", "append", "(I)Z"⟩, 2), (⟨"ScopeTree$Path", "contains", "(I)Z"⟩, 2), (⟨"ScopeTree", "freeLoaderNumbers", "()I"⟩, 8), (⟨"ScopeTree", "wantedDefining", "(LScopeTree$Path;LScopeTree$Loader;)LScopeTree$Loader;"⟩, 8), (⟨"ScopeTree", "contentsOf", "(LScopeTree$Path;)[LScopeTree$Archive;"⟩, 8), (⟨"ScopeTree$Archive", "copy", "()LScopeTree$Archive;"⟩, 4), (⟨"ScopeTree$Loader", "hasPathLike", "([LScopeTree$Archive;)Z"⟩, 8), (⟨"ScopeTree$Archive", "isLike", "(LScopeTree$Archive;)Z"⟩, 4), (⟨"ScopeTree$Archive", "fileOf", "(I)LScopeTree$ClassFile;"⟩, 4)]
theorem lw_r1 : ∀ q ∈ lw_privs_1, lw_okq q := List.forall_mem_cons.mpr ⟨lw_p0, List.forall_mem_cons.mpr ⟨lw_p1, List.forall_mem_cons.mpr ⟨lw_p2, List.forall_mem_cons.mpr ⟨lw_p3, List.forall_mem_cons.mpr ⟨lw_p4, List.forall_mem_cons.mpr ⟨lw_p5, List.forall_mem_cons.mpr ⟨lw_p6, List.forall_mem_cons.mpr ⟨lw_p7, List.forall_mem_cons.mpr ⟨lw_p8, List.forall_mem_cons.mpr ⟨lw_p9, List.forall_mem_cons.mpr ⟨lw_p10, List.forall_mem_cons.mpr ⟨lw_p11, List.forall_mem_cons.mpr ⟨lw_p12, List.forall_mem_cons.mpr ⟨lw_p13, List.forall_mem_cons.mpr ⟨lw_p14, List.forall_mem_cons.mpr ⟨lw_p15, fun _ h => absurd h List.not_mem_nil⟩⟩⟩⟩⟩⟩⟩⟩⟩⟩⟩⟩⟩⟩⟩⟩
theorem lw_p16 : lw_okq (⟨"ScopeTree$ClassFile", "isSame", "(LScopeTree$ClassFile;)Z"⟩, 3) := ⟨⟨by decide +kernel, by decide +kernel⟩, List.mem_of_getElem? (i := 302) (by decide +kernel), List.mem_of_getElem? (i := 506) (by decide +kernel), List.mem_of_getElem? (i := 507) (by decide +kernel)⟩
theorem lw_p17 : lw_okq (⟨"ScopeTree$Archive", "descriptorOf", "(I)LScopeTree$Descriptor;"⟩, 4) := ⟨⟨by decide +kernel, by decide +kernel⟩, List.mem_of_getElem? (i := 38) (by decide +kernel), List.mem_of_getElem? (i := 510) (by decide +kernel), List.mem_of_getElem? (i := 511) (by decide +kernel)⟩
theorem lw_p18 : lw_okq (⟨"ScopeTree$Descriptor", "isSame", "(LScopeTree$Descriptor;)Z"⟩, 2) := ⟨⟨by decide +kernel, by decide +kernel⟩, List.mem_of_getElem? (i := 360) (by decide +kernel), List.mem_of_getElem? (i := 514) (by decide +kernel), List.mem_of_getElem? (i := 515) (by decide +kernel)⟩
theorem lw_p19 : lw_okq (⟨"ScopeTree", "newLoader", "(ILScopeTree$Loader;[LScopeTree$Archive;LScopeTree$Filter;)LScopeTree$Loader;"⟩, 8) := ⟨⟨by decide +kernel, by decide +kernel⟩, List.mem_of_getElem? (i := 23) (by decide +kernel), List.mem_of_getElem? (i := 518) (by decide +kernel), List.mem_of_getElem? (i := 519) (by decide +kernel)⟩
theorem lw_p20 : lw_okq (⟨"ScopeTree", "leastFreeLoaderNumber", "()I"⟩, 8) := ⟨⟨by decide +kernel, by decide +kernel⟩, List.mem_of_getElem? (i := 23) (by decide +kernel), List.mem_of_getElem? (i := 522) (by decide +kernel), List.mem_of_getElem? (i := 523) (by decide +kernel)⟩
theorem lw_p21 : lw_okq (⟨"ScopeTree", "wantedFiltering", "(LScopeTree$Filter;LScopeTree$Loader;)LScopeTree$Loader;"⟩, 8) := ⟨⟨by decide +kernel, by decide +kernel⟩, List.mem_of_getElem? (i := 23) (by decide +kernel), List.mem_of_getElem? (i := 526) (by decide +kernel), List.mem_of_getElem? (i := 527) (by decide +kernel)⟩
theorem lw_p22 : lw_okq (⟨"ScopeTree$Filter", "isSame", "(LScopeTree$Filter;)Z"⟩, 3) := ⟨⟨by decide +kernel, by decide +kernel⟩, List.mem_of_getElem? (i := 435) (by decide +kernel), List.mem_of_getElem? (i := 530) (by decide +kernel), List.mem_of_getElem? (i := 531) (by decide +kernel)⟩
theorem lw_p23 : lw_okq (⟨"ScopeTree", "hasChildLeft", "(LScopeTree$Scope;)Z"⟩, 8) := ⟨⟨by decide +kernel, by decide +kernel⟩, List.mem_of_getElem? (i := 23) (by decide +kernel), List.mem_of_getElem? (i := 542) (by decide +kernel), List.mem_of_getElem? (i := 543) (by decide +kernel)⟩
theorem lw_p24 : lw_okq (⟨"ScopeTree", "letGo", "(LScopeTree$Loader;)I"⟩, 8) := ⟨⟨by decide +kernel, by decide +kernel⟩, List.mem_of_getElem? (i := 23) (by decide +kernel), List.mem_of_getElem? (i := 547) (by decide +kernel), List.mem_of_getElem? (i := 548) (by decide +kernel)⟩
theorem lw_p25 : lw_okq (⟨"ScopeTree", "typeFromScope", "(LScopeTree$Scope;I)LScopeTree$Type;"⟩, 8) := ⟨⟨by decide +kernel, by decide +kernel⟩, List.mem_of_getElem? (i := 23) (by decide +kernel), List.mem_of_getElem? (i := 571) (by decide +kernel), List.mem_of_getElem? (i := 572) (by decide +kernel)⟩
theorem lw_p26 : lw_okq (⟨"ScopeTree", "findFrom", "(LScopeTree$Loader;II)LScopeTree$Type;"⟩, 8) := ⟨⟨by decide +kernel, by decide +kernel⟩, List.mem_of_getElem? (i := 23) (by decide +kernel), List.mem_of_getElem? (i := 575) (by decide +kernel), List.mem_of_getElem? (i := 576) (by decide +kernel)⟩
theorem lw_p27 : lw_okq (⟨"ScopeTree$Filter", "admits", "(I)Z"⟩, 3) := ⟨⟨by decide +kernel, by decide +kernel⟩, List.mem_of_getElem? (i := 435) (by decide +kernel), List.mem_of_getElem? (i := 579) (by decide +kernel), List.mem_of_getElem? (i := 580) (by decide +kernel)⟩
theorem lw_p28 : lw_okq (⟨"ScopeTree$Loader", "fileOf", "(I)LScopeTree$ClassFile;"⟩, 8) := ⟨⟨by decide +kernel, by decide +kernel⟩, List.mem_of_getElem? (i := 63) (by decide +kernel), List.mem_of_getElem? (i := 583) (by decide +kernel), List.mem_of_getElem? (i := 584) (by decide +kernel)⟩
theorem lw_p29 : lw_okq (⟨"ScopeTree", "typeDefinedBy", "(LScopeTree$Loader;LScopeTree$ClassFile;I)LScopeTree$Type;"⟩, 8) := ⟨⟨by decide +kernel, by decide +kernel⟩, List.mem_of_getElem? (i := 23) (by decide +kernel), List.mem_of_getElem? (i := 588) (by decide +kernel), List.mem_of_getElem? (i := 589) (by decide +kernel)⟩
theorem lw_p30 : lw_okq (⟨"ScopeTree", "knownType", "(LScopeTree$Loader;I)LScopeTree$Type;"⟩, 8) := ⟨⟨by decide +kernel, by decide +kernel⟩, List.mem_of_getElem? (i := 23) (by decide +kernel), List.mem_of_getElem? (i := 592) (by decide +kernel), List.mem_of_getElem? (i := 593) (by decide +kernel)⟩
theorem lw_p31 : lw_okq (⟨"ScopeTree", "isBeingDefined", "(LScopeTree$Loader;II)Z"⟩, 8) := ⟨⟨by decide +kernel, by decide +kernel⟩, List.mem_of_getElem? (i := 23) (by decide +kernel), List.mem_of_getElem? (i := 596) (by decide +kernel), List.mem_of_getElem? (i := 597) (by decide +kernel)⟩
def lw_privs_2 : List (MethodName × Nat) := [(⟨"ScopeTree$ClassFile", "isSame", "(LScopeTree$ClassFile;)Z"⟩, 3), (⟨"ScopeTree$Archive", "descriptorOf", "(I)LScopeTree$Descriptor;"⟩, 4), (⟨"ScopeTree$Descriptor", "isSame", "(LScopeTree$Descriptor;)Z"⟩, 2), (⟨"ScopeTree", "newLoader", "(ILScopeTree$Loader;[LScopeTree$Archive;LScopeTree$Filter;)LScopeTree$Loader;"⟩, 8), (⟨"ScopeTree", "leastFreeLoaderNumber", "()I"⟩, 8), (⟨"ScopeTree", "wantedFiltering", "(LScopeTree$Filter;LScopeTree$Loader;)LScopeTree$Loader;"⟩, 8), (⟨"ScopeTree$Filter", "isSame", "(LScopeTree$Filter;)Z"⟩, 3), (⟨"ScopeTree", "hasChildLeft", "(LScopeTree$Scope;)Z"⟩, 8), (⟨"ScopeTree", "letGo", "(LScopeTree$Loader;)I"⟩, 8), (⟨"ScopeTree", "typeFromScope", "(LScopeTree$Scope;I)LScopeTree$Type;"⟩, 8), (⟨"ScopeTree", "findFrom", "(LScopeTree$Loader;II)LScopeTree$Type;"⟩, 8), (⟨"ScopeTree$Filter", "admits", "(I)Z"⟩, 3), (⟨"ScopeTree$Loader", "fileOf", "(I)LScopeTree$ClassFile;"⟩, 8), (⟨"ScopeTree", "typeDefinedBy", "(LScopeTree$Loader;LScopeTree$ClassFile;I)LScopeTree$Type;"⟩, 8), (⟨"ScopeTree", "knownType", "(LScopeTree$Loader;I)LScopeTree$Type;"⟩, 8), (⟨"ScopeTree", "isBeingDefined", "(LScopeTree$Loader;II)Z"⟩, 8)]
theorem lw_r2 : ∀ q ∈ lw_privs_2, lw_okq q := List.forall_mem_cons.mpr ⟨lw_p16, List.forall_mem_cons.mpr ⟨lw_p17, List.forall_mem_cons.mpr ⟨lw_p18, List.forall_mem_cons.mpr ⟨lw_p19, List.forall_mem_cons.mpr ⟨lw_p20, List.forall_mem_cons.mpr ⟨lw_p21, List.forall_mem_cons.mpr ⟨lw_p22, List.forall_mem_cons.mpr ⟨lw_p23, List.forall_mem_cons.mpr ⟨lw_p24, List.forall_mem_cons.mpr ⟨lw_p25, List.forall_mem_cons.mpr ⟨lw_p26, List.forall_mem_cons.mpr ⟨lw_p27, List.forall_mem_cons.mpr ⟨lw_p28, List.forall_mem_cons.mpr ⟨lw_p29, List.forall_mem_cons.mpr ⟨lw_p30, List.forall_mem_cons.mpr ⟨lw_p31, fun _ h => absurd h List.not_mem_nil⟩⟩⟩⟩⟩⟩⟩⟩⟩⟩⟩⟩⟩⟩⟩⟩
theorem lw_p32 : lw_okq (⟨"ScopeTree", "newType", "(LScopeTree$ClassFile;LScopeTree$Loader;LScopeTree$Type;)LScopeTree$Type;"⟩, 8) := ⟨⟨by decide +kernel, by decide +kernel⟩, List.mem_of_getElem? (i := 23) (by decide +kernel), List.mem_of_getElem? (i := 603) (by decide +kernel), List.mem_of_getElem? (i := 604) (by decide +kernel)⟩
theorem lw_p33 : lw_okq (⟨"ScopeTree", "typeAt", "(I)LScopeTree$Type;"⟩, 8) := ⟨⟨by decide +kernel, by decide +kernel⟩, List.mem_of_getElem? (i := 23) (by decide +kernel), List.mem_of_getElem? (i := 631) (by decide +kernel), List.mem_of_getElem? (i := 632) (by decide +kernel)⟩
theorem lw_p34 : lw_okq (⟨"ScopeTree$Loader", "descriptorOf", "(I)LScopeTree$Descriptor;"⟩, 8) := ⟨⟨by decide +kernel, by decide +kernel⟩, List.mem_of_getElem? (i := 63) (by decide +kernel), List.mem_of_getElem? (i := 658) (by decide +kernel), List.mem_of_getElem? (i := 659) (by decide +kernel)⟩
theorem lw_p35 : lw_okq (⟨"ScopeTree$Scope", "hasApplied", "(LScopeTree$Type;)Z"⟩, 10) := ⟨⟨by decide +kernel, by decide +kernel⟩, List.mem_of_getElem? (i := 123) (by decide +kernel), List.mem_of_getElem? (i := 666) (by decide +kernel), List.mem_of_getElem? (i := 667) (by decide +kernel)⟩
theorem lw_p36 : lw_okq (⟨"ScopeTree$Scope", "appendApplied", "(LScopeTree$Type;)Z"⟩, 10) := ⟨⟨by decide +kernel, by decide +kernel⟩, List.mem_of_getElem? (i := 123) (by decide +kernel), List.mem_of_getElem? (i := 670) (by decide +kernel), List.mem_of_getElem? (i := 671) (by decide +kernel)⟩
theorem lw_p37 : lw_okq (⟨"ScopeTreeModel", "fails", "(ZI)Z"⟩, 33) := ⟨⟨by decide +kernel, by decide +kernel⟩, List.mem_of_getElem? (i := 681) (by decide +kernel), List.mem_of_getElem? (i := 800) (by decide +kernel), List.mem_of_getElem? (i := 801) (by decide +kernel)⟩
theorem lw_p38 : lw_okq (⟨"ScopeTreeModel", "noScope", "(I)Z"⟩, 33) := ⟨⟨by decide +kernel, by decide +kernel⟩, List.mem_of_getElem? (i := 681) (by decide +kernel), List.mem_of_getElem? (i := 816) (by decide +kernel), List.mem_of_getElem? (i := 817) (by decide +kernel)⟩
theorem lw_p39 : lw_okq (⟨"ScopeTreeModel", "freeLoaders", "()I"⟩, 33) := ⟨⟨by decide +kernel, by decide +kernel⟩, List.mem_of_getElem? (i := 681) (by decide +kernel), List.mem_of_getElem? (i := 832) (by decide +kernel), List.mem_of_getElem? (i := 833) (by decide +kernel)⟩
theorem lw_p40 : lw_okq (⟨"ScopeTreeModel", "defining", "(III)I"⟩, 33) := ⟨⟨by decide +kernel, by decide +kernel⟩, List.mem_of_getElem? (i := 681) (by decide +kernel), List.mem_of_getElem? (i := 836) (by decide +kernel), List.mem_of_getElem? (i := 837) (by decide +kernel)⟩
theorem lw_p41 : lw_okq (⟨"ScopeTreeModel", "alike", "(II)Z"⟩, 33) := ⟨⟨by decide +kernel, by decide +kernel⟩, List.mem_of_getElem? (i := 681) (by decide +kernel), List.mem_of_getElem? (i := 840) (by decide +kernel), List.mem_of_getElem? (i := 841) (by decide +kernel)⟩
theorem lw_p42 : lw_okq (⟨"ScopeTreeModel", "fileOf", "(II)I"⟩, 33) := ⟨⟨by decide +kernel, by decide +kernel⟩, List.mem_of_getElem? (i := 681) (by decide +kernel), List.mem_of_getElem? (i := 844) (by decide +kernel), List.mem_of_getElem? (i := 845) (by decide +kernel)⟩
theorem lw_p43 : lw_okq (⟨"ScopeTreeModel", "described", "(II)I"⟩, 33) := ⟨⟨by decide +kernel, by decide +kernel⟩, List.mem_of_getElem? (i := 681) (by decide +kernel), List.mem_of_getElem? (i := 848) (by decide +kernel), List.mem_of_getElem? (i := 849) (by decide +kernel)⟩
theorem lw_p44 : lw_okq (⟨"ScopeTreeModel", "begin", "(II)I"⟩, 33) := ⟨⟨by decide +kernel, by decide +kernel⟩, List.mem_of_getElem? (i := 681) (by decide +kernel), List.mem_of_getElem? (i := 852) (by decide +kernel), List.mem_of_getElem? (i := 853) (by decide +kernel)⟩
theorem lw_p45 : lw_okq (⟨"ScopeTreeModel", "freeLoader", "()I"⟩, 33) := ⟨⟨by decide +kernel, by decide +kernel⟩, List.mem_of_getElem? (i := 681) (by decide +kernel), List.mem_of_getElem? (i := 856) (by decide +kernel), List.mem_of_getElem? (i := 857) (by decide +kernel)⟩
theorem lw_p46 : lw_okq (⟨"ScopeTreeModel", "copySheet", "(II)V"⟩, 33) := ⟨⟨by decide +kernel, by decide +kernel⟩, List.mem_of_getElem? (i := 681) (by decide +kernel), List.mem_of_getElem? (i := 860) (by decide +kernel), List.mem_of_getElem? (i := 861) (by decide +kernel)⟩
theorem lw_p47 : lw_okq (⟨"ScopeTreeModel", "filtering", "(II)I"⟩, 33) := ⟨⟨by decide +kernel, by decide +kernel⟩, List.mem_of_getElem? (i := 681) (by decide +kernel), List.mem_of_getElem? (i := 864) (by decide +kernel), List.mem_of_getElem? (i := 865) (by decide +kernel)⟩
def lw_privs_3 : List (MethodName × Nat) := [(⟨"ScopeTree", "newType", "(LScopeTree$ClassFile;LScopeTree$Loader;LScopeTree$Type;)LScopeTree$Type;"⟩, 8), (⟨"ScopeTree", "typeAt", "(I)LScopeTree$Type;"⟩, 8), (⟨"ScopeTree$Loader", "descriptorOf", "(I)LScopeTree$Descriptor;"⟩, 8), (⟨"ScopeTree$Scope", "hasApplied", "(LScopeTree$Type;)Z"⟩, 10), (⟨"ScopeTree$Scope", "appendApplied", "(LScopeTree$Type;)Z"⟩, 10), (⟨"ScopeTreeModel", "fails", "(ZI)Z"⟩, 33), (⟨"ScopeTreeModel", "noScope", "(I)Z"⟩, 33), (⟨"ScopeTreeModel", "freeLoaders", "()I"⟩, 33), (⟨"ScopeTreeModel", "defining", "(III)I"⟩, 33), (⟨"ScopeTreeModel", "alike", "(II)Z"⟩, 33), (⟨"ScopeTreeModel", "fileOf", "(II)I"⟩, 33), (⟨"ScopeTreeModel", "described", "(II)I"⟩, 33), (⟨"ScopeTreeModel", "begin", "(II)I"⟩, 33), (⟨"ScopeTreeModel", "freeLoader", "()I"⟩, 33), (⟨"ScopeTreeModel", "copySheet", "(II)V"⟩, 33), (⟨"ScopeTreeModel", "filtering", "(II)I"⟩, 33)]
theorem lw_r3 : ∀ q ∈ lw_privs_3, lw_okq q := List.forall_mem_cons.mpr ⟨lw_p32, List.forall_mem_cons.mpr ⟨lw_p33, List.forall_mem_cons.mpr ⟨lw_p34, List.forall_mem_cons.mpr ⟨lw_p35, List.forall_mem_cons.mpr ⟨lw_p36, List.forall_mem_cons.mpr ⟨lw_p37, List.forall_mem_cons.mpr ⟨lw_p38, List.forall_mem_cons.mpr ⟨lw_p39, List.forall_mem_cons.mpr ⟨lw_p40, List.forall_mem_cons.mpr ⟨lw_p41, List.forall_mem_cons.mpr ⟨lw_p42, List.forall_mem_cons.mpr ⟨lw_p43, List.forall_mem_cons.mpr ⟨lw_p44, List.forall_mem_cons.mpr ⟨lw_p45, List.forall_mem_cons.mpr ⟨lw_p46, List.forall_mem_cons.mpr ⟨lw_p47, fun _ h => absurd h List.not_mem_nil⟩⟩⟩⟩⟩⟩⟩⟩⟩⟩⟩⟩⟩⟩⟩⟩
theorem lw_p48 : lw_okq (⟨"ScopeTreeModel", "sweep", "()I"⟩, 33) := ⟨⟨by decide +kernel, by decide +kernel⟩, List.mem_of_getElem? (i := 681) (by decide +kernel), List.mem_of_getElem? (i := 872) (by decide +kernel), List.mem_of_getElem? (i := 873) (by decide +kernel)⟩
theorem lw_p49 : lw_okq (⟨"ScopeTreeModel", "holders", "(I)I"⟩, 33) := ⟨⟨by decide +kernel, by decide +kernel⟩, List.mem_of_getElem? (i := 681) (by decide +kernel), List.mem_of_getElem? (i := 876) (by decide +kernel), List.mem_of_getElem? (i := 877) (by decide +kernel)⟩
theorem lw_p50 : lw_okq (⟨"ScopeTreeModel", "loads", "(II)I"⟩, 33) := ⟨⟨by decide +kernel, by decide +kernel⟩, List.mem_of_getElem? (i := 681) (by decide +kernel), List.mem_of_getElem? (i := 892) (by decide +kernel), List.mem_of_getElem? (i := 893) (by decide +kernel)⟩
theorem lw_p51 : lw_okq (⟨"ScopeTreeModel", "resolve", "(II)I"⟩, 33) := ⟨⟨by decide +kernel, by decide +kernel⟩, List.mem_of_getElem? (i := 681) (by decide +kernel), List.mem_of_getElem? (i := 896) (by decide +kernel), List.mem_of_getElem? (i := 897) (by decide +kernel)⟩
theorem lw_p52 : lw_okq (⟨"ScopeTreeModel", "seek", "(II)Z"⟩, 33) := ⟨⟨by decide +kernel, by decide +kernel⟩, List.mem_of_getElem? (i := 681) (by decide +kernel), List.mem_of_getElem? (i := 900) (by decide +kernel), List.mem_of_getElem? (i := 901) (by decide +kernel)⟩
theorem lw_p53 : lw_okq (⟨"ScopeTreeModel", "admits", "(II)Z"⟩, 33) := ⟨⟨by decide +kernel, by decide +kernel⟩, List.mem_of_getElem? (i := 681) (by decide +kernel), List.mem_of_getElem? (i := 904) (by decide +kernel), List.mem_of_getElem? (i := 905) (by decide +kernel)⟩
theorem lw_p54 : lw_okq (⟨"ScopeTreeModel", "definedBy", "(II)I"⟩, 33) := ⟨⟨by decide +kernel, by decide +kernel⟩, List.mem_of_getElem? (i := 681) (by decide +kernel), List.mem_of_getElem? (i := 908) (by decide +kernel), List.mem_of_getElem? (i := 909) (by decide +kernel)⟩
theorem lw_p55 : lw_okq (⟨"ScopeTreeModel", "descends", "(II)Z"⟩, 33) := ⟨⟨by decide +kernel, by decide +kernel⟩, List.mem_of_getElem? (i := 681) (by decide +kernel), List.mem_of_getElem? (i := 920) (by decide +kernel), List.mem_of_getElem? (i := 921) (by decide +kernel)⟩
theorem lw_p56 : lw_okq (⟨"ScopeTreeModel", "describedFrom", "(II)I"⟩, 33) := ⟨⟨by decide +kernel, by decide +kernel⟩, List.mem_of_getElem? (i := 681) (by decide +kernel), List.mem_of_getElem? (i := 928) (by decide +kernel), List.mem_of_getElem? (i := 929) (by decide +kernel)⟩
def lw_privs_4 : List (MethodName × Nat) := [(⟨"ScopeTreeModel", "sweep", "()I"⟩, 33), (⟨"ScopeTreeModel", "holders", "(I)I"⟩, 33), (⟨"ScopeTreeModel", "loads", "(II)I"⟩, 33), (⟨"ScopeTreeModel", "resolve", "(II)I"⟩, 33), (⟨"ScopeTreeModel", "seek", "(II)Z"⟩, 33), (⟨"ScopeTreeModel", "admits", "(II)Z"⟩, 33), (⟨"ScopeTreeModel", "definedBy", "(II)I"⟩, 33), (⟨"ScopeTreeModel", "descends", "(II)Z"⟩, 33), (⟨"ScopeTreeModel", "describedFrom", "(II)I"⟩, 33)]
theorem lw_r4 : ∀ q ∈ lw_privs_4, lw_okq q := List.forall_mem_cons.mpr ⟨lw_p48, List.forall_mem_cons.mpr ⟨lw_p49, List.forall_mem_cons.mpr ⟨lw_p50, List.forall_mem_cons.mpr ⟨lw_p51, List.forall_mem_cons.mpr ⟨lw_p52, List.forall_mem_cons.mpr ⟨lw_p53, List.forall_mem_cons.mpr ⟨lw_p54, List.forall_mem_cons.mpr ⟨lw_p55, List.forall_mem_cons.mpr ⟨lw_p56, fun _ h => absurd h List.not_mem_nil⟩⟩⟩⟩⟩⟩⟩⟩⟩
def lw_privs : List (MethodName × Nat) := lw_privs_1 ++ (lw_privs_2 ++ (lw_privs_3 ++ (lw_privs_4)))
def lw_tbl : List Cond := k2_sels lw_privs ++ tables_1
theorem lw_privs_ok : ∀ q ∈ lw_privs, lw_okq q := by
  show ∀ q ∈ lw_privs_1 ++ (lw_privs_2 ++ (lw_privs_3 ++ (lw_privs_4))), lw_okq q
  exact List.forall_mem_append.mpr ⟨lw_r1, List.forall_mem_append.mpr ⟨lw_r2, List.forall_mem_append.mpr ⟨lw_r3, lw_r4⟩⟩⟩
end
section
/-! ===== BEGIN words of one list among another's, by their places ===== -/
theorem goodIn_r {big : List Cond} (ws : List Cond) (ps : List Nat) (hp : ws = ps.filterMap (fun i => big[i]?)) (h : ws.all goodWord = true) : GoodIn big ws := by
  intro w hw
  have h1 := List.all_eq_true.mp h w hw
  rw [hp] at hw
  obtain ⟨i, -, hi⟩ := List.mem_filterMap.mp hw
  have hm : w ∈ big := by first | exact List.mem_of_getElem? hi | exact List.getElem?_mem hi
  exact ⟨hm, good_of_word h1⟩
theorem goodIn_app {big a b : List Cond} (ha : GoodIn big a) (hb : GoodIn big b) : GoodIn big (a ++ b) := fun w h => (List.mem_append.mp h).elim (ha w) (hb w)
theorem goodIn_ca {big a b : List Cond} {c : Cond} (ha : GoodIn big (c :: a)) (hb : GoodIn big b) : GoodIn big (c :: (a ++ b)) := fun w h => (List.mem_cons.mp h).elim (fun e => ha w (List.mem_cons.mpr (Or.inl e))) (fun h => (List.mem_append.mp h).elim (fun h => ha w (List.mem_cons.mpr (Or.inr h))) (hb w))
theorem goodIn_sub {big ws : List Cond} (hm : ∀ w ∈ ws, w ∈ big) (h : ws.all goodWord = true) : GoodIn big ws := fun w hw => ⟨hm w hw, good_of_word (List.all_eq_true.mp h w hw)⟩
/-! ===== END ===== -/

/-! ===== BEGIN exceptions that leave a method, and their catching by the caller (launches without stack traces) ===== -/
section VXA
/-! The laws vx_back, vx_callV, vx_callS, vx_callSW, vx_throw0, vx_throwS follow proofs of the library, with one case more: JvmDerived/Free/Laws.lean (Back.of_free), Shelf42/LK1.lean (callV, callS), Shelf/KitTraced.lean (throwNew0V, throwNewS). -/
/-- where a method has thrown q: the class by its name, the cell, what was written, the world -/
def vx_T (XC : String → State → State → Prop) (st : State) (q : Addr) (t : State) (mc ms : Nat) (free : Addr → Prop) : Prop :=
  ∃ (E : String) (ce : Cell) (L : List Loc), XC E st t ∧ t.heap[q]? = some ce ∧ ce.vm = .none ∧ st.vm.findClass E = some ce.cls ∧ st.WarmedH t.vm ∧ st.sameButNew ({ t with vm := st.vm } : State) L mc ms ∧ ∀ z ∈ L, free z.base
def vx_Q (Qc : Array Value → State → Outcome → State → Prop) (XC : String → State → State → Prop) (mc ms : Nat) (free : Addr → Prop) : Array Value → State → Outcome → State → Prop := fun a st o t =>
  (Qc a st o t ∧ ∃ L, FrameEnd st o t L mc ms ∧ ∀ q ∈ L, free q.base) ∨ ∃ q, o = .threw q ∧ vx_T XC st q t mc ms free
/-- a callee that returns or throws -/
def vx_Met (l : Launch) (y : MethodName) (ws : List Cond) (rm : Room) (Pc : Array Value → State → Prop) (Qc : Array Value → State → Outcome → State → Prop) (XC : String → State → State → Prop) (mc ms : Nat) (free : Addr → Prop) : Prop :=
  MetFree l y (headSpec ws rm) Pc (fun _ _ _ _ _ => True) (vx_Q Qc XC mc ms free)
def vx_Post (XC : String → State → State → Prop) (mc ms : Nat) (free : Addr → Prop) : Pt → Array Value → Addr → Pt → Prop := fun A a q B =>
  ∃ (g : JFrame) (mk : MethodId) (t : State) (L : List Loc) (E : String) (ce : Cell), B.U.heap = t.heap ∧ B.U.vm = t.vm ∧ XC E (A.U.calling g mk a) t ∧ t.heap[q]? = some ce ∧ ce.vm = .none ∧ A.U.vm.findClass E = some ce.cls ∧ B.locs = A.locs ++ L ∧ (∀ z ∈ L, free z.base) ∧ B.cells = A.cells + mc ∧ B.slots = A.slots + ms
def vx_Back (l : Launch) (R : Room) (p : Program) (e : Env) (below : List Frame) (s : State) (sargs : Array Value) (y : MethodName) (len W9 : Nat)
    (Pre : Pt → Array Value → Prop) (Post : Pt → Array Value → Option Value → Pt → Prop) (PostX : Pt → Array Value → Addr → Pt → Prop) : Prop :=
  ∀ (m : MethodId) (meth : Method) (c : Code) (A : Pt) (g : JFrame) (ig : Instr) (mk : MethodId) (a : Array Value),
    Stand p l e R s m sargs below meth c A.U A.locs A.cells A.slots → g.method = m → g.locals.size = c.maxLocals → decode c.code g.pc = .ok (ig, len) →
    2 * g.monitorRoom + (g.stack.map fun v => v.category).sum ≤ W9 → A.U.methodNamed? y = some mk → Pre A a →
    (∃ (v : Option Value) (B : Pt), Stand p l e R s m sargs below meth c B.U B.locs B.cells B.slots ∧ Post A a v B ∧
      Steps p.tables e below (doInvoke e (A.U.setTop g) [] mk a).1 (B.U.setTop { g with pc := g.pc + len, stack := v.toList ++ g.stack })) ∨
    (∃ (q : Addr) (B : Pt), Stand p l e R s m sargs below meth c B.U B.locs B.cells B.slots ∧ PostX A a q B ∧
      Steps p.tables e below (doInvoke e (A.U.setTop g) [] mk a).1 ((B.U.setTop g).pushFrame (.throwing q)))
section Payer
variable {l : Launch} {R : Room} {p : Program} {e : Env} {below : List Frame} {s : State} {sargs : Array Value} {y : MethodName} {len W9 : Nat}
theorem vx_back {ws : List Cond} {rm : Room} {Pc : Array Value → State → Prop} {Qc : Array Value → State → Outcome → State → Prop} {XC : String → State → State → Prop} {mc ms : Nat} {free : Addr → Prop} {bytes : ByteArray} {maxL : Nat} {ret : Option FieldType}
    (hM : vx_Met l y ws rm Pc Qc XC mc ms free) (hblind : FrameBlind Pc) (hrc : rm.cells = mc) (hrs : rm.slots = ms)
    (hframes : rm.frames + 1 ≤ R.frames) (hlocals : W9 + (maxL + 11) + rm.locals ≤ R.locals)
    (hws : ∀ w ∈ ws, ∀ a' U, s.WarmedH U.vm → w.before a' U = true) (hcode : Cond.code y bytes maxL ret ∈ ws) (hinit : ∀ a' U, s.WarmedH U.vm → (Cond.initialized y.cls).before a' U = true) :
    vx_Back l R p e below s sargs y len W9 (PreOf R mc ms Pc) (PostOf Qc mc ms free) (vx_Post XC mc ms free) := by
  intro m meth c A g ig mk a X hg hsize hdg hW hn hp
  have h1 : (headSpec ws rm).pre.before a A.U = true := atoms_intro fun w hw => hws w hw _ _ X.warmed
  have h2 : (Cond.code y bytes maxL ret).before a A.U = true := hws _ hcode _ _ X.warmed
  have h3 : (Cond.initialized y.cls).before a A.U = true := hinit _ _ X.warmed
  have h4 : A.cells + (headSpec ws rm).room.cells ≤ R.cells := by rw [show (headSpec ws rm).room.cells = mc from hrc]; exact hp.1
  have h5 : A.slots + (headSpec ws rm).room.slots ≤ R.slots := by rw [show (headSpec ws rm).room.slots = ms from hrs]; exact hp.2.1
  have hPc : Pc a (A.U.calling g mk a) := hblind _ _ _ _ hp.2.2
  obtain ⟨U, Ls, c0, s0⟩ := A
  dsimp only [Pt.U, Pt.locs, Pt.cells, Pt.slots] at h1 h2 h3 h4 h5 X hn hPc ⊢
  obtain ⟨methY, cY, hmY, hcY, -, hlY, -, -, -, -⟩ := Cond.code_spec hn h2
  obtain ⟨kY, hkY, -⟩ := className_of_methodNamed hn
  have hinitY : kY.init = .initialized := Cond.initialized_spec (findClass_of_methodNamed hn) hkY h3
  have h : At U g.method c below := by rw [hg]; exact X.here
  have hlocals9 : W9 + (maxL + 11) + (headSpec ws rm).room.locals ≤ R.locals := hlocals
  have happ : (headSpec ws rm).appliesLoose y e.platform (U.calling g mk a) = true :=
    Spec.appliesLoose_calling (g := g) h hdg hn hkY hinitY
      (X.room_calling (g := g) (R' := (headSpec ws rm).room) hsize hmY hcY hframes (by rw [hlY]; omega) h4 h5) h1
  obtain ⟨mid, hmid⟩ := h.above
  have hfr : (U.setTop g).frames = (.java g :: mid) ++ below := by rw [State.frames_setTop' g h.top, hmid]; rfl
  obtain ⟨o, s₂, hsteps, -, hend, hq⟩ := Steps.callFree hM p X.admits X.cas X.clock (acts := []) hfr happ hPc trivial
  have hq' : vx_Q Qc XC mc ms free a (U.calling g mk a) o s₂ := hq
  rw [State.frames_setTop' g h.top] at hend
  obtain ⟨g₀, hg0⟩ := Option.isSome_iff_exists.mp h.top
  obtain ⟨r, hr⟩ := State.topJava?_eq_some.mp hg0
  have hr' : (({ U with heap := s₂.heap, slotsUsed := s₂.slotsUsed } : State).setVm s₂.vm).frames = .java g₀ :: r := hr
  rcases hq' with ⟨hqc, L, hfe, hL⟩ | ⟨q, rfl, E, ce, L, hx, hce, hcv, hcl, hW₂, hsm, hL⟩
  · obtain ⟨⟨v, rfl⟩, hW₂, e2, q2, q3, q4, q5, q6⟩ := id hfe
    have e3 : s₂ = ({ (U.calling g mk a).setFrames s₂.frames with heap := s₂.heap, slotsUsed := s₂.slotsUsed } : State).setVm s₂.vm := by
      have : s₂ = ({ s₂ with vm := (U.calling g mk a).vm } : State).setVm s₂.vm := rfl
      rw [e2] at this
      exact this
    obtain ⟨c₂, i₂, len₂, hc₂, hd₂, hf₂⟩ := hend
    have hW' : U.WarmedH s₂.vm := hW₂
    have hcc : c₂ = c := by
      have h1 : s₂.code? g.method = U.code? g.method := by
        rw [State.code?_eq, State.code?_eq, hW'.alike.method?]
      exact Option.some.inj (hc₂.symm.trans (h1.trans h.code))
    subst hcc
    have hlen : len₂ = len := by rw [hdg] at hd₂; cases hd₂; rfl
    subst hlen
    have hs₂ : s₂ = (({ U with heap := s₂.heap, slotsUsed := s₂.slotsUsed } : State).setVm s₂.vm).setTop { g with pc := g.pc + len₂, stack := v.toList ++ g.stack } := by
      refine e3.trans ?_
      rw [hf₂, State.calling_eq h.top, State.setFrames_setFrames, State.setTop_of_frames _ hr', hr]
      rfl
    have hsame : U.sameButNew ({ U with heap := s₂.heap, slotsUsed := s₂.slotsUsed } : State) L mc ms := by
      refine ⟨?_, q2, q3, q4, q5, q6⟩
      obtain ⟨t, ht, -⟩ := State.frames_cons hr
      show ({ U with heap := s₂.heap, slotsUsed := s₂.slotsUsed } : State) = { U.setFrames U.frames with heap := s₂.heap, slotsUsed := s₂.slotsUsed }
      rw [State.setFrames_self ht]
    subst hg
    refine Or.inl ⟨v, ⟨(({ U with heap := s₂.heap, slotsUsed := s₂.slotsUsed } : State).setVm s₂.vm), Ls ++ L, c0 + mc, s0 + ms⟩,
      ⟨X.admits, X.cas, X.clock, X.frames, X.room, X.hears, X.method, X.code, (X.here.setHeapUsed s₂.heap s₂.slotsUsed).setVm hW'.alike, X.tail, State.WarmedH.trans X.warmed hW', X.limits, X.bytes, X.same.trans (hsame.setVm s.vm)⟩,
      ⟨g, mk, s₂, L, rfl, rfl, hqc, rfl, hL, rfl, rfl⟩, ?_⟩
    show Steps p.tables e below _ ((({ U with heap := s₂.heap, slotsUsed := s₂.slotsUsed } : State).setVm s₂.vm).setTop { g with pc := g.pc + len₂, stack := v.toList ++ g.stack })
    rw [← hs₂]
    exact hsteps
  · obtain ⟨e2, q2, q3, q4, q5, q6⟩ := id hsm
    have e3 : s₂ = ({ (U.calling g mk a).setFrames s₂.frames with heap := s₂.heap, slotsUsed := s₂.slotsUsed } : State).setVm s₂.vm := by
      have : s₂ = ({ s₂ with vm := (U.calling g mk a).vm } : State).setVm s₂.vm := rfl
      rw [e2] at this
      exact this
    have hf₂ : s₂.frames = .throwing q :: .java g :: U.frames.tail := hend
    have hW' : U.WarmedH s₂.vm := hW₂
    have hs₂ : s₂ = ((({ U with heap := s₂.heap, slotsUsed := s₂.slotsUsed } : State).setVm s₂.vm).setTop g).pushFrame (.throwing q) := by
      refine e3.trans ?_
      rw [hf₂, State.calling_eq h.top, State.setFrames_setFrames, State.pushFrame, State.frames_setTop _ hr', State.setTop_of_frames _ hr', State.setFrames_setFrames, hr]
      rfl
    have hsame : U.sameButNew ({ U with heap := s₂.heap, slotsUsed := s₂.slotsUsed } : State) L mc ms := by
      refine ⟨?_, q2, q3, q4, q5, q6⟩
      obtain ⟨t, ht, -⟩ := State.frames_cons hr
      show ({ U with heap := s₂.heap, slotsUsed := s₂.slotsUsed } : State) = { U.setFrames U.frames with heap := s₂.heap, slotsUsed := s₂.slotsUsed }
      rw [State.setFrames_self ht]
    subst hg
    refine Or.inr ⟨q, ⟨(({ U with heap := s₂.heap, slotsUsed := s₂.slotsUsed } : State).setVm s₂.vm), Ls ++ L, c0 + mc, s0 + ms⟩,
      ⟨X.admits, X.cas, X.clock, X.frames, X.room, X.hears, X.method, X.code, (X.here.setHeapUsed s₂.heap s₂.slotsUsed).setVm hW'.alike, X.tail, State.WarmedH.trans X.warmed hW', X.limits, X.bytes, X.same.trans (hsame.setVm s.vm)⟩,
      ⟨g, mk, s₂, L, E, ce, rfl, rfl, hx, hce, hcv, hcl, rfl, hL, rfl, rfl⟩, ?_⟩
    show Steps p.tables e below _ (((({ U with heap := s₂.heap, slotsUsed := s₂.slotsUsed } : State).setVm s₂.vm).setTop g).pushFrame (.throwing q))
    rw [← hs₂]
    exact hsteps
end Payer
section Calls
variable {p : Program} {l : Launch} {e : Env} {R : Room} {s : State} {m : MethodId} {args : Array Value} {below : List Frame} {meth : Method} {c : Code} {T : State} {locs : List Loc} {cells slots : Nat}
theorem vx_callV (X : Stand p l e R s m args below meth c T locs cells slots) (hexec : p.tables.exec = Jvm.exec) {own C : String} {index : Nat} {y : MethodName} {bytes : ByteArray} {maxL : Nat} {ret : Option FieldType}
    (hown : s.vm.findClass own = some m.cls) (hlink : (Cond.methodLink own index y).before args s = true) (hinst : (Cond.instanceMethod y).before args s = true) (hsel : (Cond.selects C y y).before args s = true)
    (hcode : (Cond.code y bytes maxL ret).before args s = true) (hy : y.cls ≠ "java/lang/invoke/MethodHandle" ∧ y.cls ≠ "java/lang/invoke/VarHandle")
    {W9 : Nat} {Pre : Pt → Array Value → Prop} {Post : Pt → Array Value → Option Value → Pt → Prop} {PostX : Pt → Array Value → Addr → Pt → Prop} (hK : vx_Back l R p e below s args y 3 W9 Pre Post PostX)
    {b : Addr} {cellB : Cell} (hcell : T.heap[b]? = some cellB) (hobj : cellB.vm.isStatics = false) (hcls : s.vm.findClass C = some cellB.cls)
    {g : JFrame} (hg : g.method = m) (hsize : g.locals.size = c.maxLocals) {argsL rest : List Value} (hlen : ∀ sig, parseMethodDescriptor y.desc = some sig → argsL.length = sig.parameters.length)
    (hstack : g.stack = argsL.reverse ++ .ref b :: rest) (hW : 2 * g.monitorRoom + (rest.map fun v => v.category).sum ≤ W9) (hdg : decode c.code g.pc = .ok (.invokevirtual index, 3))
    (hpre : ∀ vm₁, s.WarmedH vm₁ → Pre ⟨T.setVm vm₁, locs, cells, slots⟩ (Value.ref b :: argsL).toArray) :
    (∃ (v : Option Value) (vm₁ : Vm) (B : Pt), s.WarmedH vm₁ ∧ Stand p l e R s m args below meth c B.U B.locs B.cells B.slots ∧ Post ⟨T.setVm vm₁, locs, cells, slots⟩ (Value.ref b :: argsL).toArray v B ∧
      ∀ target, Steps p.tables e below (B.U.setTop { g with pc := g.pc + 3, stack := v.toList ++ rest }) target → Steps p.tables e below (T.setTop g) target) ∨
    (∃ (q : Addr) (vm₁ : Vm) (B : Pt), s.WarmedH vm₁ ∧ Stand p l e R s m args below meth c B.U B.locs B.cells B.slots ∧ PostX ⟨T.setVm vm₁, locs, cells, slots⟩ (Value.ref b :: argsL).toArray q B ∧
      Steps p.tables e below (T.setTop g) ((B.U.setTop { g with stack := rest }).pushFrame (.throwing q))) := by
  obtain ⟨mk, methM, hnamed, hmethM, hstM, habM⟩ := Cond.instanceMethod_spec hinst
  obtain ⟨methM', cM, hmethM', -, -, -, -, -, -, hsigM⟩ := Cond.code_spec hnamed hcode
  cases hmethM.symm.trans hmethM'
  obtain ⟨c2, r2, m2, q1, q2, q3, q4, kP, hkP, hkPi⟩ := Cond.selects_spec hsel
  cases hcls.symm.trans q1
  cases (State.methodFound?_of_named hnamed hy).symm.trans q2
  cases hnamed.symm.trans q3
  have hselP : selectMethod e.platform s.vm cellB.cls mk = .method mk := by rw [Launch.admits_selectMethod X.admits]; exact q4
  obtain ⟨vm₁, X₁, hstep₁⟩ := X.invokevirtual hexec hown hlink hnamed hmethM hstM hkP hkPi hy (a := b) (cell := cellB) hcell
    (fun z h => by rw [h] at hobj; cases hobj) hselP hmethM habM hkP hkPi (g := g) hg (argsL := argsL) (rest := rest) (hlen _ hsigM) hstack hdg
  rcases hK m meth c ⟨T.setVm vm₁, locs, cells, slots⟩ { g with stack := rest } (.invokevirtual index) mk (Value.ref b :: argsL).toArray X₁ hg hsize hdg hW (X₁.named hnamed) (hpre vm₁ X₁.warmed) with ⟨v, B, X', hpost, hsteps⟩ | ⟨q, B, X', hpost, hsteps⟩
  · exact Or.inl ⟨v, vm₁, B, X₁.warmed, X', hpost, fun target h => hstep₁ _ fun acts => by rw [doInvoke_state]; exact hsteps.trans h⟩
  · exact Or.inr ⟨q, vm₁, B, X₁.warmed, X', hpost, hstep₁ _ fun acts => by rw [doInvoke_state]; exact hsteps⟩
theorem vx_callS (X : Stand p l e R s m args below meth c T locs cells slots) (hexec : p.tables.exec = Jvm.exec) {own : String} {index : Nat} {y : MethodName} {bytes : ByteArray} {maxL : Nat} {ret : Option FieldType}
    (hown : s.vm.findClass own = some m.cls) (hlink : (Cond.methodLink own index y).before args s = true) (hstat : (Cond.static y).before args s = true) (hinit : (Cond.initialized y.cls).before args s = true)
    (hcode : (Cond.code y bytes maxL ret).before args s = true) (hy : y.cls ≠ "java/lang/invoke/MethodHandle" ∧ y.cls ≠ "java/lang/invoke/VarHandle")
    {W9 : Nat} {Pre : Pt → Array Value → Prop} {Post : Pt → Array Value → Option Value → Pt → Prop} {PostX : Pt → Array Value → Addr → Pt → Prop} (hK : vx_Back l R p e below s args y 3 W9 Pre Post PostX)
    {g : JFrame} (hg : g.method = m) (hsize : g.locals.size = c.maxLocals) {argsL rest : List Value} (hlen : ∀ sig, parseMethodDescriptor y.desc = some sig → argsL.length = sig.parameters.length)
    (hstack : g.stack = argsL.reverse ++ rest) (hW : 2 * g.monitorRoom + (rest.map fun v => v.category).sum ≤ W9) (hdg : decode c.code g.pc = .ok (.invokestatic index, 3))
    (hpre : ∀ vm₁, s.WarmedH vm₁ → Pre ⟨T.setVm vm₁, locs, cells, slots⟩ argsL.toArray) :
    (∃ (v : Option Value) (vm₁ : Vm) (B : Pt), s.WarmedH vm₁ ∧ Stand p l e R s m args below meth c B.U B.locs B.cells B.slots ∧ Post ⟨T.setVm vm₁, locs, cells, slots⟩ argsL.toArray v B ∧
      ∀ target, Steps p.tables e below (B.U.setTop { g with pc := g.pc + 3, stack := v.toList ++ rest }) target → Steps p.tables e below (T.setTop g) target) ∨
    (∃ (q : Addr) (vm₁ : Vm) (B : Pt), s.WarmedH vm₁ ∧ Stand p l e R s m args below meth c B.U B.locs B.cells B.slots ∧ PostX ⟨T.setVm vm₁, locs, cells, slots⟩ argsL.toArray q B ∧
      Steps p.tables e below (T.setTop g) ((B.U.setTop { g with stack := rest }).pushFrame (.throwing q))) := by
  obtain ⟨mk, hnamed⟩ := Cond.code_named hcode
  obtain ⟨methM, cM, hmethM, -, -, -, -, -, -, hsigM⟩ := Cond.code_spec hnamed hcode
  have hstatic : methM.isStatic = true := Cond.static_spec hnamed hmethM hstat
  obtain ⟨kP, hkP, -⟩ := className_of_methodNamed hnamed
  have hinitP : kP.init = .initialized := Cond.initialized_spec (findClass_of_methodNamed hnamed) hkP hinit
  obtain ⟨vm₁, X₁, hstep₁⟩ := X.invokestatic hexec hown hlink hnamed hmethM hstatic hkP hinitP hy (g := g) hg (argsL := argsL) (rest := rest) (hlen _ hsigM) hstack hdg
  rcases hK m meth c ⟨T.setVm vm₁, locs, cells, slots⟩ { g with stack := rest } (.invokestatic index) mk argsL.toArray X₁ hg hsize hdg hW (X₁.named hnamed) (hpre vm₁ X₁.warmed) with ⟨v, B, X', hpost, hsteps⟩ | ⟨q, B, X', hpost, hsteps⟩
  · exact Or.inl ⟨v, vm₁, B, X₁.warmed, X', hpost, fun target h => hstep₁ _ fun acts => by rw [doInvoke_state]; exact hsteps.trans h⟩
  · exact Or.inr ⟨q, vm₁, B, X₁.warmed, X', hpost, hstep₁ _ fun acts => by rw [doInvoke_state]; exact hsteps⟩
end Calls
theorem vx_cls {s : State} {T : State} {vm₁ : Vm} {E : String} {k : ClassId} (hW : s.WarmedH vm₁) (h : (T.setVm vm₁).vm.findClass E = some k) : s.vm.findClass E = some k := by
  have h1 : vm₁.findClass E = some k := h
  rw [hW.alike.findClass] at h1
  exact h1
/-- the method's frame g, with q thrown over it -/
def vx_W (p : Program) (l : Launch) (e : Env) (R : Room) (s : State) (m : MethodId) (args : Array Value) (below : List Frame) (meth : Method) (c : Code) (H : Heap) (locs : List Loc) (cells slots : Nat) (Q : State → Prop) (g : JFrame) (q : Addr) : Prop :=
  ∀ T : State, T.heap = H → Stand p l e R s m args below meth c T locs cells slots → ∃ t, Steps p.tables e below ((T.setTop g).pushFrame (.throwing q)) t ∧ Q t
def vx_Run (p : Program) (l : Launch) (e : Env) (R : Room) (s : State) (m : MethodId) (args : Array Value) (below : List Frame) (meth : Method) (c : Code) (H : Heap) (locs : List Loc) (cells slots mc ms : Nat) (g : JFrame) (rest : List Value) (Qa : State → Outcome → State → Prop) (XC : String → State → State → Prop) (free : Addr → Prop) : Prop :=
  ∀ T : State, T.heap = H → Stand p l e R s m args below meth c T locs cells slots →
    (∃ (v : Option Value) (st₀ t T' : State) (L : List Loc), st₀.heap = H ∧ Stand p l e R s m args below meth c T' (locs ++ L) (cells + mc) (slots + ms) ∧ (∀ q ∈ L, free q.base) ∧ T'.heap = t.heap ∧ T'.vm = t.vm ∧ Qa st₀ (.returned v) t ∧
      Goes p e below T g T' { g with pc := g.pc + 3, stack := v.toList ++ rest }) ∨
    (∃ (q : Addr) (st₀ t T' : State) (L : List Loc) (E : String) (ce : Cell), st₀.heap = H ∧ Stand p l e R s m args below meth c T' (locs ++ L) (cells + mc) (slots + ms) ∧ (∀ z ∈ L, free z.base) ∧ T'.heap = t.heap ∧ T'.vm = t.vm ∧ XC E st₀ t ∧ t.heap[q]? = some ce ∧ ce.vm = .none ∧ s.vm.findClass E = some ce.cls ∧
      Steps p.tables e below (T.setTop g) ((T'.setTop { g with stack := rest }).pushFrame (.throwing q)))
def vx_X {S : Type} (px : S → Prop) (B : String → S → State → Prop) (A : Nat → Prop) : String → State → State → Prop := fun E st t => ∃ u : S, px u ∧ B E u t ∧ va_F A st t
section Runs
variable {p : Program} {l : Launch} {e : Env} {R : Room} {s : State} {m : MethodId} {args : Array Value} {below : List Frame} {meth : Method} {c : Code} {H : Heap} {locs : List Loc} {cells slots : Nat}
variable {y : MethodName} {bytes cc : ByteArray} {maxL nL mc ms n index : Nat} {ret : Option FieldType} {ws : List Cond} {rm : Room} {Pc : Array Value → State → Prop} {Qc : Array Value → State → Outcome → State → Prop} {XC : String → State → State → Prop} {free : Addr → Prop} {Ts : List Cond} {own C : String} {b : Addr} {As rest : List Value} {g : JFrame}
theorem vx_callBack (cb : CallB R s args own index y bytes maxL ret ws rm mc ms n) (hM : vx_Met l y ws rm Pc Qc XC mc ms free) (hbl : FrameBlind Pc) : vx_Back l R p e below s args y 3 8 (PreOf R mc ms Pc) (PostOf Qc mc ms free) (vx_Post XC mc ms free) := by
  obtain ⟨hrc, hrs, hfr, hlo, hws, hcw, -, hini, -⟩ := cb
  exact vx_back (bytes := bytes) (maxL := maxL) (ret := ret) hM hbl hrc hrs hfr hlo hws hcw (fun a' U hW => word_at hW (Or.inl (by first | rfl | simp [Cond.onTables, Cond.keeps, Cond.steady])) hini)
theorem vx_runV (S : CallFix p m c cc nL s args Ts own) (hM : vx_Met l y ws rm Pc Qc XC mc ms free) (cw : CallW R s args own C index y bytes maxL ret ws rm mc ms n) (hp : PreV s H C b Pc As)
    (hg : g.method = m) (hn : As.length = n) (hsize : g.locals.size = nL) (hstack : g.stack = As.reverse ++ .ref b :: rest) (hW : 2 * g.monitorRoom + (rest.map fun v => v.category).sum ≤ 8) (hdg : decode cc g.pc = .ok (.invokevirtual index, 3)) (hf : cells + mc ≤ R.cells ∧ slots + ms ≤ R.slots) :
    vx_Run p l e R s m args below meth c H locs cells slots mc ms g rest (Qc (Value.ref b :: As).toArray) XC free := by
  have hK : vx_Back l R p e below s args y 3 8 (PreOf R mc ms Pc) (PostOf Qc mc ms free) (vx_Post XC mc ms free) := vx_callBack cw.1 hM hp.1
  obtain ⟨⟨-, -, -, -, -, -, hcode, -, hy, hlen, hl⟩, hin, hse⟩ := cw
  obtain ⟨hx, hb, hml, ho, -⟩ := S
  obtain ⟨-, ⟨cellB, hcB, hoB, hclB⟩, hPc⟩ := hp
  intro T hT X
  rcases vx_callV X hx (C := C) (bytes := bytes) (maxL := maxL) (ret := ret) ho hl hin hse hcode hy hK (by rw [hT]; exact hcB) hoB hclB hg (hsize.trans hml.symm) (argsL := As) (rest := rest) (fun sig h => hn.trans (hlen sig h)) hstack hW (by rw [hb]; exact hdg)
    (fun vm₁ hW₁ => ⟨hf.1, hf.2, hPc (T.setVm vm₁) hT hW₁⟩) with ⟨v, vm₁, ⟨U', l2, c2, s2⟩, hW₁, X', ⟨g', mk, t, L, e1, e2, hq, h1, hL, h2, h3⟩, st⟩ | ⟨q, vm₁, ⟨U', l2, c2, s2⟩, hW₁, X', ⟨g', mk, t, L, E, ce, e1, e2, hq, hce, hcv, hcl, h1, hL, h2, h3⟩, st⟩
  · dsimp only [Pt.U, Pt.locs, Pt.cells, Pt.slots] at X' e1 e2 h1 h2 h3 st
    subst h1; subst h2; subst h3
    exact Or.inl ⟨v, (T.setVm vm₁).calling g' mk (Value.ref b :: As).toArray, t, U', L, hT, X', hL, e1, e2, hq, st⟩
  · dsimp only [Pt.U, Pt.locs, Pt.cells, Pt.slots] at X' e1 e2 h1 h2 h3 st hcl
    subst h1; subst h2; subst h3
    exact Or.inr ⟨q, (T.setVm vm₁).calling g' mk (Value.ref b :: As).toArray, t, U', L, E, ce, hT, X', hL, e1, e2, hq, hce, hcv, vx_cls hW₁ hcl, st⟩
theorem vx_runS (S : CallFix p m c cc nL s args Ts own) (hM : vx_Met l y ws rm Pc Qc XC mc ms free) (cw : CallB R s args own index y bytes maxL ret ws rm mc ms n ∧ (Cond.static y).before args s = true) (hp : PreS s H Pc As)
    (hg : g.method = m) (hn : As.length = n) (hsize : g.locals.size = nL) (hstack : g.stack = As.reverse ++ rest) (hW : 2 * g.monitorRoom + (rest.map fun v => v.category).sum ≤ 8) (hdg : decode cc g.pc = .ok (.invokestatic index, 3)) (hf : cells + mc ≤ R.cells ∧ slots + ms ≤ R.slots) :
    vx_Run p l e R s m args below meth c H locs cells slots mc ms g rest (Qc As.toArray) XC free := by
  have hK : vx_Back l R p e below s args y 3 8 (PreOf R mc ms Pc) (PostOf Qc mc ms free) (vx_Post XC mc ms free) := vx_callBack cw.1 hM hp.1
  obtain ⟨⟨-, -, -, -, -, -, hcode, hini, hy, hlen, hl⟩, hstt⟩ := cw
  obtain ⟨hx, hb, hml, ho, -⟩ := S
  intro T hT X
  rcases vx_callS X hx (bytes := bytes) (maxL := maxL) (ret := ret) ho hl hstt hini hcode hy hK hg (hsize.trans hml.symm) (argsL := As) (rest := rest) (fun sig h => hn.trans (hlen sig h)) hstack hW (by rw [hb]; exact hdg)
    (fun vm₁ hW₁ => ⟨hf.1, hf.2, hp.2 (T.setVm vm₁) hT hW₁⟩) with ⟨v, vm₁, ⟨U', l2, c2, s2⟩, hW₁, X', ⟨g', mk, t, L, e1, e2, hq, h1, hL, h2, h3⟩, st⟩ | ⟨q, vm₁, ⟨U', l2, c2, s2⟩, hW₁, X', ⟨g', mk, t, L, E, ce, e1, e2, hq, hce, hcv, hcl, h1, hL, h2, h3⟩, st⟩
  · dsimp only [Pt.U, Pt.locs, Pt.cells, Pt.slots] at X' e1 e2 h1 h2 h3 st
    subst h1; subst h2; subst h3
    exact Or.inl ⟨v, (T.setVm vm₁).calling g' mk As.toArray, t, U', L, hT, X', hL, e1, e2, hq, st⟩
  · dsimp only [Pt.U, Pt.locs, Pt.cells, Pt.slots] at X' e1 e2 h1 h2 h3 st hcl
    subst h1; subst h2; subst h3
    exact Or.inr ⟨q, (T.setVm vm₁).calling g' mk As.toArray, t, U', L, E, ce, hT, X', hL, e1, e2, hq, hce, hcv, vx_cls hW₁ hcl, st⟩
end Runs
section Rows
variable {p : Program} {l : Launch} {e : Env} {R : Room} {s : State} {m : MethodId} {args : Array Value} {below : List Frame} {meth : Method} {c : Code} {H : Heap} {locs : List Loc} {cells slots : Nat} {Q : State → Prop}
variable {mc ms : Nat} {free : Addr → Prop} {A0 A1 : Nat → Prop} {H0 : Heap} {a : Array Value} {pc : Nat} {ls : Array Slot} {st0 rest : List Value}
theorem vx_keep {st₀ t T' : State} {L : List Loc} (h0 : st₀.heap = H) (e1 : T'.heap = t.heap) (hS : va_S A0 H0 H locs) (hA : ∀ q, q < H.size → A1 q → A0 q) (hf : ∀ q, free q → A0 q) (hL : ∀ q ∈ L, free q.base) (hF : va_F A1 st₀ t) :
    H.size ≤ T'.heap.size ∧ (∀ q : Nat, q < H.size → ¬ A1 q → T'.heap[q]? = H[q]?) ∧ va_S A0 H0 T'.heap (locs ++ L) := by
  obtain ⟨hz, hk⟩ := hF
  rw [h0] at hz hk
  exact ⟨by rw [e1]; exact hz, fun q h1 h2 => by rw [e1]; exact hk q h1 h2,
    ⟨Nat.le_trans hS.1 (by rw [e1]; exact hz), fun q h1 h2 => by rw [e1, hk q (Nat.lt_of_lt_of_le h1 hS.1) (fun z => h2 (hA q (Nat.lt_of_lt_of_le h1 hS.1) z))]; exact hS.2.1 q h1 h2, fun q hq => by
      rcases List.mem_append.mp hq with h | h
      · exact hS.2.2 q h
      · exact hf _ (hL q h)⟩⟩
theorem vx_calli {S SX : Type} {post : Int32 → S → Prop} {px : SX → Prop} {B : S → State → Prop} {BX : String → SX → State → Prop} {AX : Nat → Prop} (hr : vx_Run p l e R s m args below meth c H locs cells slots mc ms (F0 m pc ls st0) rest (va_Qi post B A1 a) (vx_X px BX AX) free) (hS : va_S A0 H0 H locs) (hA : ∀ q, q < H.size → A1 q → A0 q) (hf : ∀ q, free q → A0 q) (hAX : ∀ q, q < H.size → AX q → A0 q)
    (kx : ∀ (E : String) (ce : Cell) (q9 : Addr) (u : SX) (t : State) (H1 : Heap) (locs1 : List Loc), t.heap = H1 → s.vm.Alike t.vm → px u → BX E u t → H.size ≤ H1.size → (∀ q : Nat, q < H.size → ¬ AX q → H1[q]? = H[q]?) → va_S A0 H0 H1 locs1 → H1[q9]? = some ce → ce.vm = .none → s.vm.findClass E = some ce.cls → vx_W p l e R s m args below meth c H1 locs1 (cells + mc) (slots + ms) Q (F0 m pc ls rest) q9)
    (kk : ∀ (r : Int32) (u : S) (t : State) (H1 : Heap) (locs1 : List Loc), t.heap = H1 → s.vm.Alike t.vm → post r u → B u t → H.size ≤ H1.size → (∀ q : Nat, q < H.size → ¬ A1 q → H1[q]? = H[q]?) → va_S A0 H0 H1 locs1 → W p l e R s m args below meth c H1 locs1 (cells + mc) (slots + ms) Q (F0 m (pc + 3) ls (.int r :: rest))) : W p l e R s m args below meth c H locs cells slots Q (F0 m pc ls st0) := by
  intro T hT X
  rcases hr T hT X with ⟨v, st₀, t, T', L, h0, X', hL, e1, e2, ⟨⟨r, u, hv, hp, hb⟩, hF⟩, st⟩ | ⟨q, st₀, t, T', L, E, ce, h0, X', hL, e1, e2, ⟨u, hp, hb, hF⟩, hce, hcv, hcl, st⟩
  · cases hv
    obtain ⟨k1, k2, k3⟩ := vx_keep h0 e1 hS hA hf hL hF
    obtain ⟨t2, a1, b1⟩ := kk r u t T'.heap (locs ++ L) e1.symm (by rw [← e2]; exact X'.warmed.alike) hp hb k1 k2 k3 T' rfl X'
    exact ⟨t2, st t2 a1, b1⟩
  · obtain ⟨k1, k2, k3⟩ := vx_keep h0 e1 hS hAX hf hL hF
    obtain ⟨t2, a1, b1⟩ := kx E ce q u t T'.heap (locs ++ L) e1.symm (by rw [← e2]; exact X'.warmed.alike) hp hb k1 k2 k3 (by rw [e1]; exact hce) hcv hcl T' rfl X'
    exact ⟨t2, st.trans a1, b1⟩
theorem vx_calll {S SX : Type} {post : Int64 → S → Prop} {px : SX → Prop} {B : S → State → Prop} {BX : String → SX → State → Prop} {AX : Nat → Prop} (hr : vx_Run p l e R s m args below meth c H locs cells slots mc ms (F0 m pc ls st0) rest (va_Ql post B A1 a) (vx_X px BX AX) free) (hS : va_S A0 H0 H locs) (hA : ∀ q, q < H.size → A1 q → A0 q) (hf : ∀ q, free q → A0 q) (hAX : ∀ q, q < H.size → AX q → A0 q)
    (kx : ∀ (E : String) (ce : Cell) (q9 : Addr) (u : SX) (t : State) (H1 : Heap) (locs1 : List Loc), t.heap = H1 → s.vm.Alike t.vm → px u → BX E u t → H.size ≤ H1.size → (∀ q : Nat, q < H.size → ¬ AX q → H1[q]? = H[q]?) → va_S A0 H0 H1 locs1 → H1[q9]? = some ce → ce.vm = .none → s.vm.findClass E = some ce.cls → vx_W p l e R s m args below meth c H1 locs1 (cells + mc) (slots + ms) Q (F0 m pc ls rest) q9)
    (kk : ∀ (r : Int64) (u : S) (t : State) (H1 : Heap) (locs1 : List Loc), t.heap = H1 → s.vm.Alike t.vm → post r u → B u t → H.size ≤ H1.size → (∀ q : Nat, q < H.size → ¬ A1 q → H1[q]? = H[q]?) → va_S A0 H0 H1 locs1 → W p l e R s m args below meth c H1 locs1 (cells + mc) (slots + ms) Q (F0 m (pc + 3) ls (.long r :: rest))) : W p l e R s m args below meth c H locs cells slots Q (F0 m pc ls st0) := by
  intro T hT X
  rcases hr T hT X with ⟨v, st₀, t, T', L, h0, X', hL, e1, e2, ⟨⟨r, u, hv, hp, hb⟩, hF⟩, st⟩ | ⟨q, st₀, t, T', L, E, ce, h0, X', hL, e1, e2, ⟨u, hp, hb, hF⟩, hce, hcv, hcl, st⟩
  · cases hv
    obtain ⟨k1, k2, k3⟩ := vx_keep h0 e1 hS hA hf hL hF
    obtain ⟨t2, a1, b1⟩ := kk r u t T'.heap (locs ++ L) e1.symm (by rw [← e2]; exact X'.warmed.alike) hp hb k1 k2 k3 T' rfl X'
    exact ⟨t2, st t2 a1, b1⟩
  · obtain ⟨k1, k2, k3⟩ := vx_keep h0 e1 hS hAX hf hL hF
    obtain ⟨t2, a1, b1⟩ := kx E ce q u t T'.heap (locs ++ L) e1.symm (by rw [← e2]; exact X'.warmed.alike) hp hb k1 k2 k3 (by rw [e1]; exact hce) hcv hcl T' rfl X'
    exact ⟨t2, st.trans a1, b1⟩
theorem vx_callf {S SX : Type} {post : UInt32 → S → Prop} {px : SX → Prop} {B : S → State → Prop} {BX : String → SX → State → Prop} {AX : Nat → Prop} (hr : vx_Run p l e R s m args below meth c H locs cells slots mc ms (F0 m pc ls st0) rest (va_Qf post B A1 a) (vx_X px BX AX) free) (hS : va_S A0 H0 H locs) (hA : ∀ q, q < H.size → A1 q → A0 q) (hf : ∀ q, free q → A0 q) (hAX : ∀ q, q < H.size → AX q → A0 q)
    (kx : ∀ (E : String) (ce : Cell) (q9 : Addr) (u : SX) (t : State) (H1 : Heap) (locs1 : List Loc), t.heap = H1 → s.vm.Alike t.vm → px u → BX E u t → H.size ≤ H1.size → (∀ q : Nat, q < H.size → ¬ AX q → H1[q]? = H[q]?) → va_S A0 H0 H1 locs1 → H1[q9]? = some ce → ce.vm = .none → s.vm.findClass E = some ce.cls → vx_W p l e R s m args below meth c H1 locs1 (cells + mc) (slots + ms) Q (F0 m pc ls rest) q9)
    (kk : ∀ (r : UInt32) (u : S) (t : State) (H1 : Heap) (locs1 : List Loc), t.heap = H1 → s.vm.Alike t.vm → post r u → B u t → H.size ≤ H1.size → (∀ q : Nat, q < H.size → ¬ A1 q → H1[q]? = H[q]?) → va_S A0 H0 H1 locs1 → W p l e R s m args below meth c H1 locs1 (cells + mc) (slots + ms) Q (F0 m (pc + 3) ls (.float r :: rest))) : W p l e R s m args below meth c H locs cells slots Q (F0 m pc ls st0) := by
  intro T hT X
  rcases hr T hT X with ⟨v, st₀, t, T', L, h0, X', hL, e1, e2, ⟨⟨r, u, hv, hp, hb⟩, hF⟩, st⟩ | ⟨q, st₀, t, T', L, E, ce, h0, X', hL, e1, e2, ⟨u, hp, hb, hF⟩, hce, hcv, hcl, st⟩
  · cases hv
    obtain ⟨k1, k2, k3⟩ := vx_keep h0 e1 hS hA hf hL hF
    obtain ⟨t2, a1, b1⟩ := kk r u t T'.heap (locs ++ L) e1.symm (by rw [← e2]; exact X'.warmed.alike) hp hb k1 k2 k3 T' rfl X'
    exact ⟨t2, st t2 a1, b1⟩
  · obtain ⟨k1, k2, k3⟩ := vx_keep h0 e1 hS hAX hf hL hF
    obtain ⟨t2, a1, b1⟩ := kx E ce q u t T'.heap (locs ++ L) e1.symm (by rw [← e2]; exact X'.warmed.alike) hp hb k1 k2 k3 (by rw [e1]; exact hce) hcv hcl T' rfl X'
    exact ⟨t2, st.trans a1, b1⟩
theorem vx_calld {S SX : Type} {post : UInt64 → S → Prop} {px : SX → Prop} {B : S → State → Prop} {BX : String → SX → State → Prop} {AX : Nat → Prop} (hr : vx_Run p l e R s m args below meth c H locs cells slots mc ms (F0 m pc ls st0) rest (va_Qd post B A1 a) (vx_X px BX AX) free) (hS : va_S A0 H0 H locs) (hA : ∀ q, q < H.size → A1 q → A0 q) (hf : ∀ q, free q → A0 q) (hAX : ∀ q, q < H.size → AX q → A0 q)
    (kx : ∀ (E : String) (ce : Cell) (q9 : Addr) (u : SX) (t : State) (H1 : Heap) (locs1 : List Loc), t.heap = H1 → s.vm.Alike t.vm → px u → BX E u t → H.size ≤ H1.size → (∀ q : Nat, q < H.size → ¬ AX q → H1[q]? = H[q]?) → va_S A0 H0 H1 locs1 → H1[q9]? = some ce → ce.vm = .none → s.vm.findClass E = some ce.cls → vx_W p l e R s m args below meth c H1 locs1 (cells + mc) (slots + ms) Q (F0 m pc ls rest) q9)
    (kk : ∀ (r : UInt64) (u : S) (t : State) (H1 : Heap) (locs1 : List Loc), t.heap = H1 → s.vm.Alike t.vm → post r u → B u t → H.size ≤ H1.size → (∀ q : Nat, q < H.size → ¬ A1 q → H1[q]? = H[q]?) → va_S A0 H0 H1 locs1 → W p l e R s m args below meth c H1 locs1 (cells + mc) (slots + ms) Q (F0 m (pc + 3) ls (.double r :: rest))) : W p l e R s m args below meth c H locs cells slots Q (F0 m pc ls st0) := by
  intro T hT X
  rcases hr T hT X with ⟨v, st₀, t, T', L, h0, X', hL, e1, e2, ⟨⟨r, u, hv, hp, hb⟩, hF⟩, st⟩ | ⟨q, st₀, t, T', L, E, ce, h0, X', hL, e1, e2, ⟨u, hp, hb, hF⟩, hce, hcv, hcl, st⟩
  · cases hv
    obtain ⟨k1, k2, k3⟩ := vx_keep h0 e1 hS hA hf hL hF
    obtain ⟨t2, a1, b1⟩ := kk r u t T'.heap (locs ++ L) e1.symm (by rw [← e2]; exact X'.warmed.alike) hp hb k1 k2 k3 T' rfl X'
    exact ⟨t2, st t2 a1, b1⟩
  · obtain ⟨k1, k2, k3⟩ := vx_keep h0 e1 hS hAX hf hL hF
    obtain ⟨t2, a1, b1⟩ := kx E ce q u t T'.heap (locs ++ L) e1.symm (by rw [← e2]; exact X'.warmed.alike) hp hb k1 k2 k3 (by rw [e1]; exact hce) hcv hcl T' rfl X'
    exact ⟨t2, st.trans a1, b1⟩
theorem vx_callv {S SX : Type} {post : S → Prop} {px : SX → Prop} {B : S → State → Prop} {BX : String → SX → State → Prop} {AX : Nat → Prop} (hr : vx_Run p l e R s m args below meth c H locs cells slots mc ms (F0 m pc ls st0) rest (va_Qv post B A1 a) (vx_X px BX AX) free) (hS : va_S A0 H0 H locs) (hA : ∀ q, q < H.size → A1 q → A0 q) (hf : ∀ q, free q → A0 q) (hAX : ∀ q, q < H.size → AX q → A0 q)
    (kx : ∀ (E : String) (ce : Cell) (q9 : Addr) (u : SX) (t : State) (H1 : Heap) (locs1 : List Loc), t.heap = H1 → s.vm.Alike t.vm → px u → BX E u t → H.size ≤ H1.size → (∀ q : Nat, q < H.size → ¬ AX q → H1[q]? = H[q]?) → va_S A0 H0 H1 locs1 → H1[q9]? = some ce → ce.vm = .none → s.vm.findClass E = some ce.cls → vx_W p l e R s m args below meth c H1 locs1 (cells + mc) (slots + ms) Q (F0 m pc ls rest) q9)
    (kk : ∀ (u : S) (t : State) (H1 : Heap) (locs1 : List Loc), t.heap = H1 → s.vm.Alike t.vm → post u → B u t → H.size ≤ H1.size → (∀ q : Nat, q < H.size → ¬ A1 q → H1[q]? = H[q]?) → va_S A0 H0 H1 locs1 → W p l e R s m args below meth c H1 locs1 (cells + mc) (slots + ms) Q (F0 m (pc + 3) ls (rest))) : W p l e R s m args below meth c H locs cells slots Q (F0 m pc ls st0) := by
  intro T hT X
  rcases hr T hT X with ⟨v, st₀, t, T', L, h0, X', hL, e1, e2, ⟨⟨u, hv, hp, hb⟩, hF⟩, st⟩ | ⟨q, st₀, t, T', L, E, ce, h0, X', hL, e1, e2, ⟨u, hp, hb, hF⟩, hce, hcv, hcl, st⟩
  · cases hv
    obtain ⟨k1, k2, k3⟩ := vx_keep h0 e1 hS hA hf hL hF
    obtain ⟨t2, a1, b1⟩ := kk u t T'.heap (locs ++ L) e1.symm (by rw [← e2]; exact X'.warmed.alike) hp hb k1 k2 k3 T' rfl X'
    exact ⟨t2, st t2 a1, b1⟩
  · obtain ⟨k1, k2, k3⟩ := vx_keep h0 e1 hS hAX hf hL hF
    obtain ⟨t2, a1, b1⟩ := kx E ce q u t T'.heap (locs ++ L) e1.symm (by rw [← e2]; exact X'.warmed.alike) hp hb k1 k2 k3 (by rw [e1]; exact hce) hcv hcl T' rfl X'
    exact ⟨t2, st.trans a1, b1⟩
/-- caught by the row x of this method's table; the rows ahead don't take it -/
theorem vx_catch {own name : String} {E : String} {ce : Cell} {q : Addr} (hown : s.vm.findClass own = some m.cls) (pre : List ExceptionTableEntry) (x : ExceptionTableEntry) (suf : List ExceptionTableEntry) (hsplit : c.exceptionTable.toList = pre ++ x :: suf)
    (hpass : ∀ z ∈ pre, covers z pc = false ∨ (z.catchType ≠ 0 ∧ ∃ nm : String, (Cond.classLink own z.catchType nm).before args s = true ∧ va_Nc E nm s)) (hx : covers x pc = true) (h0 : x.catchType ≠ 0)
    (hlink : (Cond.classLink own x.catchType name).before args s = true) (hcast : (Cond.castable E name).before args s = true) (hcell : H[q]? = some ce) (hv : ce.vm = .none) (hcl : s.vm.findClass E = some ce.cls)
    (kk : W p l e R s m args below meth c H locs cells slots Q (F0 m x.handlerPc ls [.ref q])) : vx_W p l e R s m args below meth c H locs cells slots Q (F0 m pc ls rest) q := by
  intro T hT X
  have hpl : e.platform.magicAccessors = ({} : Platform).magicAccessors := by rw [X.admits.platform]
  obtain ⟨c3, c4, hc3, hc4, hasg⟩ := Cond.castable_spec hcast
  cases Option.some.inj (hc3.symm.trans hcl)
  obtain ⟨c5, hc5, hcl5⟩ := Cond.classLink_spec hown hlink e.platform hpl
  cases Option.some.inj (hc4.symm.trans hc5)
  obtain ⟨vm', X', st⟩ := X.thenCaughtThrough q (g := F0 m pc ls rest) rfl (Steps.refl _) (by rw [hT]; exact hcell) (by rw [hv]; rfl) (by obtain ⟨k9, h9, -⟩ := Vm.findClass_spec hcl; exact ⟨k9, h9⟩) pre x suf hsplit
    (fun z hz => by
      rcases hpass z hz with h | ⟨hz0, nm, hl1, hn1⟩
      · exact Or.inl h
      · obtain ⟨c6, hc6, hcl6⟩ := Cond.classLink_spec hown hl1 e.platform hpl
        obtain ⟨a8, b8, h1, h2, h3⟩ := hn1
        cases Option.some.inj (h1.symm.trans hcl)
        cases Option.some.inj (h2.symm.trans hc6)
        exact Or.inr ⟨hz0, _, hcl6, h3⟩) hx (Or.inr ⟨h0, c4, hcl5, hasg⟩)
  obtain ⟨t, a1, b1⟩ := kk (T.setVm vm') hT X'
  exact ⟨t, st.trans a1, b1⟩
end Rows
section Ends
variable {p : Program} {l : Launch} {e : Env} {R : Room} {s : State} {m : MethodId} {args : Array Value} {below : List Frame} {meth : Method} {c : Code} {H : Heap} {locs : List Loc} {cells slots : Nat} {Q : State → Prop}
variable {mc ms : Nat} {free : Addr → Prop} {A0 A1 : Nat → Prop} {H0 : Heap} {a : Array Value} {ls : Array Slot} {st0 rest : List Value}
variable {Qc : Array Value → State → Outcome → State → Prop} {XC : String → State → State → Prop}
/-- what a body that may throw owes at its end -/
def vx_MQ (below : List Frame) (Qc : Array Value → State → Outcome → State → Prop) (XC : String → State → State → Prop) (a : Array Value) (s : State) (mc ms : Nat) (free : Addr → Prop) : State → Prop := fun t =>
  ∃ o, t.status = .running ∧ Ended t below o ∧ vx_Q Qc XC mc ms free a s o t
theorem vx_ret {g : JFrame} {mc ms : Nat} (k : W p l e R s m args below meth c H locs cells slots (MQ below Qc args s mc ms free) g) : W p l e R s m args below meth c H locs cells slots (vx_MQ below Qc XC args s mc ms free) g := by
  intro T hT X
  obtain ⟨t, a1, o, b1, b2, b3, b4⟩ := k T hT X
  exact ⟨t, a1, o, b1, b2, Or.inl ⟨b3, b4⟩⟩
/-- not caught here: it goes on to the caller -/
theorem vx_widen {g : JFrame} {q : Addr} {k n : Nat} (h1 : cells ≤ k) (h2 : slots ≤ n) (kk : vx_W p l e R s m args below meth c H locs k n Q g q) : vx_W p l e R s m args below meth c H locs cells slots Q g q := fun T hT X => kk T hT (stand_widen X h1 h2)
theorem vx_out {pc : Nat} {E : String} {ce : Cell} {q : Addr} {mc ms : Nat} (hout : ∀ x ∈ c.exceptionTable.toList, covers x pc = false) (hlocks : meth.locks = false) (hcell : H[q]? = some ce) (hv : ce.vm = .none) (hcl : s.vm.findClass E = some ce.cls)
    (hx : ∀ t : State, t.heap = H → s.vm.Alike t.vm → XC E s t) (hf : ∀ z ∈ locs, free z.base) (hc : cells ≤ mc) (hs : slots ≤ ms) :
    vx_W p l e R s m args below meth c H locs cells slots (vx_MQ below Qc XC args s mc ms free) (F0 m pc ls rest) q := by
  intro T hT X
  obtain ⟨st1, hrun, hend, hW, hsm⟩ := X.leaveThrown q (g := F0 m pc ls rest) rfl rfl rfl hout hlocks
  have hcell9 : (T.setFrames (.throwing q :: below)).heap[q]? = some ce := by
    show T.heap[q]? = some ce
    rw [hT]; exact hcell
  exact ⟨_, st1, .threw q, hrun, hend, Or.inr ⟨q, rfl, E, ce, locs, hx _ hT hW.alike, hcell9, hv, hcl, hW, hsm.mono hc hs, hf⟩⟩
theorem vx_frame {U : State} {k n : Nat} (h : s.sameButNew ({ U with vm := s.vm } : State) locs k n) : s.heap.size ≤ U.heap.size ∧ ∀ q : Nat, q < s.heap.size → (∀ z ∈ locs, z.base ≠ q) → U.heap[q]? = s.heap[q]? := by
  obtain ⟨-, h2, -, -, -, h6⟩ := h
  refine ⟨h2, fun q hq hz => ?_⟩
  obtain ⟨c9, e1, e2, e3, e4⟩ := h6 q _ (Array.getElem?_eq_getElem hq)
  have hs : c9.slots = (s.heap[q]).slots := Array.ext_getElem? fun i => e4 i fun hm => hz _ hm rfl
  have h9 : c9 = s.heap[q] := by
    rw [hs] at e2
    exact e2
  have e5 : U.heap[q]? = some c9 := e1
  rw [e5, h9, Array.getElem?_eq_getElem hq]
/-- the words of a throw but the four that speak of the heap -/
def vx_no (w : Cond) : Bool := decide (w ≠ .isRef (.static Bundle.tN "UNASSIGNED_STACK" Bundle.steD)) && decide (w ≠ .isRef (.static Bundle.tN "SUPPRESSED_SENTINEL" Bundle.listD)) && decide (w ≠ .laysStatic Bundle.tN "UNASSIGNED_STACK" Bundle.steD) && decide (w ≠ .laysStatic Bundle.tN "SUPPRESSED_SENTINEL" Bundle.listD)
def vx_at0 (own : String) (ic : Nat) (X : String) (names : List String) : List Cond := (Bundle.ownAtoms0 own ic X names).filter vx_no
def vx_atS (own : String) (ic : Nat) (X : String) (names : List String) : List Cond := (Bundle.ownAtoms own ic X names).filter vx_no
/-- a word that the tables alone decide, or a good one -/
def vx_ot (w : Cond) : Bool := w.onTables || goodWord w
theorem vx_ot_at {args a' : Array Value} {s U : State} {w : Cond} (hW : s.WarmedH U.vm) (hvm : s.vm = U.vm) (hg : vx_ot w = true) (h : w.before args s = true) : w.before a' U = true := by
  simp only [vx_ot, Bool.or_eq_true] at hg
  rcases hg with hg | hg
  · exact va_tabs hg hvm h
  · exact word_at hW (good_of_word hg) h
/-- a list's words: the good ones out of the method's own list, the others by premises of their own -/
theorem vx_hat {args : Array Value} {s : State} {L B : List Cond} (h1 : ∀ w ∈ L.filter goodWord, w.before args s = true) (h2 : ∀ w ∈ L.filter (fun w => !goodWord w), w ∈ B) (h3 : ∀ w ∈ B, w.before args s = true) : ∀ w ∈ L, w.before args s = true := by
  intro w hw
  by_cases g : goodWord w = true
  · exact h1 w (List.mem_filter.mpr ⟨hw, g⟩)
  · refine h3 w (h2 w (List.mem_filter.mpr ⟨hw, ?_⟩))
    show (!goodWord w) = true
    cases hgw : goodWord w
    · rfl
    · exact absurd hgw g
theorem vx_c {args : Array Value} {s : State} {w : Cond} {B : List Cond} (h : w.before args s = true) (t : ∀ w ∈ B, w.before args s = true) : ∀ w' ∈ w :: B, w'.before args s = true := fun w' h' => (List.mem_cons.mp h').elim (fun e => by rw [e]; exact h) (t w')
theorem vx_n {args : Array Value} {s : State} : ∀ w ∈ ([] : List Cond), w.before args s = true := fun _ h => nomatch h
theorem vx_own {args : Array Value} {s : State} {L : List Cond} (h1 : ∀ w ∈ L.filter vx_no, w.before args s = true)
    (hU : (Cond.isRef (.static Bundle.tN "UNASSIGNED_STACK" Bundle.steD)).before args s = true) (hN : (Cond.isRef (.static Bundle.tN "SUPPRESSED_SENTINEL" Bundle.listD)).before args s = true)
    (lU : (Cond.laysStatic Bundle.tN "UNASSIGNED_STACK" Bundle.steD).before args s = true) (lN : (Cond.laysStatic Bundle.tN "SUPPRESSED_SENTINEL" Bundle.listD).before args s = true) : ∀ w ∈ L, w.before args s = true := by
  intro w hw
  by_cases e1 : w = .isRef (.static Bundle.tN "UNASSIGNED_STACK" Bundle.steD)
  · rw [e1]; exact hU
  · by_cases e2 : w = .isRef (.static Bundle.tN "SUPPRESSED_SENTINEL" Bundle.listD)
    · rw [e2]; exact hN
    · by_cases e3 : w = .laysStatic Bundle.tN "UNASSIGNED_STACK" Bundle.steD
      · rw [e3]; exact lU
      · by_cases e4 : w = .laysStatic Bundle.tN "SUPPRESSED_SENTINEL" Bundle.listD
        · rw [e4]; exact lN
        · exact h1 w (List.mem_filter.mpr ⟨hw, by unfold vx_no; rw [decide_eq_true e1, decide_eq_true e2, decide_eq_true e3, decide_eq_true e4]; rfl⟩)
/-- where a static field lies, its class's statics cell in H -/
def vx_L (C n d : String) (A : Nat → Prop) (U : State) (H : Heap) : Prop := ∃ (c : ClassId) (k : Class) (i : Nat) (f : Field) (a : Nat) (cell : Cell), U.vm.findClass C = some c ∧ U.fieldFound? C n d = some (c, k, i, f) ∧ f.isStatic = true ∧ k.statics = some a ∧ H[a]? = some cell ∧ cell.vm.isStatics = true ∧ cell.cls = c ∧ f.slot < cell.slots.size ∧ k.staticTypes[f.slot]? = some f.type ∧ ¬ A a
theorem vx_L.moved {C n d : String} {A : Nat → Prop} {u U : State} {H : Heap} (hvm : u.vm.Alike U.vm) (h : vx_L C n d A u H) : vx_L C n d A U H := by
  obtain ⟨c, k, i, f, a, cell, h1, h2, h3, h4, h5, h6, h7, h8, h9, h10⟩ := h
  obtain ⟨k', hi', he⟩ := State.fieldFound?_setVm hvm h2
  exact ⟨c, k', i, f, a, cell, by rw [hvm.findClass]; exact h1, hi', h3, by rw [he]; exact h4, h5, h6, h7, h8, by rw [he]; exact h9, h10⟩
theorem vx_L.kept {C n d : String} {A : Nat → Prop} {U : State} {H H1 : Heap} (h : vx_L C n d A U H) (hq : ∀ a : Nat, a < H.size → ¬ A a → H1[a]? = H[a]?) : vx_L C n d A U H1 := by
  obtain ⟨c, k, i, f, a, cell, h1, h2, h3, h4, h5, h6, h7, h8, h9, h10⟩ := h
  exact ⟨c, k, i, f, a, cell, h1, h2, h3, h4, by rw [hq a (Array.getElem?_eq_some_iff.mp h5).1 h10]; exact h5, h6, h7, h8, h9, h10⟩
theorem vx_L.narrow {C n d : String} {A B : Nat → Prop} {U : State} {H : Heap} (h : vx_L C n d A U H) (hAB : ∀ q, B q → A q) : vx_L C n d B U H := by
  obtain ⟨c, k, i, f, a, cell, h1, h2, h3, h4, h5, h6, h7, h8, h9, h10⟩ := h
  exact ⟨c, k, i, f, a, cell, h1, h2, h3, h4, h5, h6, h7, h8, h9, fun z => h10 (hAB _ z)⟩
theorem vx_L.word {C n d : String} {A : Nat → Prop} {s : State} {args : Array Value} (h : vx_L C n d A s s.heap) : (Cond.laysStatic C n d).before args s = true := by
  obtain ⟨c, k, i, f, a, cell, h1, h2, h3, h4, h5, h6, h7, h8, h9, -⟩ := h
  show (Cond.laysStatic C n d).holds args s none s [] = true
  exact Cond.laysStatic_of h1 h2 h3 h4 h5 h6 h7 h8 h9
/-- .. and what it holds: null or some reference -/
def vx_Zq (C n d : String) (A : Nat → Prop) (U : State) (H : Heap) : Prop := va_Zq C n d A U H ∧ vx_L C n d A U H
theorem vx_Zq.moved {C n d : String} {A : Nat → Prop} {u U : State} {H : Heap} (hvm : u.vm.Alike U.vm) (h : vx_Zq C n d A u H) : vx_Zq C n d A U H := ⟨va_Zq.moved hvm h.1, vx_L.moved hvm h.2⟩
theorem vx_Zq.kept {C n d : String} {A : Nat → Prop} {U : State} {H H1 : Heap} (h : vx_Zq C n d A U H) (hq : ∀ a : Nat, a < H.size → ¬ A a → H1[a]? = H[a]?) : vx_Zq C n d A U H1 := ⟨va_Zq.kept h.1 hq, vx_L.kept h.2 hq⟩
theorem vx_Zq.narrow {C n d : String} {A B : Nat → Prop} {U : State} {H : Heap} (h : vx_Zq C n d A U H) (hAB : ∀ q, B q → A q) : vx_Zq C n d B U H := ⟨va_Zq.narrow h.1 hAB, vx_L.narrow h.2 hAB⟩
theorem vx_Zqof {args : Array Value} {s : State} {C n d : String} {A : Nat → Prop} (hl : (Cond.laysStatic C n d).before args s = true) (hini : (Cond.initialized C).before args s = true) (h : (Cond.isRef (.static C n d)).before args s = true) (hA : ∀ a : Nat, a < s.heap.size → ¬ A a) : vx_Zq C n d A s s.heap := by
  refine ⟨va_Zqof hl hini h hA, ?_⟩
  obtain ⟨c, k, i, f, a, cell, h1, h2, h3, h4, h5, h6, h7, h8, h9⟩ := Cond.laysStatic_spec hl
  exact ⟨c, k, i, f, a, cell, h1, h2, h3, h4, h5, h6, h7, h8, h9, hA a (Array.getElem?_eq_some_iff.mp h5).1⟩
theorem vx_isRef {C n d : String} {v : Value} {A : Nat → Prop} {s : State} {args : Array Value} (h : va_Z C n d v A s s.heap) (hv : v.isRef = true) : (Cond.isRef (.static C n d)).before args s = true := by
  obtain ⟨cf, kf, fi, f, a, cell, h1, h2, h3, h4, h5, h6, h7, -⟩ := h
  have he : (Term.static C n d).eval args s none [] s = some v := by
    simp [Term.eval, State.fieldNamed?, h1, h2, h4, h5, h6, h7]
  simp only [Cond.before, Cond.holds, Cond.value, he]
  cases v <;> simp_all [Value.isRef]
theorem vx_isRefq {C n d : String} {A : Nat → Prop} {s : State} {args : Array Value} (h : va_Zq C n d A s s.heap) : (Cond.isRef (.static C n d)).before args s = true := by
  rcases h with h | ⟨t, h⟩
  · exact vx_isRef h rfl
  · exact vx_isRef h rfl
/-- the same frame, seen from here: as if the method were called anew in this heap -/
theorem vx_rebase {T : State} (X : Stand p l e R s m args below meth c T locs cells slots) {R' : Room} (hf : R'.frames ≤ R.frames) (hl : R'.locals ≤ R.locals) (hc : cells + R'.cells ≤ R.cells) (hs : slots + R'.slots ≤ R.slots) :
    Stand p l e R' ((T.setVm s.vm).setFrames (.invoking m args :: below)) m args below meth c T [] 0 0 := by
  have htop : (T.setVm s.vm).topJava?.isSome := X.here.top
  have hF : ((T.setVm s.vm).setFrames (.invoking m args :: below)).frames = .invoking m args :: below := State.frames_setFrames _ (State.cur_lt_of_top htop)
  obtain ⟨g₀, hg0⟩ := Option.isSome_iff_exists.mp htop
  obtain ⟨r, hr⟩ := State.topJava?_eq_some.mp hg0
  have hl9 : e.platform.stackLimits (T.setVm s.vm).me = e.platform.stackLimits s.me := X.limits
  have hb9 : (T.setVm s.vm).me.stackBytes = s.me.stackBytes := X.bytes
  refine ⟨X.admits, X.cas, X.clock, hF, ?_, X.hears, X.method, X.code, X.here, X.tail, X.warmed, ?_, ?_, ?_⟩
  · have h := X.room
    have hU : ((T.setVm s.vm).setFrames (.invoking m args :: below)).localsInUse = s.localsInUse := by
      rw [State.localsInUse_invoking hF (meth := meth) (c := c) X.method X.code, State.localsInUse_invoking X.frames X.method X.code]
    simp only [State.hasRoom, Bool.and_eq_true, decide_eq_true_eq] at h ⊢
    obtain ⟨⟨⟨⟨h1, h2, h3, h4, h5, h6⟩, h7⟩, h8⟩, h9⟩ := h
    rw [X.frames, List.length_cons] at h2 h3
    have q1 := X.heapSize
    have q2 := X.used
    simp only [hF, hU, List.length_cons, State.stackLimits_setFrames, State.stackBytes_setFrames, hl9, hb9]
    refine ⟨⟨⟨⟨by omega, by omega, by omega, by omega, by omega, h6⟩, ?_⟩, ?_⟩, X.book⟩
    · show T.heap.size + R'.cells ≤ e.platform.maxCells
      omega
    · show T.slotsUsed + R'.slots ≤ e.platform.maxSlots
      omega
  · rw [State.stackLimits_setFrames]; rfl
  · rw [State.stackBytes_setFrames]; rfl
  · refine ⟨?_, Nat.le_refl _, Nat.le_refl _, ?_, ?_, fun a c9 h9 => ⟨c9, h9, rfl, rfl, fun _ _ => rfl⟩⟩
    · obtain ⟨t, ht, -⟩ := State.frames_cons hr
      show T.setVm s.vm = { ((T.setVm s.vm).setFrames (.invoking m args :: below)).setFrames (T.setVm s.vm).frames with heap := T.heap, slotsUsed := T.slotsUsed }
      rw [State.setFrames_setFrames, State.setFrames_self ht]
      rfl
    · show T.slotsUsed = T.slotsUsed + ((T.heap.toList.drop T.heap.size).map (·.slots.size)).sum
      rw [List.drop_eq_nil_of_le (Nat.le_of_eq Array.length_toList)]
      rfl
    · show ((T.heap.toList.drop T.heap.size).map (·.slots.size)).sum ≤ 0
      rw [List.drop_eq_nil_of_le (Nat.le_of_eq Array.length_toList)]
      exact Nat.le_refl _
/-- 'throw new E()': new; dup; invokespecial; athrow -/
theorem vx_throw0 {cc : ByteArray} {pc : Nat} (hexec : p.tables.exec = Jvm.exec) (hb : c.code = cc) (hl : l.stackTraces = false) {own cls : String} {names : List String} {ik ic mc ms : Nat} {A : Nat → Prop}
    (hown : s.vm.findClass own = some m.cls) (hcls : Bundle.fit cls = true) (hnames : ∀ n ∈ names, Bundle.fit n = true)
    (hk : (Cond.classLink own ik cls).before args s = true) (hini : (Cond.initialized cls).before args s = true) (hat : ∀ w ∈ vx_at0 own ic cls names, w.before args s = true)
    (hgood : ∀ w ∈ Cond.classLink own ik cls :: Cond.initialized cls :: vx_at0 own ic cls names, vx_ot w = true)
    (hU : vx_Zq Bundle.tN "UNASSIGNED_STACK" Bundle.steD A s s.heap) (hN : vx_Zq Bundle.tN "SUPPRESSED_SENTINEL" Bundle.listD A s s.heap) (hS : va_S A s.heap H locs) (hsize : ls.size = c.maxLocals)
    (d0 : decode cc pc = .ok (.new ik, 3)) (d3 : decode cc (pc + 3) = .ok (.dup, 1)) (d4 : decode cc (pc + 4) = .ok (.invokespecial ic, 3)) (d7 : decode cc (pc + 7) = .ok (.athrow, 1))
    (hout : ∀ x ∈ c.exceptionTable.toList, covers x (pc + 7) = false)
    (hRframes : names.length + 3 < R.frames) (hRlocals : (rest.map fun v => v.category).sum + (13 * (names.length + 1) + 42) ≤ R.locals) (hRcells : cells + 1 ≤ R.cells) (hRslots : slots + 6 ≤ R.slots) (hlocks : meth.locks = false)
    (hx : ∀ t : State, s.vm.Alike t.vm → H.size ≤ t.heap.size → (∀ q : Nat, q < H.size → t.heap[q]? = H[q]?) → XC cls s t)
    (hf : ∀ z ∈ locs, free z.base) (hc : cells + 1 ≤ mc) (hs : slots + 6 ≤ ms) :
    W p l e R s m args below meth c H locs cells slots (vx_MQ below Qc XC args s mc ms free) (F0 m pc ls rest) := by
  intro T hT X
  have htr : e.platform.stackTraces = false := (show e.platform.stackTraces = l.stackTraces by rw [X.admits.platform]).trans hl
  have Y := vx_rebase X (R' := { frames := R.frames, locals := R.locals, cells := 1, slots := 6 }) (Nat.le_refl _) (Nat.le_refl _) hRcells hRslots
  obtain ⟨s', hA⟩ : ∃ z, z = (T.setVm s.vm).setFrames (.invoking m args :: below) := ⟨_, rfl⟩
  rw [← hA] at Y
  have hvm : s'.vm = s.vm := by rw [hA]; rfl
  have hhp : s'.heap = H := by rw [hA]; exact hT
  have hW0 : s.WarmedH s'.vm := by rw [hvm]; exact State.WarmedH.refl s
  have hat' : ∀ w ∈ vx_at0 own ic cls names, w.before args s' = true := fun w hw => vx_ot_at hW0 hvm.symm (hgood w (List.mem_cons_of_mem _ (List.mem_cons_of_mem _ hw))) (hat w hw)
  have hk' : (Cond.classLink own ik cls).before args s' = true := vx_ot_at hW0 hvm.symm (hgood _ List.mem_cons_self) hk
  have hini' : (Cond.initialized cls).before args s' = true := vx_ot_at hW0 hvm.symm (hgood _ (List.mem_cons_of_mem _ List.mem_cons_self)) hini
  have hU' : vx_Zq Bundle.tN "UNASSIGNED_STACK" Bundle.steD A s' s'.heap := by rw [hhp]; exact vx_Zq.moved hW0.alike (hU.kept hS.2.1)
  have hN' : vx_Zq Bundle.tN "SUPPRESSED_SENTINEL" Bundle.listD A s' s'.heap := by rw [hhp]; exact vx_Zq.moved hW0.alike (hN.kept hS.2.1)
  have h : ∀ w ∈ Bundle.ownAtoms0 own ic cls names, w.before args s' = true := vx_own hat' (vx_isRefq hU'.1) (vx_isRefq hN'.1) hU'.2.word hN'.2.word
  have hown' : s'.vm.findClass own = some m.cls := by rw [hvm]; exact hown
  have hins : (Cond.instantiable cls 6).before args s' = true := h _ (by simp [Bundle.ownAtoms0])
  obtain ⟨vm₁, cX, kX, hfX, hkX, -, -, X₁, st1⟩ := Y.newCold hexec (own := own) (C := cls) (index := ik) (n := 6) hown' hk' hins hini'
    (g := F0 m pc ls rest) rfl (by rw [hb]; exact d0) (Nat.le_refl _) (Nat.le_refl _)
  generalize hT1 : (T.setVm vm₁).pushCell { cls := cX, slots := kX.instanceTypes.map defaultValue, vm := .none } = T1 at X₁ st1
  have hcat : (Value.ref T.heap.size).category = 1 := rfl
  have hcellA : T1.heap[T.heap.size]? = some (freshCell cX kX) := by rw [← hT1]; exact State.heap_pushCell_size _ _
  have d3' : decode c.code (pc + 3) = .ok (.dup, 1) := by rw [hb]; exact d3
  obtain ⟨U, hsteps, hrun, hend, hW, hsame, ce, hce, hO⟩ := X₁.ctorThrow0 hexec htr (own := own) (cls := cls) (names := names) (ic := ic) hown' hcls hnames h (fun x hx => nomatch hx) hfX hkX hcellA (by rw [hhp, hT]; exact Nat.le_refl _)
    (g := { method := m, pc := pc + 4, locals := ls, stack := .ref T.heap.size :: .ref T.heap.size :: rest, locked := none }) rfl hsize rfl rfl (rest := rest) rfl
    (by rw [hb]; exact d4) (by rw [hb]; exact d7) hout hRframes (by simp only [List.map_cons, List.sum_cons, hcat]; omega) hlocks
  obtain ⟨f1, f2⟩ := vx_frame hsame
  rw [hhp] at f1 f2
  have hWs : s.WarmedH U.vm := State.WarmedH.trans hW0 hW
  have hcl : s.vm.findClass cls = some ce.cls := by
    have h9 := hO.cls
    rw [hvm] at h9
    exact h9
  have hall : s.sameButNew ({ U with vm := s.vm } : State) locs mc ms := by
    subst hA
    obtain ⟨e1, e2⟩ := hsame
    rw [State.setFrames_setFrames] at e1
    have h2 : (T.setVm s.vm).sameButNew ({ U with vm := s.vm } : State) [] (0 + 1) (0 + 6) := ⟨e1, e2⟩
    have h3 := X.same.trans h2
    rw [List.append_nil] at h3
    exact h3.mono hc hs
  refine ⟨U, ?_, .threw T.heap.size, hrun, hend, Or.inr ⟨T.heap.size, rfl, cls, ce, locs, hx U hWs.alike f1 (fun q hq => f2 q hq (fun z hz => nomatch hz)), hce, hO.vm, hcl, hWs, hall, hf⟩⟩
  refine st1 _ ?_
  show Steps p.tables e below (T1.setTop { method := m, pc := pc + 3, locals := ls, stack := .ref T.heap.size :: rest, locked := none }) _
  jvm_step X₁.here [X₁.here.top, hexec, d3', Value.category]
  exact hsteps
/-- 'throw new E("text")': new; dup; ldc; invokespecial; athrow -/
theorem vx_throwS {cc : ByteArray} {pc : Nat} (hexec : p.tables.exec = Jvm.exec) (hb : c.code = cc) (hl : l.stackTraces = false) {own cls text : String} {names : List String} {ik is ic mc ms sa : Nat} {A : Nat → Prop}
    (hown : s.vm.findClass own = some m.cls) (hcls : Bundle.fit cls = true) (hnames : ∀ n ∈ names, Bundle.fit n = true)
    (hk : (Cond.classLink own ik cls).before args s = true) (hini : (Cond.initialized cls).before args s = true) (hstr : vk_R own is text sa s) (hat : ∀ w ∈ vx_atS own ic cls names, w.before args s = true)
    (hgood : ∀ w ∈ Cond.classLink own ik cls :: Cond.initialized cls :: vx_atS own ic cls names, vx_ot w = true)
    (hU : vx_Zq Bundle.tN "UNASSIGNED_STACK" Bundle.steD A s s.heap) (hN : vx_Zq Bundle.tN "SUPPRESSED_SENTINEL" Bundle.listD A s s.heap) (hS : va_S A s.heap H locs) (hsize : ls.size = c.maxLocals)
    (d0 : decode cc pc = .ok (.new ik, 3)) (d3 : decode cc (pc + 3) = .ok (.dup, 1)) (d4 : decode cc (pc + 4) = .ok (.ldc is, 2)) (d6 : decode cc (pc + 6) = .ok (.invokespecial ic, 3)) (d9 : decode cc (pc + 9) = .ok (.athrow, 1))
    (hout : ∀ x ∈ c.exceptionTable.toList, covers x (pc + 9) = false)
    (hRframes : names.length + 3 < R.frames) (hRlocals : (rest.map fun v => v.category).sum + (13 * (names.length + 1) + 43) ≤ R.locals) (hRcells : cells + 1 ≤ R.cells) (hRslots : slots + 6 ≤ R.slots) (hlocks : meth.locks = false)
    (hx : ∀ t : State, s.vm.Alike t.vm → H.size ≤ t.heap.size → (∀ q : Nat, q < H.size → t.heap[q]? = H[q]?) → XC cls s t)
    (hf : ∀ z ∈ locs, free z.base) (hc : cells + 1 ≤ mc) (hs : slots + 6 ≤ ms) :
    W p l e R s m args below meth c H locs cells slots (vx_MQ below Qc XC args s mc ms free) (F0 m pc ls rest) := by
  intro T hT X
  have htr : e.platform.stackTraces = false := (show e.platform.stackTraces = l.stackTraces by rw [X.admits.platform]).trans hl
  have Y := vx_rebase X (R' := { frames := R.frames, locals := R.locals, cells := 1, slots := 6 }) (Nat.le_refl _) (Nat.le_refl _) hRcells hRslots
  obtain ⟨s', hA⟩ : ∃ z, z = (T.setVm s.vm).setFrames (.invoking m args :: below) := ⟨_, rfl⟩
  rw [← hA] at Y
  have hvm : s'.vm = s.vm := by rw [hA]; rfl
  have hhp : s'.heap = H := by rw [hA]; exact hT
  have hW0 : s.WarmedH s'.vm := by rw [hvm]; exact State.WarmedH.refl s
  have hat' : ∀ w ∈ vx_atS own ic cls names, w.before args s' = true := fun w hw => vx_ot_at hW0 hvm.symm (hgood w (List.mem_cons_of_mem _ (List.mem_cons_of_mem _ hw))) (hat w hw)
  have hk' : (Cond.classLink own ik cls).before args s' = true := vx_ot_at hW0 hvm.symm (hgood _ List.mem_cons_self) hk
  have hini' : (Cond.initialized cls).before args s' = true := vx_ot_at hW0 hvm.symm (hgood _ (List.mem_cons_of_mem _ List.mem_cons_self)) hini
  have hU' : vx_Zq Bundle.tN "UNASSIGNED_STACK" Bundle.steD A s' s'.heap := by rw [hhp]; exact vx_Zq.moved hW0.alike (hU.kept hS.2.1)
  have hN' : vx_Zq Bundle.tN "SUPPRESSED_SENTINEL" Bundle.listD A s' s'.heap := by rw [hhp]; exact vx_Zq.moved hW0.alike (hN.kept hS.2.1)
  have h : ∀ w ∈ Bundle.ownAtoms own ic cls names, w.before args s' = true := vx_own hat' (vx_isRefq hU'.1) (vx_isRefq hN'.1) hU'.2.word hN'.2.word
  have hown' : s'.vm.findClass own = some m.cls := by rw [hvm]; exact hown
  have hins : (Cond.instantiable cls 6).before args s' = true := h _ (by simp [Bundle.ownAtoms])
  obtain ⟨vm₁, cX, kX, hfX, hkX, -, -, X₁, st1⟩ := Y.newCold hexec (own := own) (C := cls) (index := ik) (n := 6) hown' hk' hins hini'
    (g := F0 m pc ls rest) rfl (by rw [hb]; exact d0) (Nat.le_refl _) (Nat.le_refl _)
  generalize hT1 : (T.setVm vm₁).pushCell { cls := cX, slots := kX.instanceTypes.map defaultValue, vm := .none } = T1 at X₁ st1
  have hcat : (Value.ref T.heap.size).category = 1 := rfl
  have hcellA : T1.heap[T.heap.size]? = some (freshCell cX kX) := by rw [← hT1]; exact State.heap_pushCell_size _ _
  have d3' : decode c.code (pc + 3) = .ok (.dup, 1) := by rw [hb]; exact d3
  have d4' : decode c.code (pc + 4) = .ok (.ldc is, 2) := by rw [hb]; exact d4
  have hstr' : vk_R own is text sa s' := vk_R.warm hW0 hstr
  obtain ⟨U, hsteps, hrun, hend, hW, hsame, ce, hce, hO⟩ := X₁.ctorThrowS hexec htr (own := own) (cls := cls) (names := names) (ic := ic) hown' hcls hnames h (fun x hx => nomatch hx) hfX hkX hcellA (by rw [hhp, hT]; exact Nat.le_refl _) (msg := .ref sa) rfl
    (g := { method := m, pc := pc + 6, locals := ls, stack := .ref sa :: .ref T.heap.size :: .ref T.heap.size :: rest, locked := none }) rfl hsize rfl rfl (rest := rest) rfl
    (by rw [hb]; exact d6) (by rw [hb]; exact d9) hout hRframes (by simp only [List.map_cons, List.sum_cons, hcat]; omega) hlocks
  obtain ⟨f1, f2⟩ := vx_frame hsame
  rw [hhp] at f1 f2
  have hWs : s.WarmedH U.vm := State.WarmedH.trans hW0 hW
  have hcl : s.vm.findClass cls = some ce.cls := by
    have h9 := hO.cls
    rw [hvm] at h9
    exact h9
  have hall : s.sameButNew ({ U with vm := s.vm } : State) locs mc ms := by
    subst hA
    obtain ⟨e1, e2⟩ := hsame
    rw [State.setFrames_setFrames] at e1
    have h2 : (T.setVm s.vm).sameButNew ({ U with vm := s.vm } : State) [] (0 + 1) (0 + 6) := ⟨e1, e2⟩
    have h3 := X.same.trans h2
    rw [List.append_nil] at h3
    exact h3.mono hc hs
  refine ⟨U, ?_, .threw T.heap.size, hrun, hend, Or.inr ⟨T.heap.size, rfl, cls, ce, locs, hx U hWs.alike f1 (fun q hq => f2 q hq (fun z hz => nomatch hz)), hce, hO.vm, hcl, hWs, hall, hf⟩⟩
  refine st1 _ ?_
  show Steps p.tables e below (T1.setTop { method := m, pc := pc + 3, locals := ls, stack := .ref T.heap.size :: rest, locked := none }) _
  jvm_step X₁.here [X₁.here.top, hexec, d3', Value.category]
  exact X₁.ldcString hexec (own := own) (text := text) (index := is) (a := sa) hown' hstr'.1 hstr'.2
    (g := { method := m, pc := pc + 4, locals := ls, stack := .ref T.heap.size :: .ref T.heap.size :: rest, locked := none }) rfl d4' _ hsteps
/-- 'throw new E("text")', the text by a wide index -/
theorem vx_throwSW {cc : ByteArray} {pc : Nat} (hexec : p.tables.exec = Jvm.exec) (hb : c.code = cc) (hl : l.stackTraces = false) {own cls text : String} {names : List String} {ik is ic mc ms sa : Nat} {A : Nat → Prop}
    (hown : s.vm.findClass own = some m.cls) (hcls : Bundle.fit cls = true) (hnames : ∀ n ∈ names, Bundle.fit n = true)
    (hk : (Cond.classLink own ik cls).before args s = true) (hini : (Cond.initialized cls).before args s = true) (hstr : vk_R own is text sa s) (hat : ∀ w ∈ vx_atS own ic cls names, w.before args s = true)
    (hgood : ∀ w ∈ Cond.classLink own ik cls :: Cond.initialized cls :: vx_atS own ic cls names, vx_ot w = true)
    (hU : vx_Zq Bundle.tN "UNASSIGNED_STACK" Bundle.steD A s s.heap) (hN : vx_Zq Bundle.tN "SUPPRESSED_SENTINEL" Bundle.listD A s s.heap) (hS : va_S A s.heap H locs) (hsize : ls.size = c.maxLocals)
    (d0 : decode cc pc = .ok (.new ik, 3)) (d3 : decode cc (pc + 3) = .ok (.dup, 1)) (d4 : decode cc (pc + 4) = .ok (.ldc_w is, 3)) (d7 : decode cc (pc + 7) = .ok (.invokespecial ic, 3)) (d10 : decode cc (pc + 10) = .ok (.athrow, 1))
    (hout : ∀ x ∈ c.exceptionTable.toList, covers x (pc + 10) = false)
    (hRframes : names.length + 3 < R.frames) (hRlocals : (rest.map fun v => v.category).sum + (13 * (names.length + 1) + 43) ≤ R.locals) (hRcells : cells + 1 ≤ R.cells) (hRslots : slots + 6 ≤ R.slots) (hlocks : meth.locks = false)
    (hx : ∀ t : State, s.vm.Alike t.vm → H.size ≤ t.heap.size → (∀ q : Nat, q < H.size → t.heap[q]? = H[q]?) → XC cls s t)
    (hf : ∀ z ∈ locs, free z.base) (hc : cells + 1 ≤ mc) (hs : slots + 6 ≤ ms) :
    W p l e R s m args below meth c H locs cells slots (vx_MQ below Qc XC args s mc ms free) (F0 m pc ls rest) := by
  intro T hT X
  have htr : e.platform.stackTraces = false := (show e.platform.stackTraces = l.stackTraces by rw [X.admits.platform]).trans hl
  have Y := vx_rebase X (R' := { frames := R.frames, locals := R.locals, cells := 1, slots := 6 }) (Nat.le_refl _) (Nat.le_refl _) hRcells hRslots
  obtain ⟨s', hA⟩ : ∃ z, z = (T.setVm s.vm).setFrames (.invoking m args :: below) := ⟨_, rfl⟩
  rw [← hA] at Y
  have hvm : s'.vm = s.vm := by rw [hA]; rfl
  have hhp : s'.heap = H := by rw [hA]; exact hT
  have hW0 : s.WarmedH s'.vm := by rw [hvm]; exact State.WarmedH.refl s
  have hat' : ∀ w ∈ vx_atS own ic cls names, w.before args s' = true := fun w hw => vx_ot_at hW0 hvm.symm (hgood w (List.mem_cons_of_mem _ (List.mem_cons_of_mem _ hw))) (hat w hw)
  have hk' : (Cond.classLink own ik cls).before args s' = true := vx_ot_at hW0 hvm.symm (hgood _ List.mem_cons_self) hk
  have hini' : (Cond.initialized cls).before args s' = true := vx_ot_at hW0 hvm.symm (hgood _ (List.mem_cons_of_mem _ List.mem_cons_self)) hini
  have hU' : vx_Zq Bundle.tN "UNASSIGNED_STACK" Bundle.steD A s' s'.heap := by rw [hhp]; exact vx_Zq.moved hW0.alike (hU.kept hS.2.1)
  have hN' : vx_Zq Bundle.tN "SUPPRESSED_SENTINEL" Bundle.listD A s' s'.heap := by rw [hhp]; exact vx_Zq.moved hW0.alike (hN.kept hS.2.1)
  have h : ∀ w ∈ Bundle.ownAtoms own ic cls names, w.before args s' = true := vx_own hat' (vx_isRefq hU'.1) (vx_isRefq hN'.1) hU'.2.word hN'.2.word
  have hown' : s'.vm.findClass own = some m.cls := by rw [hvm]; exact hown
  have hins : (Cond.instantiable cls 6).before args s' = true := h _ (by simp [Bundle.ownAtoms])
  obtain ⟨vm₁, cX, kX, hfX, hkX, -, -, X₁, st1⟩ := Y.newCold hexec (own := own) (C := cls) (index := ik) (n := 6) hown' hk' hins hini'
    (g := F0 m pc ls rest) rfl (by rw [hb]; exact d0) (Nat.le_refl _) (Nat.le_refl _)
  generalize hT1 : (T.setVm vm₁).pushCell { cls := cX, slots := kX.instanceTypes.map defaultValue, vm := .none } = T1 at X₁ st1
  have hcat : (Value.ref T.heap.size).category = 1 := rfl
  have hcellA : T1.heap[T.heap.size]? = some (freshCell cX kX) := by rw [← hT1]; exact State.heap_pushCell_size _ _
  have d3' : decode c.code (pc + 3) = .ok (.dup, 1) := by rw [hb]; exact d3
  have d4' : decode c.code (pc + 4) = .ok (.ldc_w is, 3) := by rw [hb]; exact d4
  have hstr' : vk_R own is text sa s' := vk_R.warm hW0 hstr
  obtain ⟨U, hsteps, hrun, hend, hW, hsame, ce, hce, hO⟩ := X₁.ctorThrowS hexec htr (own := own) (cls := cls) (names := names) (ic := ic) hown' hcls hnames h (fun x hx => nomatch hx) hfX hkX hcellA (by rw [hhp, hT]; exact Nat.le_refl _) (msg := .ref sa) rfl
    (g := { method := m, pc := pc + 7, locals := ls, stack := .ref sa :: .ref T.heap.size :: .ref T.heap.size :: rest, locked := none }) rfl hsize rfl rfl (rest := rest) rfl
    (by rw [hb]; exact d7) (by rw [hb]; exact d10) hout hRframes (by simp only [List.map_cons, List.sum_cons, hcat]; omega) hlocks
  obtain ⟨f1, f2⟩ := vx_frame hsame
  rw [hhp] at f1 f2
  have hWs : s.WarmedH U.vm := State.WarmedH.trans hW0 hW
  have hcl : s.vm.findClass cls = some ce.cls := by
    have h9 := hO.cls
    rw [hvm] at h9
    exact h9
  have hall : s.sameButNew ({ U with vm := s.vm } : State) locs mc ms := by
    subst hA
    obtain ⟨e1, e2⟩ := hsame
    rw [State.setFrames_setFrames] at e1
    have h2 : (T.setVm s.vm).sameButNew ({ U with vm := s.vm } : State) [] (0 + 1) (0 + 6) := ⟨e1, e2⟩
    have h3 := X.same.trans h2
    rw [List.append_nil] at h3
    exact h3.mono hc hs
  refine ⟨U, ?_, .threw T.heap.size, hrun, hend, Or.inr ⟨T.heap.size, rfl, cls, ce, locs, hx U hWs.alike f1 (fun q hq => f2 q hq (fun z hz => nomatch hz)), hce, hO.vm, hcl, hWs, hall, hf⟩⟩
  refine st1 _ ?_
  show Steps p.tables e below (T1.setTop { method := m, pc := pc + 3, locals := ls, stack := .ref T.heap.size :: rest, locked := none }) _
  jvm_step X₁.here [X₁.here.top, hexec, d3', Value.category]
  exact X₁.ldcStringW hexec (own := own) (text := text) (index := is) (a := sa) hown' hstr'.1 hstr'.2
    (g := { method := m, pc := pc + 4, locals := ls, stack := .ref T.heap.size :: .ref T.heap.size :: rest, locked := none }) rfl d4' _ hsteps
end Ends
section Bodies
variable {l : Launch}
theorem vx_ofW {y : MethodName} {ws ws' : List Cond} {rm : Room} {Pc : Array Value → State → Prop} {Qc : Array Value → State → Outcome → State → Prop} {XC : String → State → State → Prop} {mc ms : Nat} {free : Addr → Prop} {cc : ByteArray} {maxL : Nat} {ret : Option FieldType}
    (hy : plainName y.cls = true) (hw : ws = Cond.code y cc maxL ret :: ws')
    (body : ∀ p e s m args below meth c s₁, BodyLoose p l y (headSpec ws rm) cc maxL ret e s m args below meth c s₁ → c.maxLocals = maxL → (∀ x ∈ c.exceptionTable.toList, False) → Pc args s →
      W p l e (headSpec ws rm).room s m args below meth c s.heap [] 0 0 (vx_MQ below Qc XC args s mc ms free) (entryFrame m args maxL)) : vx_Met l y ws rm Pc Qc XC mc ms free := by
  refine MetFree.of_bodyS (code := cc) (maxLocals := maxL) (ret := ret) hy ?_ ?_
  · intro args s m h hn
    obtain ⟨meth, c, h1, h2, h3, h4, h5, h6, -, -⟩ := Cond.code_spec hn (atoms_spec (ws := ws) h _ (by rw [hw]; exact List.mem_cons_self))
    exact ⟨meth, c, h1, h2, h3, h4, h5, h6⟩
  · intro p e s m args below meth c s₁ B hml hP _
    have hh0 : s₁.heap = s.heap := by rw [B.state]; rfl
    have ht : ∀ x ∈ c.exceptionTable.toList, False := by
      obtain ⟨meth9, c9, h1, h2, -, -, -, -, h7, -⟩ := Cond.code_spec B.named (atoms_spec (ws := ws) B.pre _ (by rw [hw]; exact List.mem_cons_self))
      cases Option.some.inj (h1.symm.trans B.method)
      cases Option.some.inj (h2.symm.trans (Stand.of_body B).code)
      intro x hx
      rw [Array.isEmpty_iff.mp h7] at hx
      cases hx
    obtain ⟨t, a1, o, b1, b2, b3⟩ := body p e s m args below meth c s₁ B hml ht hP s₁ hh0 (Stand.of_body B)
    exact ⟨t, o, a1, b1, b2, b3⟩
/-- the table of a body with handlers -/
theorem vx_table {p : Program} {x y : MethodName} {S : Spec} {cc bytes : ByteArray} {maxL maxL' : Nat} {ret ret' : Option FieldType} {e : Env} {s s₁ : State} {m : MethodId} {args : Array Value} {below : List Frame} {meth : Method} {c : Code} {hh : List (Nat × Nat × Nat × Nat)}
    (B : BodyLoose p l y S cc maxL ret e s m args below meth c s₁) (h : (Cond.codeWith y bytes maxL' ret' hh).before args s = true) : c.exceptionTable.toList = tableOf hh := by
  obtain ⟨m9, meth9, c9, hn9, h1, h2, -, -, h6, -⟩ := Cond.codeWith_spec h
  cases Option.some.inj (hn9.symm.trans B.named)
  cases Option.some.inj (h1.symm.trans B.method)
  cases Option.some.inj (h2.symm.trans (Stand.of_body B).code)
  rw [← h6, table_eq]
end Bodies
end VXA
/-! ===== END ===== -/
/-! ===== BEGIN a static call of a method with an exception table ===== -/
section VXS
variable {p : Program} {l : Launch} {e : Env} {R : Room} {s : State} {m : MethodId} {args : Array Value} {below : List Frame} {meth : Method} {c : Code} {T : State} {H : Heap} {locs : List Loc} {cells slots : Nat}
abbrev vx_CSW (R : Room) (s : State) (args : Array Value) (own : String) (index : Nat) (y : MethodName) (bytes : ByteArray) (maxL : Nat) (ret : Option FieldType) (hh : List (Nat × Nat × Nat × Nat)) (ws : List Cond) (rm : Room) (mc ms n : Nat) : Prop :=
  (rm.cells = mc ∧ rm.slots = ms ∧ rm.frames + 1 ≤ R.frames ∧ 8 + (maxL + 11) + rm.locals ≤ R.locals ∧ (∀ w ∈ ws, ∀ (a' : Array Value) (U : State), s.WarmedH U.vm → w.before a' U = true) ∧ Cond.codeWith y bytes maxL ret hh ∈ ws) ∧
  (Cond.codeWith y bytes maxL ret hh).before args s = true ∧ (Cond.initialized y.cls).before args s = true ∧ (y.cls ≠ "java/lang/invoke/MethodHandle" ∧ y.cls ≠ "java/lang/invoke/VarHandle") ∧
  (∀ sig, parseMethodDescriptor y.desc = some sig → n = sig.parameters.length) ∧ (Cond.methodLink own index y).before args s = true ∧ (Cond.static y).before args s = true
theorem vx_cwSW {own : String} {index maxL mc ms : Nat} {y : MethodName} {bytes : ByteArray} {ret : Option FieldType} {hh : List (Nat × Nat × Nat × Nat)} {Ts ws ws' : List Cond} {rm : Room} (n : Nat) (ht : ∀ w ∈ Ts, w.before args s = true) (hT : GoodIn Ts (va_wsS own index y ws)) (hw : ws = Cond.codeWith y bytes maxL ret hh :: ws') (hrc : rm.cells = mc) (hrs : rm.slots = ms)
    (hd : y.cls ≠ "java/lang/invoke/MethodHandle" ∧ y.cls ≠ "java/lang/invoke/VarHandle" ∧ (parseMethodDescriptor y.desc).map (fun d => d.parameters.length) = some n) (hR : rm.frames + 1 ≤ R.frames ∧ 8 + (maxL + 11) + rm.locals ≤ R.locals) :
    vx_CSW R s args own index y bytes maxL ret hh ws rm mc ms n := by
  have ok : ∀ w ∈ va_wsS own index y ws, w.before args s = true := fun w h => ht w (hT w h).1
  have hG : GoodIn Ts ws := fun w h => hT w (by unfold va_wsS; exact List.mem_append_right _ h)
  have hc : Cond.codeWith y bytes maxL ret hh ∈ ws := by rw [hw]; exact List.mem_cons_self
  refine ⟨⟨hrc, hrs, hR.1, hR.2, pay_in ht hG, hc⟩, ht _ (hG _ hc).1, ok _ (by simp [va_wsS]), ⟨hd.1, hd.2.1⟩, fun sig h => ?_, ok _ (by simp [va_wsS]), ok _ (by simp [va_wsS])⟩
  have h2 := hd.2.2
  rw [h] at h2
  exact (Option.some.inj h2).symm
theorem vx_callSW (X : Stand p l e R s m args below meth c T locs cells slots) (hexec : p.tables.exec = Jvm.exec) {own : String} {index : Nat} {y : MethodName} {bytes : ByteArray} {maxL : Nat} {ret : Option FieldType} {hh : List (Nat × Nat × Nat × Nat)}
    (hown : s.vm.findClass own = some m.cls) (hlink : (Cond.methodLink own index y).before args s = true) (hstat : (Cond.static y).before args s = true) (hinit : (Cond.initialized y.cls).before args s = true)
    (hcode : (Cond.codeWith y bytes maxL ret hh).before args s = true) (hy : y.cls ≠ "java/lang/invoke/MethodHandle" ∧ y.cls ≠ "java/lang/invoke/VarHandle")
    {W9 : Nat} {Pre : Pt → Array Value → Prop} {Post : Pt → Array Value → Option Value → Pt → Prop} (hK : Back l R p e below s args y 3 W9 Pre Post)
    {g : JFrame} (hg : g.method = m) (hsize : g.locals.size = c.maxLocals) {argsL rest : List Value} (hlen : ∀ sig, parseMethodDescriptor y.desc = some sig → argsL.length = sig.parameters.length)
    (hstack : g.stack = argsL.reverse ++ rest) (hW : 2 * g.monitorRoom + (rest.map fun v => v.category).sum ≤ W9) (hdg : decode c.code g.pc = .ok (.invokestatic index, 3))
    (hpre : ∀ vm₁, s.WarmedH vm₁ → Pre ⟨T.setVm vm₁, locs, cells, slots⟩ argsL.toArray) :
    ∃ (v : Option Value) (vm₁ : Vm) (B : Pt), s.WarmedH vm₁ ∧ Stand p l e R s m args below meth c B.U B.locs B.cells B.slots ∧ Post ⟨T.setVm vm₁, locs, cells, slots⟩ argsL.toArray v B ∧
      ∀ target, Steps p.tables e below (B.U.setTop { g with pc := g.pc + 3, stack := v.toList ++ rest }) target → Steps p.tables e below (T.setTop g) target := by
  obtain ⟨mk, methM, cM, hnamed, hmethM, -, -, -, -, -, -, hsigM⟩ := Cond.codeWith_spec hcode
  have hstatic : methM.isStatic = true := Cond.static_spec hnamed hmethM hstat
  obtain ⟨kP, hkP, -⟩ := className_of_methodNamed hnamed
  have hinitP : kP.init = .initialized := Cond.initialized_spec (findClass_of_methodNamed hnamed) hkP hinit
  obtain ⟨vm₁, X₁, hstep₁⟩ := X.invokestatic hexec hown hlink hnamed hmethM hstatic hkP hinitP hy (g := g) hg (argsL := argsL) (rest := rest) (hlen _ hsigM) hstack hdg
  obtain ⟨v, B, X', hpost, hsteps⟩ := hK m meth c ⟨T.setVm vm₁, locs, cells, slots⟩ { g with stack := rest } (.invokestatic index) mk argsL.toArray X₁ hg hsize hdg hW (X₁.named hnamed) (hpre vm₁ X₁.warmed)
  exact ⟨v, vm₁, B, X₁.warmed, X', hpost, fun target h => hstep₁ _ fun acts => by rw [doInvoke_state]; exact hsteps.trans h⟩
theorem vx_runSW {y : MethodName} {bytes cc : ByteArray} {maxL nL mc ms n index : Nat} {ret : Option FieldType} {hh : List (Nat × Nat × Nat × Nat)} {ws : List Cond} {rm : Room} {Pc : Array Value → State → Prop} {Qc : Array Value → State → Outcome → State → Prop} {free : Addr → Prop} {Ts : List Cond} {own : String} {As rest : List Value} {g : JFrame}
    (S : CallFix p m c cc nL s args Ts own) (hM : Met l y ws rm Pc Qc mc ms free) (cw : vx_CSW R s args own index y bytes maxL ret hh ws rm mc ms n) (hp : PreS s H Pc As)
    (hg : g.method = m) (hn : As.length = n) (hsize : g.locals.size = nL) (hstack : g.stack = As.reverse ++ rest) (hW : 2 * g.monitorRoom + (rest.map fun v => v.category).sum ≤ 8) (hdg : decode cc g.pc = .ok (.invokestatic index, 3)) (hf : cells + mc ≤ R.cells ∧ slots + ms ≤ R.slots) :
    va_Run p l e R s m args below meth c H locs cells slots mc ms g rest (Qc As.toArray) (free) := by
  obtain ⟨⟨hrc, hrs, hfr, hlo, hws, hcw⟩, hcode, hini, hy, hlen, hl, hstt⟩ := cw
  have hK : Back l R p e below s args y 3 8 (PreOf R mc ms Pc) (PostOf Qc mc ms free) := va_backW (hh := hh) (bytes := bytes) (maxL := maxL) (ret := ret) hM hp.1 hrc hrs hfr hlo hws hcw (fun a' U hW => word_at hW (Or.inl (by first | rfl | simp [Cond.onTables, Cond.keeps, Cond.steady])) hini)
  obtain ⟨hx, hb, hml, ho, -⟩ := S
  intro T hT X
  obtain ⟨v, vm₁, ⟨U', l2, c2, s2⟩, hW₁, X', ⟨g', mk, t, L, e1, e2, hq, h1, hL, h2, h3⟩, st⟩ := vx_callSW X hx (hh := hh) (bytes := bytes) (maxL := maxL) (ret := ret) ho hl hstt hini hcode hy hK hg (hsize.trans hml.symm) (argsL := As) (rest := rest) (fun sig h => hn.trans (hlen sig h)) hstack hW (by rw [hb]; exact hdg)
    (fun vm₁ hW₁ => ⟨hf.1, hf.2, hp.2 (T.setVm vm₁) hT hW₁⟩)
  dsimp only [Pt.U, Pt.locs, Pt.cells, Pt.slots] at X' e1 e2 h1 h2 h3 st
  subst h1; subst h2; subst h3
  exact ⟨v, (T.setVm vm₁).calling g' mk As.toArray, t, U', L, hT, X', hL, e1, e2, hq, st⟩
/-- not caught here, past rows that name other classes: it goes on to the caller -/
theorem vx_outP {p : Program} {l : Launch} {e : Env} {R : Room} {s : State} {m : MethodId} {args : Array Value} {below : List Frame} {meth : Method} {c : Code} {H : Heap} {locs : List Loc} {cells slots : Nat} {free : Addr → Prop} {ls : Array Slot} {rest : List Value} {Qc : Array Value → State → Outcome → State → Prop} {XC : String → State → State → Prop}
    {pc : Nat} {own E : String} {ce : Cell} {q : Addr} {mc ms : Nat} (hown : s.vm.findClass own = some m.cls) (hlocks : meth.locks = false)
    (hpass : ∀ z ∈ c.exceptionTable.toList, covers z pc = false ∨ (z.catchType ≠ 0 ∧ ∃ nm : String, (Cond.classLink own z.catchType nm).before args s = true ∧ va_Nc E nm s)) (hcell : H[q]? = some ce) (hv : ce.vm = .none) (hcl : s.vm.findClass E = some ce.cls)
    (hx : ∀ t : State, t.heap = H → s.vm.Alike t.vm → XC E s t) (hf : ∀ z ∈ locs, free z.base) (hc : cells ≤ mc) (hs : slots ≤ ms) :
    vx_W p l e R s m args below meth c H locs cells slots (vx_MQ below Qc XC args s mc ms free) (F0 m pc ls rest) q := by
  intro T hT X
  have hpl : e.platform.magicAccessors = ({} : Platform).magicAccessors := by rw [X.admits.platform]
  obtain ⟨vm', hW', X', st⟩ := X.outThrough hlocks q (g := F0 m pc ls rest) rfl rfl rfl (cell := ce) (by rw [hT]; exact hcell) (by rw [hv]; rfl)
    (by obtain ⟨k9, h9, -⟩ := Vm.findClass_spec hcl; exact ⟨k9, h9⟩) (fun z hz => by
      rcases hpass z hz with h | ⟨hz0, nm, hl1, hn1⟩
      · exact Or.inl h
      · obtain ⟨c6, hc6, hcl6⟩ := Cond.classLink_spec hown hl1 e.platform hpl
        obtain ⟨a8, b8, h1, h2, h3⟩ := hn1
        cases Option.some.inj (h1.symm.trans hcl)
        cases Option.some.inj (h2.symm.trans hc6)
        exact Or.inr ⟨hz0, _, hcl6, h3⟩)
  obtain ⟨g₀, hfr⟩ := X'.frames_eq
  have hcell9 : ((T.setVm vm').setFrames (.throwing q :: below)).heap[q]? = some ce := by
    show T.heap[q]? = some ce
    rw [hT]; exact hcell
  have hend : Ended ((T.setVm vm').setFrames (.throwing q :: below)) below (.threw q) := State.frames_setFrames _ (State.cur_lt_of_frames hfr)
  refine ⟨(T.setVm vm').setFrames (.throwing q :: below), ?_, .threw q, X'.here.running, hend, Or.inr ⟨q, rfl, E, ce, locs, hx _ hT (X'.ends _).1.alike, hcell9, hv, hcl, (X'.ends _).1, (X'.ends _).2.mono hc hs, hf⟩⟩
  rw [X.pushThrowing_eq]
  exact st
/-- a thing of a world lies in the heap -/
theorem vx_lt {D : va_G} {cl : List vw_C} {ws : va_W} {H1 : Heap} (h : va_P D cl ws H1) {k : Nat} {q : Nat × va_E} (hk : ws[k]? = some q) : q.1 < H1.size := (h k q hk).lt
end VXS
/-! ===== END ===== -/
/-! ===== BEGIN methods with a table of their own: called by a name, returning or throwing ===== -/
section VXH
/-! vx_backW, vx_callVX, vx_callSX, vx_callVW, vx_runVW, vx_runVX, vx_runSX, vx_ofWH follow the same proofs as their sisters above (Free/Laws.lean, Shelf42/LK1.lean); vx_outP calls Shelf42/NT130.lean (outThrough). -/
section
variable {l : Launch} {R : Room} {p : Program} {e : Env} {below : List Frame} {s : State} {sargs : Array Value} {y : MethodName} {len W9 : Nat}
theorem vx_backW {ws : List Cond} {rm : Room} {Pc : Array Value → State → Prop} {Qc : Array Value → State → Outcome → State → Prop} {XC : String → State → State → Prop} {mc ms : Nat} {free : Addr → Prop} {bytes : ByteArray} {maxL : Nat} {ret : Option FieldType} {hh : List (Nat × Nat × Nat × Nat)}
    (hM : vx_Met l y ws rm Pc Qc XC mc ms free) (hblind : FrameBlind Pc) (hrc : rm.cells = mc) (hrs : rm.slots = ms)
    (hframes : rm.frames + 1 ≤ R.frames) (hlocals : W9 + (maxL + 11) + rm.locals ≤ R.locals)
    (hws : ∀ w ∈ ws, ∀ a' U, s.WarmedH U.vm → w.before a' U = true) (hcode : Cond.codeWith y bytes maxL ret hh ∈ ws) (hinit : ∀ a' U, s.WarmedH U.vm → (Cond.initialized y.cls).before a' U = true) :
    vx_Back l R p e below s sargs y len W9 (PreOf R mc ms Pc) (PostOf Qc mc ms free) (vx_Post XC mc ms free) := by
  intro m meth c A g ig mk a X hg hsize hdg hW hn hp
  have h1 : (headSpec ws rm).pre.before a A.U = true := atoms_intro fun w hw => hws w hw _ _ X.warmed
  have h2 : (Cond.codeWith y bytes maxL ret hh).before a A.U = true := hws _ hcode _ _ X.warmed
  have h3 : (Cond.initialized y.cls).before a A.U = true := hinit _ _ X.warmed
  have h4 : A.cells + (headSpec ws rm).room.cells ≤ R.cells := by rw [show (headSpec ws rm).room.cells = mc from hrc]; exact hp.1
  have h5 : A.slots + (headSpec ws rm).room.slots ≤ R.slots := by rw [show (headSpec ws rm).room.slots = ms from hrs]; exact hp.2.1
  have hPc : Pc a (A.U.calling g mk a) := hblind _ _ _ _ hp.2.2
  obtain ⟨U, Ls, c0, s0⟩ := A
  dsimp only [Pt.U, Pt.locs, Pt.cells, Pt.slots] at h1 h2 h3 h4 h5 X hn hPc ⊢
  obtain ⟨m9, methY, cY, hn9, hmY, hcY, -, hlY, -⟩ := Cond.codeWith_spec h2
  cases Option.some.inj (hn9.symm.trans hn)
  obtain ⟨kY, hkY, -⟩ := className_of_methodNamed hn
  have hinitY : kY.init = .initialized := Cond.initialized_spec (findClass_of_methodNamed hn) hkY h3
  have h : At U g.method c below := by rw [hg]; exact X.here
  have hlocals9 : W9 + (maxL + 11) + (headSpec ws rm).room.locals ≤ R.locals := hlocals
  have happ : (headSpec ws rm).appliesLoose y e.platform (U.calling g mk a) = true :=
    Spec.appliesLoose_calling (g := g) h hdg hn hkY hinitY
      (X.room_calling (g := g) (R' := (headSpec ws rm).room) hsize hmY hcY hframes (by rw [hlY]; omega) h4 h5) h1
  obtain ⟨mid, hmid⟩ := h.above
  have hfr : (U.setTop g).frames = (.java g :: mid) ++ below := by rw [State.frames_setTop' g h.top, hmid]; rfl
  obtain ⟨o, s₂, hsteps, -, hend, hq⟩ := Steps.callFree hM p X.admits X.cas X.clock (acts := []) hfr happ hPc trivial
  have hq' : vx_Q Qc XC mc ms free a (U.calling g mk a) o s₂ := hq
  rw [State.frames_setTop' g h.top] at hend
  obtain ⟨g₀, hg0⟩ := Option.isSome_iff_exists.mp h.top
  obtain ⟨r, hr⟩ := State.topJava?_eq_some.mp hg0
  have hr' : (({ U with heap := s₂.heap, slotsUsed := s₂.slotsUsed } : State).setVm s₂.vm).frames = .java g₀ :: r := hr
  rcases hq' with ⟨hqc, L, hfe, hL⟩ | ⟨q, rfl, E, ce, L, hx, hce, hcv, hcl, hW₂, hsm, hL⟩
  · obtain ⟨⟨v, rfl⟩, hW₂, e2, q2, q3, q4, q5, q6⟩ := id hfe
    have e3 : s₂ = ({ (U.calling g mk a).setFrames s₂.frames with heap := s₂.heap, slotsUsed := s₂.slotsUsed } : State).setVm s₂.vm := by
      have : s₂ = ({ s₂ with vm := (U.calling g mk a).vm } : State).setVm s₂.vm := rfl
      rw [e2] at this
      exact this
    obtain ⟨c₂, i₂, len₂, hc₂, hd₂, hf₂⟩ := hend
    have hW' : U.WarmedH s₂.vm := hW₂
    have hcc : c₂ = c := by
      have h1 : s₂.code? g.method = U.code? g.method := by
        rw [State.code?_eq, State.code?_eq, hW'.alike.method?]
      exact Option.some.inj (hc₂.symm.trans (h1.trans h.code))
    subst hcc
    have hlen : len₂ = len := by rw [hdg] at hd₂; cases hd₂; rfl
    subst hlen
    have hs₂ : s₂ = (({ U with heap := s₂.heap, slotsUsed := s₂.slotsUsed } : State).setVm s₂.vm).setTop { g with pc := g.pc + len₂, stack := v.toList ++ g.stack } := by
      refine e3.trans ?_
      rw [hf₂, State.calling_eq h.top, State.setFrames_setFrames, State.setTop_of_frames _ hr', hr]
      rfl
    have hsame : U.sameButNew ({ U with heap := s₂.heap, slotsUsed := s₂.slotsUsed } : State) L mc ms := by
      refine ⟨?_, q2, q3, q4, q5, q6⟩
      obtain ⟨t, ht, -⟩ := State.frames_cons hr
      show ({ U with heap := s₂.heap, slotsUsed := s₂.slotsUsed } : State) = { U.setFrames U.frames with heap := s₂.heap, slotsUsed := s₂.slotsUsed }
      rw [State.setFrames_self ht]
    subst hg
    refine Or.inl ⟨v, ⟨(({ U with heap := s₂.heap, slotsUsed := s₂.slotsUsed } : State).setVm s₂.vm), Ls ++ L, c0 + mc, s0 + ms⟩,
      ⟨X.admits, X.cas, X.clock, X.frames, X.room, X.hears, X.method, X.code, (X.here.setHeapUsed s₂.heap s₂.slotsUsed).setVm hW'.alike, X.tail, State.WarmedH.trans X.warmed hW', X.limits, X.bytes, X.same.trans (hsame.setVm s.vm)⟩,
      ⟨g, mk, s₂, L, rfl, rfl, hqc, rfl, hL, rfl, rfl⟩, ?_⟩
    show Steps p.tables e below _ ((({ U with heap := s₂.heap, slotsUsed := s₂.slotsUsed } : State).setVm s₂.vm).setTop { g with pc := g.pc + len₂, stack := v.toList ++ g.stack })
    rw [← hs₂]
    exact hsteps
  · obtain ⟨e2, q2, q3, q4, q5, q6⟩ := id hsm
    have e3 : s₂ = ({ (U.calling g mk a).setFrames s₂.frames with heap := s₂.heap, slotsUsed := s₂.slotsUsed } : State).setVm s₂.vm := by
      have : s₂ = ({ s₂ with vm := (U.calling g mk a).vm } : State).setVm s₂.vm := rfl
      rw [e2] at this
      exact this
    have hf₂ : s₂.frames = .throwing q :: .java g :: U.frames.tail := hend
    have hW' : U.WarmedH s₂.vm := hW₂
    have hs₂ : s₂ = ((({ U with heap := s₂.heap, slotsUsed := s₂.slotsUsed } : State).setVm s₂.vm).setTop g).pushFrame (.throwing q) := by
      refine e3.trans ?_
      rw [hf₂, State.calling_eq h.top, State.setFrames_setFrames, State.pushFrame, State.frames_setTop _ hr', State.setTop_of_frames _ hr', State.setFrames_setFrames, hr]
      rfl
    have hsame : U.sameButNew ({ U with heap := s₂.heap, slotsUsed := s₂.slotsUsed } : State) L mc ms := by
      refine ⟨?_, q2, q3, q4, q5, q6⟩
      obtain ⟨t, ht, -⟩ := State.frames_cons hr
      show ({ U with heap := s₂.heap, slotsUsed := s₂.slotsUsed } : State) = { U.setFrames U.frames with heap := s₂.heap, slotsUsed := s₂.slotsUsed }
      rw [State.setFrames_self ht]
    subst hg
    refine Or.inr ⟨q, ⟨(({ U with heap := s₂.heap, slotsUsed := s₂.slotsUsed } : State).setVm s₂.vm), Ls ++ L, c0 + mc, s0 + ms⟩,
      ⟨X.admits, X.cas, X.clock, X.frames, X.room, X.hears, X.method, X.code, (X.here.setHeapUsed s₂.heap s₂.slotsUsed).setVm hW'.alike, X.tail, State.WarmedH.trans X.warmed hW', X.limits, X.bytes, X.same.trans (hsame.setVm s.vm)⟩,
      ⟨g, mk, s₂, L, E, ce, rfl, rfl, hx, hce, hcv, hcl, rfl, hL, rfl, rfl⟩, ?_⟩
    show Steps p.tables e below _ (((({ U with heap := s₂.heap, slotsUsed := s₂.slotsUsed } : State).setVm s₂.vm).setTop g).pushFrame (.throwing q))
    rw [← hs₂]
    exact hsteps
end
variable {p : Program} {l : Launch} {e : Env} {R : Room} {s : State} {m : MethodId} {args : Array Value} {below : List Frame} {meth : Method} {c : Code} {T : State} {H : Heap} {locs : List Loc} {cells slots : Nat}
theorem vx_callVX (X : Stand p l e R s m args below meth c T locs cells slots) (hexec : p.tables.exec = Jvm.exec) {own C : String} {index : Nat} {y : MethodName} {bytes : ByteArray} {maxL : Nat} {ret : Option FieldType} {hh : List (Nat × Nat × Nat × Nat)}
    (hown : s.vm.findClass own = some m.cls) (hlink : (Cond.methodLink own index y).before args s = true) (hinst : (Cond.instanceMethod y).before args s = true) (hsel : (Cond.selects C y y).before args s = true)
    (hcode : (Cond.codeWith y bytes maxL ret hh).before args s = true) (hy : y.cls ≠ "java/lang/invoke/MethodHandle" ∧ y.cls ≠ "java/lang/invoke/VarHandle")
    {W9 : Nat} {Pre : Pt → Array Value → Prop} {Post : Pt → Array Value → Option Value → Pt → Prop} {PostX : Pt → Array Value → Addr → Pt → Prop} (hK : vx_Back l R p e below s args y 3 W9 Pre Post PostX)
    {b : Addr} {cellB : Cell} (hcell : T.heap[b]? = some cellB) (hobj : cellB.vm.isStatics = false) (hcls : s.vm.findClass C = some cellB.cls)
    {g : JFrame} (hg : g.method = m) (hsize : g.locals.size = c.maxLocals) {argsL rest : List Value} (hlen : ∀ sig, parseMethodDescriptor y.desc = some sig → argsL.length = sig.parameters.length)
    (hstack : g.stack = argsL.reverse ++ .ref b :: rest) (hW : 2 * g.monitorRoom + (rest.map fun v => v.category).sum ≤ W9) (hdg : decode c.code g.pc = .ok (.invokevirtual index, 3))
    (hpre : ∀ vm₁, s.WarmedH vm₁ → Pre ⟨T.setVm vm₁, locs, cells, slots⟩ (Value.ref b :: argsL).toArray) :
    (∃ (v : Option Value) (vm₁ : Vm) (B : Pt), s.WarmedH vm₁ ∧ Stand p l e R s m args below meth c B.U B.locs B.cells B.slots ∧ Post ⟨T.setVm vm₁, locs, cells, slots⟩ (Value.ref b :: argsL).toArray v B ∧
      ∀ target, Steps p.tables e below (B.U.setTop { g with pc := g.pc + 3, stack := v.toList ++ rest }) target → Steps p.tables e below (T.setTop g) target) ∨
    (∃ (q : Addr) (vm₁ : Vm) (B : Pt), s.WarmedH vm₁ ∧ Stand p l e R s m args below meth c B.U B.locs B.cells B.slots ∧ PostX ⟨T.setVm vm₁, locs, cells, slots⟩ (Value.ref b :: argsL).toArray q B ∧
      Steps p.tables e below (T.setTop g) ((B.U.setTop { g with stack := rest }).pushFrame (.throwing q))) := by
  obtain ⟨mk, methM, hnamed, hmethM, hstM, habM⟩ := Cond.instanceMethod_spec hinst
  obtain ⟨m8, methM', cM, hn8, hmethM', -, -, -, -, -, -, hsigM⟩ := Cond.codeWith_spec hcode
  cases Option.some.inj (hn8.symm.trans hnamed)
  cases hmethM.symm.trans hmethM'
  obtain ⟨c2, r2, m2, q1, q2, q3, q4, kP, hkP, hkPi⟩ := Cond.selects_spec hsel
  cases hcls.symm.trans q1
  cases (State.methodFound?_of_named hnamed hy).symm.trans q2
  cases hnamed.symm.trans q3
  have hselP : selectMethod e.platform s.vm cellB.cls mk = .method mk := by rw [Launch.admits_selectMethod X.admits]; exact q4
  obtain ⟨vm₁, X₁, hstep₁⟩ := X.invokevirtual hexec hown hlink hnamed hmethM hstM hkP hkPi hy (a := b) (cell := cellB) hcell
    (fun z h => by rw [h] at hobj; cases hobj) hselP hmethM habM hkP hkPi (g := g) hg (argsL := argsL) (rest := rest) (hlen _ hsigM) hstack hdg
  rcases hK m meth c ⟨T.setVm vm₁, locs, cells, slots⟩ { g with stack := rest } (.invokevirtual index) mk (Value.ref b :: argsL).toArray X₁ hg hsize hdg hW (X₁.named hnamed) (hpre vm₁ X₁.warmed) with ⟨v, B, X', hpost, hsteps⟩ | ⟨q, B, X', hpost, hsteps⟩
  · exact Or.inl ⟨v, vm₁, B, X₁.warmed, X', hpost, fun target h => hstep₁ _ fun acts => by rw [doInvoke_state]; exact hsteps.trans h⟩
  · exact Or.inr ⟨q, vm₁, B, X₁.warmed, X', hpost, hstep₁ _ fun acts => by rw [doInvoke_state]; exact hsteps⟩
theorem vx_callSX (X : Stand p l e R s m args below meth c T locs cells slots) (hexec : p.tables.exec = Jvm.exec) {own : String} {index : Nat} {y : MethodName} {bytes : ByteArray} {maxL : Nat} {ret : Option FieldType} {hh : List (Nat × Nat × Nat × Nat)}
    (hown : s.vm.findClass own = some m.cls) (hlink : (Cond.methodLink own index y).before args s = true) (hstat : (Cond.static y).before args s = true) (hinit : (Cond.initialized y.cls).before args s = true)
    (hcode : (Cond.codeWith y bytes maxL ret hh).before args s = true) (hy : y.cls ≠ "java/lang/invoke/MethodHandle" ∧ y.cls ≠ "java/lang/invoke/VarHandle")
    {W9 : Nat} {Pre : Pt → Array Value → Prop} {Post : Pt → Array Value → Option Value → Pt → Prop} {PostX : Pt → Array Value → Addr → Pt → Prop} (hK : vx_Back l R p e below s args y 3 W9 Pre Post PostX)
    {g : JFrame} (hg : g.method = m) (hsize : g.locals.size = c.maxLocals) {argsL rest : List Value} (hlen : ∀ sig, parseMethodDescriptor y.desc = some sig → argsL.length = sig.parameters.length)
    (hstack : g.stack = argsL.reverse ++ rest) (hW : 2 * g.monitorRoom + (rest.map fun v => v.category).sum ≤ W9) (hdg : decode c.code g.pc = .ok (.invokestatic index, 3))
    (hpre : ∀ vm₁, s.WarmedH vm₁ → Pre ⟨T.setVm vm₁, locs, cells, slots⟩ argsL.toArray) :
    (∃ (v : Option Value) (vm₁ : Vm) (B : Pt), s.WarmedH vm₁ ∧ Stand p l e R s m args below meth c B.U B.locs B.cells B.slots ∧ Post ⟨T.setVm vm₁, locs, cells, slots⟩ argsL.toArray v B ∧
      ∀ target, Steps p.tables e below (B.U.setTop { g with pc := g.pc + 3, stack := v.toList ++ rest }) target → Steps p.tables e below (T.setTop g) target) ∨
    (∃ (q : Addr) (vm₁ : Vm) (B : Pt), s.WarmedH vm₁ ∧ Stand p l e R s m args below meth c B.U B.locs B.cells B.slots ∧ PostX ⟨T.setVm vm₁, locs, cells, slots⟩ argsL.toArray q B ∧
      Steps p.tables e below (T.setTop g) ((B.U.setTop { g with stack := rest }).pushFrame (.throwing q))) := by
  obtain ⟨mk, methM, cM, hnamed, hmethM, -, -, -, -, -, -, hsigM⟩ := Cond.codeWith_spec hcode
  have hstatic : methM.isStatic = true := Cond.static_spec hnamed hmethM hstat
  obtain ⟨kP, hkP, -⟩ := className_of_methodNamed hnamed
  have hinitP : kP.init = .initialized := Cond.initialized_spec (findClass_of_methodNamed hnamed) hkP hinit
  obtain ⟨vm₁, X₁, hstep₁⟩ := X.invokestatic hexec hown hlink hnamed hmethM hstatic hkP hinitP hy (g := g) hg (argsL := argsL) (rest := rest) (hlen _ hsigM) hstack hdg
  rcases hK m meth c ⟨T.setVm vm₁, locs, cells, slots⟩ { g with stack := rest } (.invokestatic index) mk argsL.toArray X₁ hg hsize hdg hW (X₁.named hnamed) (hpre vm₁ X₁.warmed) with ⟨v, B, X', hpost, hsteps⟩ | ⟨q, B, X', hpost, hsteps⟩
  · exact Or.inl ⟨v, vm₁, B, X₁.warmed, X', hpost, fun target h => hstep₁ _ fun acts => by rw [doInvoke_state]; exact hsteps.trans h⟩
  · exact Or.inr ⟨q, vm₁, B, X₁.warmed, X', hpost, hstep₁ _ fun acts => by rw [doInvoke_state]; exact hsteps⟩
theorem vx_callVW (X : Stand p l e R s m args below meth c T locs cells slots) (hexec : p.tables.exec = Jvm.exec) {own C : String} {index : Nat} {y : MethodName} {bytes : ByteArray} {maxL : Nat} {ret : Option FieldType} {hh : List (Nat × Nat × Nat × Nat)}
    (hown : s.vm.findClass own = some m.cls) (hlink : (Cond.methodLink own index y).before args s = true) (hinst : (Cond.instanceMethod y).before args s = true) (hsel : (Cond.selects C y y).before args s = true)
    (hcode : (Cond.codeWith y bytes maxL ret hh).before args s = true) (hy : y.cls ≠ "java/lang/invoke/MethodHandle" ∧ y.cls ≠ "java/lang/invoke/VarHandle")
    {W9 : Nat} {Pre : Pt → Array Value → Prop} {Post : Pt → Array Value → Option Value → Pt → Prop} (hK : Back l R p e below s args y 3 W9 Pre Post)
    {b : Addr} {cellB : Cell} (hcell : T.heap[b]? = some cellB) (hobj : cellB.vm.isStatics = false) (hcls : s.vm.findClass C = some cellB.cls)
    {g : JFrame} (hg : g.method = m) (hsize : g.locals.size = c.maxLocals) {argsL rest : List Value} (hlen : ∀ sig, parseMethodDescriptor y.desc = some sig → argsL.length = sig.parameters.length)
    (hstack : g.stack = argsL.reverse ++ .ref b :: rest) (hW : 2 * g.monitorRoom + (rest.map fun v => v.category).sum ≤ W9) (hdg : decode c.code g.pc = .ok (.invokevirtual index, 3))
    (hpre : ∀ vm₁, s.WarmedH vm₁ → Pre ⟨T.setVm vm₁, locs, cells, slots⟩ (Value.ref b :: argsL).toArray) :
    ∃ (v : Option Value) (vm₁ : Vm) (B : Pt), s.WarmedH vm₁ ∧ Stand p l e R s m args below meth c B.U B.locs B.cells B.slots ∧ Post ⟨T.setVm vm₁, locs, cells, slots⟩ (Value.ref b :: argsL).toArray v B ∧
      ∀ target, Steps p.tables e below (B.U.setTop { g with pc := g.pc + 3, stack := v.toList ++ rest }) target → Steps p.tables e below (T.setTop g) target := by
  obtain ⟨mk, methM, hnamed, hmethM, hstM, habM⟩ := Cond.instanceMethod_spec hinst
  obtain ⟨m8, methM', cM, hn8, hmethM', -, -, -, -, -, -, hsigM⟩ := Cond.codeWith_spec hcode
  cases Option.some.inj (hn8.symm.trans hnamed)
  cases hmethM.symm.trans hmethM'
  obtain ⟨c2, r2, m2, q1, q2, q3, q4, kP, hkP, hkPi⟩ := Cond.selects_spec hsel
  cases hcls.symm.trans q1
  cases (State.methodFound?_of_named hnamed hy).symm.trans q2
  cases hnamed.symm.trans q3
  have hselP : selectMethod e.platform s.vm cellB.cls mk = .method mk := by rw [Launch.admits_selectMethod X.admits]; exact q4
  obtain ⟨vm₁, X₁, hstep₁⟩ := X.invokevirtual hexec hown hlink hnamed hmethM hstM hkP hkPi hy (a := b) (cell := cellB) hcell
    (fun z h => by rw [h] at hobj; cases hobj) hselP hmethM habM hkP hkPi (g := g) hg (argsL := argsL) (rest := rest) (hlen _ hsigM) hstack hdg
  obtain ⟨v, B, X', hpost, hsteps⟩ := hK m meth c ⟨T.setVm vm₁, locs, cells, slots⟩ { g with stack := rest } (.invokevirtual index) mk (Value.ref b :: argsL).toArray X₁ hg hsize hdg hW (X₁.named hnamed) (hpre vm₁ X₁.warmed)
  exact ⟨v, vm₁, B, X₁.warmed, X', hpost, fun target h => hstep₁ _ fun acts => by rw [doInvoke_state]; exact hsteps.trans h⟩
abbrev vx_CVW (R : Room) (s : State) (args : Array Value) (own C : String) (index : Nat) (y : MethodName) (bytes : ByteArray) (maxL : Nat) (ret : Option FieldType) (hh : List (Nat × Nat × Nat × Nat)) (ws : List Cond) (rm : Room) (mc ms n : Nat) : Prop :=
  (rm.cells = mc ∧ rm.slots = ms ∧ rm.frames + 1 ≤ R.frames ∧ 8 + (maxL + 11) + rm.locals ≤ R.locals ∧ (∀ w ∈ ws, ∀ (a' : Array Value) (U : State), s.WarmedH U.vm → w.before a' U = true) ∧ Cond.codeWith y bytes maxL ret hh ∈ ws) ∧
  (Cond.codeWith y bytes maxL ret hh).before args s = true ∧ (Cond.initialized y.cls).before args s = true ∧ (y.cls ≠ "java/lang/invoke/MethodHandle" ∧ y.cls ≠ "java/lang/invoke/VarHandle") ∧
  (∀ sig, parseMethodDescriptor y.desc = some sig → n = sig.parameters.length) ∧ (Cond.methodLink own index y).before args s = true ∧ (Cond.instanceMethod y).before args s = true ∧ (Cond.selects C y y).before args s = true
theorem vx_cwVW {own C : String} {index maxL mc ms : Nat} {y : MethodName} {bytes : ByteArray} {ret : Option FieldType} {hh : List (Nat × Nat × Nat × Nat)} {Ts ws ws' : List Cond} {rm : Room} (n : Nat) (ht : ∀ w ∈ Ts, w.before args s = true) (hT : GoodIn Ts (wsV own index C y ws)) (hw : ws = Cond.codeWith y bytes maxL ret hh :: ws') (hrc : rm.cells = mc) (hrs : rm.slots = ms)
    (hd : y.cls = C ∧ y.cls ≠ "java/lang/invoke/MethodHandle" ∧ y.cls ≠ "java/lang/invoke/VarHandle" ∧ (parseMethodDescriptor y.desc).map (fun d => d.parameters.length) = some n) (hR : rm.frames + 1 ≤ R.frames ∧ 8 + (maxL + 11) + rm.locals ≤ R.locals) :
    vx_CVW R s args own C index y bytes maxL ret hh ws rm mc ms n := by
  obtain ⟨hC, hd⟩ := hd
  subst hC
  have ok : ∀ w ∈ wsV own index y.cls y ws, w.before args s = true := fun w h => ht w (hT w h).1
  have hG : GoodIn Ts ws := fun w h => hT w (by unfold wsV; exact List.mem_append_right _ h)
  have hc : Cond.codeWith y bytes maxL ret hh ∈ ws := by rw [hw]; exact List.mem_cons_self
  refine ⟨⟨hrc, hrs, hR.1, hR.2, pay_in ht hG, hc⟩, ht _ (hG _ hc).1, ok _ (by simp [wsV]), ⟨hd.1, hd.2.1⟩, fun sig h => ?_, ok _ (by simp [wsV]), ok _ (by simp [wsV]), ok _ (by simp [wsV])⟩
  have h2 := hd.2.2
  rw [h] at h2
  exact (Option.some.inj h2).symm
theorem vx_runVW {y : MethodName} {bytes cc : ByteArray} {maxL nL mc ms n index : Nat} {ret : Option FieldType} {hh : List (Nat × Nat × Nat × Nat)} {ws : List Cond} {rm : Room} {Pc : Array Value → State → Prop} {Qc : Array Value → State → Outcome → State → Prop} {free : Addr → Prop} {Ts : List Cond} {own C : String} {b : Addr} {As rest : List Value} {g : JFrame}
    (S : CallFix p m c cc nL s args Ts own) (hM : Met l y ws rm Pc Qc mc ms free) (cw : vx_CVW R s args own C index y bytes maxL ret hh ws rm mc ms n) (hp : PreV s H C b Pc As)
    (hg : g.method = m) (hn : As.length = n) (hsize : g.locals.size = nL) (hstack : g.stack = As.reverse ++ .ref b :: rest) (hW : 2 * g.monitorRoom + (rest.map fun v => v.category).sum ≤ 8) (hdg : decode cc g.pc = .ok (.invokevirtual index, 3)) (hf : cells + mc ≤ R.cells ∧ slots + ms ≤ R.slots) :
    va_Run p l e R s m args below meth c H locs cells slots mc ms g rest (Qc (Value.ref b :: As).toArray) free := by
  obtain ⟨⟨hrc, hrs, hfr, hlo, hws, hcw⟩, hcode, hini, hy, hlen, hl, hin, hse⟩ := cw
  have hK : Back l R p e below s args y 3 8 (PreOf R mc ms Pc) (PostOf Qc mc ms free) := va_backW (hh := hh) (bytes := bytes) (maxL := maxL) (ret := ret) hM hp.1 hrc hrs hfr hlo hws hcw (fun a' U hW => word_at hW (Or.inl (by first | rfl | simp [Cond.onTables, Cond.keeps, Cond.steady])) hini)
  obtain ⟨hx, hb, hml, ho, -⟩ := S
  obtain ⟨-, ⟨cellB, hcB, hoB, hclB⟩, hPc⟩ := hp
  intro T hT X
  obtain ⟨v, vm₁, ⟨U', l2, c2, s2⟩, hW₁, X', ⟨g', mk, t, L, e1, e2, hq, h1, hL, h2, h3⟩, st⟩ := vx_callVW X hx (C := C) (hh := hh) (bytes := bytes) (maxL := maxL) (ret := ret) ho hl hin hse hcode hy hK (by rw [hT]; exact hcB) hoB hclB hg (hsize.trans hml.symm) (argsL := As) (rest := rest) (fun sig h => hn.trans (hlen sig h)) hstack hW (by rw [hb]; exact hdg)
    (fun vm₁ hW₁ => ⟨hf.1, hf.2, hPc (T.setVm vm₁) hT hW₁⟩)
  dsimp only [Pt.U, Pt.locs, Pt.cells, Pt.slots] at X' e1 e2 h1 h2 h3 st
  subst h1; subst h2; subst h3
  exact ⟨v, (T.setVm vm₁).calling g' mk (Value.ref b :: As).toArray, t, U', L, hT, X', hL, e1, e2, hq, st⟩
section
variable {y : MethodName} {bytes cc : ByteArray} {maxL nL mc ms n index : Nat} {ret : Option FieldType} {ws : List Cond} {rm : Room} {Pc : Array Value → State → Prop} {Qc : Array Value → State → Outcome → State → Prop} {XC : String → State → State → Prop} {free : Addr → Prop} {Ts : List Cond} {own C : String} {b : Addr} {As rest : List Value} {g : JFrame}
theorem vx_runVX {hh : List (Nat × Nat × Nat × Nat)} (S : CallFix p m c cc nL s args Ts own) (hM : vx_Met l y ws rm Pc Qc XC mc ms free) (cw : vx_CVW R s args own C index y bytes maxL ret hh ws rm mc ms n) (hp : PreV s H C b Pc As)
    (hg : g.method = m) (hn : As.length = n) (hsize : g.locals.size = nL) (hstack : g.stack = As.reverse ++ .ref b :: rest) (hW : 2 * g.monitorRoom + (rest.map fun v => v.category).sum ≤ 8) (hdg : decode cc g.pc = .ok (.invokevirtual index, 3)) (hf : cells + mc ≤ R.cells ∧ slots + ms ≤ R.slots) :
    vx_Run p l e R s m args below meth c H locs cells slots mc ms g rest (Qc (Value.ref b :: As).toArray) XC free := by
  obtain ⟨⟨hrc, hrs, hfr, hlo, hws, hcw⟩, hcode, hini, hy, hlen, hl, hin, hse⟩ := cw
  have hK : vx_Back l R p e below s args y 3 8 (PreOf R mc ms Pc) (PostOf Qc mc ms free) (vx_Post XC mc ms free) := vx_backW (hh := hh) (bytes := bytes) (maxL := maxL) (ret := ret) hM hp.1 hrc hrs hfr hlo hws hcw (fun a' U hW => word_at hW (Or.inl (by first | rfl | simp [Cond.onTables, Cond.keeps, Cond.steady])) hini)
  obtain ⟨hx, hb, hml, ho, -⟩ := S
  obtain ⟨-, ⟨cellB, hcB, hoB, hclB⟩, hPc⟩ := hp
  intro T hT X
  rcases vx_callVX X hx (C := C) (hh := hh) (bytes := bytes) (maxL := maxL) (ret := ret) ho hl hin hse hcode hy hK (by rw [hT]; exact hcB) hoB hclB hg (hsize.trans hml.symm) (argsL := As) (rest := rest) (fun sig h => hn.trans (hlen sig h)) hstack hW (by rw [hb]; exact hdg)
    (fun vm₁ hW₁ => ⟨hf.1, hf.2, hPc (T.setVm vm₁) hT hW₁⟩) with ⟨v, vm₁, ⟨U', l2, c2, s2⟩, hW₁, X', ⟨g', mk, t, L, e1, e2, hq, h1, hL, h2, h3⟩, st⟩ | ⟨q, vm₁, ⟨U', l2, c2, s2⟩, hW₁, X', ⟨g', mk, t, L, E, ce, e1, e2, hq, hce, hcv, hcl, h1, hL, h2, h3⟩, st⟩
  · dsimp only [Pt.U, Pt.locs, Pt.cells, Pt.slots] at X' e1 e2 h1 h2 h3 st
    subst h1; subst h2; subst h3
    exact Or.inl ⟨v, (T.setVm vm₁).calling g' mk (Value.ref b :: As).toArray, t, U', L, hT, X', hL, e1, e2, hq, st⟩
  · dsimp only [Pt.U, Pt.locs, Pt.cells, Pt.slots] at X' e1 e2 h1 h2 h3 st hcl
    subst h1; subst h2; subst h3
    exact Or.inr ⟨q, (T.setVm vm₁).calling g' mk (Value.ref b :: As).toArray, t, U', L, E, ce, hT, X', hL, e1, e2, hq, hce, hcv, vx_cls hW₁ hcl, st⟩
theorem vx_runSX {hh : List (Nat × Nat × Nat × Nat)} (S : CallFix p m c cc nL s args Ts own) (hM : vx_Met l y ws rm Pc Qc XC mc ms free) (cw : vx_CSW R s args own index y bytes maxL ret hh ws rm mc ms n) (hp : PreS s H Pc As)
    (hg : g.method = m) (hn : As.length = n) (hsize : g.locals.size = nL) (hstack : g.stack = As.reverse ++ rest) (hW : 2 * g.monitorRoom + (rest.map fun v => v.category).sum ≤ 8) (hdg : decode cc g.pc = .ok (.invokestatic index, 3)) (hf : cells + mc ≤ R.cells ∧ slots + ms ≤ R.slots) :
    vx_Run p l e R s m args below meth c H locs cells slots mc ms g rest (Qc As.toArray) XC free := by
  obtain ⟨⟨hrc, hrs, hfr, hlo, hws, hcw⟩, hcode, hini, hy, hlen, hl, hstt⟩ := cw
  have hK : vx_Back l R p e below s args y 3 8 (PreOf R mc ms Pc) (PostOf Qc mc ms free) (vx_Post XC mc ms free) := vx_backW (hh := hh) (bytes := bytes) (maxL := maxL) (ret := ret) hM hp.1 hrc hrs hfr hlo hws hcw (fun a' U hW => word_at hW (Or.inl (by first | rfl | simp [Cond.onTables, Cond.keeps, Cond.steady])) hini)
  obtain ⟨hx, hb, hml, ho, -⟩ := S
  intro T hT X
  rcases vx_callSX X hx (hh := hh) (bytes := bytes) (maxL := maxL) (ret := ret) ho hl hstt hini hcode hy hK hg (hsize.trans hml.symm) (argsL := As) (rest := rest) (fun sig h => hn.trans (hlen sig h)) hstack hW (by rw [hb]; exact hdg)
    (fun vm₁ hW₁ => ⟨hf.1, hf.2, hp.2 (T.setVm vm₁) hT hW₁⟩) with ⟨v, vm₁, ⟨U', l2, c2, s2⟩, hW₁, X', ⟨g', mk, t, L, e1, e2, hq, h1, hL, h2, h3⟩, st⟩ | ⟨q, vm₁, ⟨U', l2, c2, s2⟩, hW₁, X', ⟨g', mk, t, L, E, ce, e1, e2, hq, hce, hcv, hcl, h1, hL, h2, h3⟩, st⟩
  · dsimp only [Pt.U, Pt.locs, Pt.cells, Pt.slots] at X' e1 e2 h1 h2 h3 st
    subst h1; subst h2; subst h3
    exact Or.inl ⟨v, (T.setVm vm₁).calling g' mk As.toArray, t, U', L, hT, X', hL, e1, e2, hq, st⟩
  · dsimp only [Pt.U, Pt.locs, Pt.cells, Pt.slots] at X' e1 e2 h1 h2 h3 st hcl
    subst h1; subst h2; subst h3
    exact Or.inr ⟨q, (T.setVm vm₁).calling g' mk As.toArray, t, U', L, E, ce, hT, X', hL, e1, e2, hq, hce, hcv, vx_cls hW₁ hcl, st⟩
end
end VXH
theorem vx_ofWH {l : Launch} {y : MethodName} {ws ws' : List Cond} {rm : Room} {Pc : Array Value → State → Prop} {Qc : Array Value → State → Outcome → State → Prop} {XC : String → State → State → Prop} {mc ms : Nat} {free : Addr → Prop} {cc : ByteArray} {maxL : Nat} {ret : Option FieldType} {hh : List (Nat × Nat × Nat × Nat)}
    (hy : plainName y.cls = true) (hw : ws = Cond.codeWith y cc maxL ret hh :: ws')
    (body : ∀ p e s m args below meth c s₁, BodyLoose p l y (headSpec ws rm) cc maxL ret e s m args below meth c s₁ → c.maxLocals = maxL → Pc args s →
      W p l e (headSpec ws rm).room s m args below meth c s.heap [] 0 0 (vx_MQ below Qc XC args s mc ms free) (entryFrame m args maxL)) : vx_Met l y ws rm Pc Qc XC mc ms free := by
  refine MetFree.of_bodyS (code := cc) (maxLocals := maxL) (ret := ret) hy ?_ ?_
  · intro args s m h hn
    obtain ⟨m9, meth, c, hn9, h1, h2, h3, h4, -, h5, h6, -⟩ := Cond.codeWith_spec (atoms_spec (ws := ws) h _ (by rw [hw]; exact List.mem_cons_self))
    cases hn.symm.trans hn9
    exact ⟨meth, c, h1, h2, h3, h4, h5, h6⟩
  · intro p e s m args below meth c s₁ B hml hP _
    have hh0 : s₁.heap = s.heap := by rw [B.state]; rfl
    obtain ⟨t, a1, o, b1, b2, b3⟩ := body p e s m args below meth c s₁ B hml hP s₁ hh0 (Stand.of_body B)
    exact ⟨t, o, a1, b1, b2, b3⟩
/-! ===== END ===== -/
end
section
/-! the words, the classes, the types of arrays that this claim speaks of -/
abbrev aw_J : Type := Nat → Option va_E
/-- launch, places of classes and slots, array classes, the constants of State, the script: its address, length, ints -/
abbrev aw_G : Type := Launch × va_G × (Nat → ClassId) × (Nat → Nat) × Nat × Nat × (Nat → Int32)
def aw_nw : Cond → Bool
  | .fieldLinkNest .. => true
  | .methodLinkNest .. => true
  | .declares .. => true
  | .castable .. => true
  | _ => false
def aw_TB : List Cond := lw_tbl.filter goodWord
def aw_NB : List Cond := lw_tbl.filter aw_nw
theorem aw_TB_good : ∀ w ∈ aw_TB, (w.onTables && w.keeps) = true ∨ ∃ ty, w = .arrayClass ty := fun w hw => good_of_word (List.mem_filter.mp hw).2
theorem aw_NB_nw : ∀ w ∈ aw_NB, aw_nw w = true := fun w hw => (List.mem_filter.mp hw).2
theorem aw_tb {w : Cond} (h : w ∈ lw_tbl) (hg : goodWord w = true) : w ∈ aw_TB := List.mem_filter.mpr ⟨h, hg⟩
theorem aw_nb {w : Cond} (h : w ∈ lw_tbl) (hg : aw_nw w = true) : w ∈ aw_NB := List.mem_filter.mpr ⟨h, hg⟩
def tn_A : u_T := fun k => match k with
  | 0 => ("ScopeTree$Archive", "files", "[LScopeTree$ClassFile;", true)
  | 1 => ("ScopeTree$Archive", "fileCount", "I", false)
  | 2 => ("ScopeTree$Archive", "descriptors", "[LScopeTree$Descriptor;", true)
  | _ => ("ScopeTree$Archive", "descriptorCount", "I", false)
def ty_A : Nat → FieldType := fun k => match k with
  | 0 => .array (.object "ScopeTree$ClassFile")
  | 1 => .int
  | 2 => .array (.object "ScopeTree$Descriptor")
  | _ => .int
def tn_C : u_T := fun k => match k with
  | 0 => ("ScopeTree$ClassFile", "name", "I", true)
  | 1 => ("ScopeTree$ClassFile", "superName", "I", true)
  | _ => ("ScopeTree$ClassFile", "version", "I", true)
def ty_C : Nat → FieldType := fun k => match k with
  | 0 => .int
  | 1 => .int
  | _ => .int
def tn_D : u_T := fun k => match k with
  | 0 => ("ScopeTree$Descriptor", "plugin", "I", true)
  | _ => ("ScopeTree$Descriptor", "name", "I", true)
def ty_D : Nat → FieldType := fun k => match k with
  | 0 => .int
  | _ => .int
def tn_F : u_T := fun k => match k with
  | 0 => ("ScopeTree$Filter", "packages", "I", true)
  | 1 => ("ScopeTree$Filter", "allowed", "J", true)
  | _ => ("ScopeTree$Filter", "denied", "J", true)
def ty_F : Nat → FieldType := fun k => match k with
  | 0 => .int
  | 1 => .long
  | _ => .long
def tn_L : u_T := fun k => match k with
  | 0 => ("ScopeTree$Loader", "number", "I", true)
  | 1 => ("ScopeTree$Loader", "kind", "I", true)
  | 2 => ("ScopeTree$Loader", "parent", "LScopeTree$Loader;", true)
  | 3 => ("ScopeTree$Loader", "contents", "[LScopeTree$Archive;", true)
  | 4 => ("ScopeTree$Loader", "filter", "LScopeTree$Filter;", true)
  | 5 => ("ScopeTree$Loader", "holders", "I", false)
  | 6 => ("ScopeTree$Loader", "definedCount", "I", false)
  | _ => ("ScopeTree$Loader", "isGone", "Z", false)
def ty_L : Nat → FieldType := fun k => match k with
  | 0 => .int
  | 1 => .int
  | 2 => .object "ScopeTree$Loader"
  | 3 => .array (.object "ScopeTree$Archive")
  | 4 => .object "ScopeTree$Filter"
  | 5 => .int
  | 6 => .int
  | _ => .boolean
def tn_P : u_T := fun k => match k with
  | 0 => ("ScopeTree$Path", "archives", "[I", true)
  | _ => ("ScopeTree$Path", "length", "I", false)
def ty_P : Nat → FieldType := fun k => match k with
  | 0 => .array (.int)
  | _ => .int
def tn_S : u_T := fun k => match k with
  | 0 => ("ScopeTree$Scope", "parent", "LScopeTree$Scope;", true)
  | 1 => ("ScopeTree$Scope", "localPath", "LScopeTree$Path;", true)
  | 2 => ("ScopeTree$Scope", "exportPath", "LScopeTree$Path;", true)
  | 3 => ("ScopeTree$Scope", "filter", "LScopeTree$Filter;", false)
  | 4 => ("ScopeTree$Scope", "state", "LScopeTree$State;", false)
  | 5 => ("ScopeTree$Scope", "baseLoader", "LScopeTree$Loader;", false)
  | 6 => ("ScopeTree$Scope", "exportLoader", "LScopeTree$Loader;", false)
  | 7 => ("ScopeTree$Scope", "localLoader", "LScopeTree$Loader;", false)
  | 8 => ("ScopeTree$Scope", "applied", "[LScopeTree$Type;", true)
  | _ => ("ScopeTree$Scope", "appliedCount", "I", false)
def ty_S : Nat → FieldType := fun k => match k with
  | 0 => .object "ScopeTree$Scope"
  | 1 => .object "ScopeTree$Path"
  | 2 => .object "ScopeTree$Path"
  | 3 => .object "ScopeTree$Filter"
  | 4 => .object "ScopeTree$State"
  | 5 => .object "ScopeTree$Loader"
  | 6 => .object "ScopeTree$Loader"
  | 7 => .object "ScopeTree$Loader"
  | 8 => .array (.object "ScopeTree$Type")
  | _ => .int
def tn_Y : u_T := fun k => match k with
  | 0 => ("ScopeTree$Type", "number", "I", true)
  | 1 => ("ScopeTree$Type", "name", "I", true)
  | 2 => ("ScopeTree$Type", "version", "I", true)
  | 3 => ("ScopeTree$Type", "definer", "LScopeTree$Loader;", true)
  | _ => ("ScopeTree$Type", "superType", "LScopeTree$Type;", true)
def ty_Y : Nat → FieldType := fun k => match k with
  | 0 => .int
  | 1 => .int
  | 2 => .int
  | 3 => .object "ScopeTree$Loader"
  | _ => .object "ScopeTree$Type"
def tn_T : u_T := fun k => match k with
  | 0 => ("ScopeTree", "archives", "[LScopeTree$Archive;", true)
  | 1 => ("ScopeTree", "scopes", "[LScopeTree$Scope;", true)
  | 2 => ("ScopeTree", "scopeCount", "I", false)
  | 3 => ("ScopeTree", "loaders", "[LScopeTree$Loader;", true)
  | 4 => ("ScopeTree", "types", "[LScopeTree$Type;", true)
  | 5 => ("ScopeTree", "typeCount", "I", false)
  | 6 => ("ScopeTree", "openLoaders", "[LScopeTree$Loader;", true)
  | _ => ("ScopeTree", "openNames", "[I", true)
def ty_T : Nat → FieldType := fun k => match k with
  | 0 => .array (.object "ScopeTree$Archive")
  | 1 => .array (.object "ScopeTree$Scope")
  | 2 => .int
  | 3 => .array (.object "ScopeTree$Loader")
  | 4 => .array (.object "ScopeTree$Type")
  | 5 => .int
  | 6 => .array (.object "ScopeTree$Loader")
  | _ => .array (.int)
def tn_M : u_T := fun k => match k with
  | 0 => ("ScopeTreeModel", "thrown", "I", false)
  | 1 => ("ScopeTreeModel", "files", "[I", true)
  | 2 => ("ScopeTreeModel", "file", "[I", true)
  | 3 => ("ScopeTreeModel", "descriptors", "[I", true)
  | 4 => ("ScopeTreeModel", "descriptor", "[I", true)
  | 5 => ("ScopeTreeModel", "there", "[Z", true)
  | 6 => ("ScopeTreeModel", "kind", "[I", true)
  | 7 => ("ScopeTreeModel", "parent", "[I", true)
  | 8 => ("ScopeTreeModel", "pathLength", "[I", true)
  | 9 => ("ScopeTreeModel", "filterPackages", "[I", true)
  | 10 => ("ScopeTreeModel", "filterAllowed", "[J", true)
  | 11 => ("ScopeTreeModel", "filterDenied", "[J", true)
  | 12 => ("ScopeTreeModel", "scopes", "I", false)
  | 13 => ("ScopeTreeModel", "state", "[I", true)
  | 14 => ("ScopeTreeModel", "above", "[I", true)
  | 15 => ("ScopeTreeModel", "paths", "[I", true)
  | 16 => ("ScopeTreeModel", "lengths", "[I", true)
  | 17 => ("ScopeTreeModel", "filtered", "[Z", true)
  | 18 => ("ScopeTreeModel", "packages", "[I", true)
  | 19 => ("ScopeTreeModel", "allowed", "[J", true)
  | 20 => ("ScopeTreeModel", "denied", "[J", true)
  | 21 => ("ScopeTreeModel", "three", "[I", true)
  | 22 => ("ScopeTreeModel", "applied", "[I", true)
  | 23 => ("ScopeTreeModel", "appliedCount", "[I", true)
  | 24 => ("ScopeTreeModel", "classes", "I", false)
  | 25 => ("ScopeTreeModel", "nameOf", "[I", true)
  | 26 => ("ScopeTreeModel", "loaderOf", "[I", true)
  | 27 => ("ScopeTreeModel", "versionOf", "[I", true)
  | 28 => ("ScopeTreeModel", "superOf", "[I", true)
  | 29 => ("ScopeTreeModel", "foundLoader", "I", false)
  | 30 => ("ScopeTreeModel", "foundFile", "I", false)
  | 31 => ("ScopeTreeModel", "waitingLoader", "[I", true)
  | _ => ("ScopeTreeModel", "waitingFile", "[I", true)
def ty_M : Nat → FieldType := fun k => match k with
  | 0 => .int
  | 1 => .array (.int)
  | 2 => .array (.int)
  | 3 => .array (.int)
  | 4 => .array (.int)
  | 5 => .array (.boolean)
  | 6 => .array (.int)
  | 7 => .array (.int)
  | 8 => .array (.int)
  | 9 => .array (.int)
  | 10 => .array (.long)
  | 11 => .array (.long)
  | 12 => .int
  | 13 => .array (.int)
  | 14 => .array (.int)
  | 15 => .array (.int)
  | 16 => .array (.int)
  | 17 => .array (.boolean)
  | 18 => .array (.int)
  | 19 => .array (.long)
  | 20 => .array (.long)
  | 21 => .array (.int)
  | 22 => .array (.int)
  | 23 => .array (.int)
  | 24 => .int
  | 25 => .array (.int)
  | 26 => .array (.int)
  | 27 => .array (.int)
  | 28 => .array (.int)
  | 29 => .int
  | 30 => .int
  | 31 => .array (.int)
  | _ => .array (.int)
def aw_cl : List vw_C := [("ScopeTree$Archive", tn_A, 4), ("ScopeTree$ClassFile", tn_C, 3), ("ScopeTree$Descriptor", tn_D, 2), ("ScopeTree$Filter", tn_F, 3), ("ScopeTree$Loader", tn_L, 8), ("ScopeTree$Path", tn_P, 2), ("ScopeTree$Scope", tn_S, 10), ("ScopeTree$Type", tn_Y, 5), ("ScopeTree", tn_T, 8), ("ScopeTreeModel", tn_M, 33)]
def aw_tys (G : aw_G) : List (ClassId × FieldType) := [(G.2.2.1 0, .int), (G.2.2.1 1, .boolean), (G.2.2.1 2, .long), (G.2.2.1 3, .object "ScopeTree$Archive"), (G.2.2.1 4, .object "ScopeTree$Scope"), (G.2.2.1 5, .object "ScopeTree$Loader"), (G.2.2.1 6, .object "ScopeTree$Type"), (G.2.2.1 7, .object "ScopeTree$ClassFile"), (G.2.2.1 8, .object "ScopeTree$Descriptor")]
def aw_AO : List String := ["ScopeTree$Archive", "ScopeTree$Scope", "ScopeTree$Loader", "ScopeTree$Type", "ScopeTree$ClassFile", "ScopeTree$Descriptor"]
def aw_SB : List (String × Nat × String) := [("ScopeTree", 137, "no such archive"), ("ScopeTree", 86, "no name of a class file"), ("ScopeTree", 91, "no such super or version"), ("ScopeTree", 104, "the archive is full of class files"), ("ScopeTree", 110, "no such plugin or name"), ("ScopeTree", 121, "the archive is full of descriptors"), ("ScopeTree", 275, "no such scope"), ("ScopeTree", 133, "the parent is released"), ("ScopeTree", 135, "no scope number is left"), ("ScopeTree", 282, "the scope is locked or released"), ("ScopeTree", 155, "no such set of packages"), ("ScopeTree", 170, "the parent is not locked"), ("ScopeTree", 178, "too few loader numbers are free"), ("ScopeTree", 195, "scope 0 is never released"), ("ScopeTree", 201, "released, or a child is not"), ("ScopeTree", 215, "no such name"), ("ScopeTree", 284, "the scope is not locked, or released"), ("ScopeTree", 341, "circular"), ("ScopeTree", 343, "deep"), ("ScopeTree", 348, "link error"), ("ScopeTree", 354, "no class number is left"), ("ScopeTree", 319, "no class of that name is found"), ("ScopeTree", 277, "no such class"), ("ScopeTree", 248, "no such question about a class"), ("ScopeTree", 255, "no such plugin")]
def aw_NC : List (String × String) := [("java/lang/IllegalStateException", "java/lang/IllegalArgumentException"), ("java/lang/UnsupportedOperationException", "java/lang/IllegalArgumentException"), ("java/util/NoSuchElementException", "java/lang/IllegalArgumentException"), ("java/lang/IllegalArgumentException", "java/lang/IllegalStateException"), ("java/lang/UnsupportedOperationException", "java/lang/IllegalStateException"), ("java/util/NoSuchElementException", "java/lang/IllegalStateException"), ("java/lang/IllegalArgumentException", "java/lang/UnsupportedOperationException"), ("java/lang/IllegalStateException", "java/lang/UnsupportedOperationException"), ("java/util/NoSuchElementException", "java/lang/UnsupportedOperationException"), ("java/lang/IllegalArgumentException", "java/util/NoSuchElementException"), ("java/lang/IllegalStateException", "java/util/NoSuchElementException"), ("java/lang/UnsupportedOperationException", "java/util/NoSuchElementException")]
def aw_En : String := "ScopeTree$State"
def aw_en : List String := ["OPEN", "LOCKED", "RELEASED"]
end
section
/-! AW: a light judgement over the machine. The heap is a function from addresses to cells (aw_J); all that is steady (code, tables, statics, room) is hidden in aw_W. One row an instruction. -/
abbrev aw_O : Type := Option Value ⊕ String
/-- method: name, bytes, number of locals, type of the answer, table of handlers -/
abbrev aw_M : Type := MethodName × ByteArray × Nat × Option FieldType × List (Nat × Nat × Nat × Nat)
def aw_up (J : aw_J) (a : Nat) (e : va_E) : aw_J := fun b => if b = a then some e else J b
theorem aw_up_s {J : aw_J} {a : Nat} {e : va_E} : aw_up J a e a = some e := by simp [aw_up]
theorem aw_up_n {J : aw_J} {a b : Nat} {e : va_E} (h : b ≠ a) : aw_up J a e b = J b := by simp [aw_up, h]
/-- the heap holds J, and J lies in A -/
def aw_R (G : aw_G) (A : Nat → Prop) (J : aw_J) (H : Heap) : Prop := ∃ ws : va_W, va_P G.2.1 aw_cl ws H ∧ va_D A ws ∧ ∀ (a : Nat) (e : va_E), J a = some e → ∃ k : Nat, ws[k]? = some (a, e)
theorem aw_R.put {J : aw_J} {ws : va_W} {k a : Nat} {e0 e1 : va_E} (hJ : ∀ (a : Nat) (e : va_E), J a = some e → ∃ k : Nat, ws[k]? = some (a, e)) (hk : ws[k]? = some (a, e0)) :
    ∀ (b : Nat) (e : va_E), aw_up J a e1 b = some e → ∃ j : Nat, (ws.set k (a, e1))[j]? = some (b, e) := by
  intro b e hb
  have hlt : k < ws.length := (List.getElem?_eq_some_iff.mp hk).1
  by_cases h : b = a
  · subst h
    rw [aw_up_s] at hb
    cases hb
    exact ⟨k, by simp [hlt]⟩
  · rw [aw_up_n h] at hb
    obtain ⟨j, hj⟩ := hJ b e hb
    have hne : k ≠ j := by
      intro hkj
      subst hkj
      rw [hk] at hj
      cases hj
      exact h rfl
    exact ⟨j, by rw [List.getElem?_set_ne hne]; exact hj⟩
theorem aw_R.push {J : aw_J} {ws : va_W} {q : Nat} {e1 : va_E} (hJ : ∀ (a : Nat) (e : va_E), J a = some e → ∃ k : Nat, ws[k]? = some (a, e)) :
    ∀ (b : Nat) (e : va_E), aw_up J q e1 b = some e → ∃ j : Nat, (ws ++ [(q, e1)])[j]? = some (b, e) := by
  intro b e hb
  by_cases h : b = q
  · subst h
    rw [aw_up_s] at hb
    cases hb
    exact ⟨ws.length, by simp⟩
  · rw [aw_up_n h] at hb
    obtain ⟨j, hj⟩ := hJ b e hb
    have hlt : j < ws.length := (List.getElem?_eq_some_iff.mp hj).1
    exact ⟨j, by rw [List.getElem?_append_left hlt]; exact hj⟩
theorem aw_R.fresh {A : Nat → Prop} {J : aw_J} {ws : va_W} {q : Nat} {e1 : va_E} (hJ : ∀ (a : Nat) (e : va_E), J a = some e → ∃ k : Nat, ws[k]? = some (a, e)) (hD : va_D A (ws ++ [(q, e1)])) : J q = none := by
  cases h : J q with
  | none => rfl
  | some e =>
    obtain ⟨j, hj⟩ := hJ q e h
    have hlt : j < ws.length := (List.getElem?_eq_some_iff.mp hj).1
    have h2 := hD.1 j ws.length (q, e) (q, e1) (by rw [List.getElem?_append_left hlt]; exact hj) (by simp) rfl
    omega
/-- what the tables say, and stays -/
def aw_T (G : aw_G) (U : State) : Prop := (∀ w ∈ aw_NB, va_Nw w U) ∧ va_K G.2.1 aw_cl (aw_tys G) U ∧ (∀ C ∈ aw_AO, va_AO C U) ∧ (∀ q ∈ aw_SB, ∃ a : Nat, vk_R q.1 q.2.1 q.2.2 a U) ∧ ∀ q ∈ aw_NC, va_Nc q.1 q.2 U
theorem aw_nw_warm {w : Cond} (hw : aw_nw w = true) {s U : State} (hW : s.WarmedH U.vm) (h : va_Nw w s) : va_Nw w U := by
  cases w <;> first | exact va_Nw.warmF hW h | exact va_Nw.warmM hW h | exact va_Nw.warmD hW h | exact va_Nw.warmC hW h | (simp [aw_nw] at hw)
theorem aw_nw_same {w : Cond} (hw : aw_nw w = true) {u U : State} (hv : u.vm = U.vm) (h : va_Nw w u) : va_Nw w U := by
  cases w <;> first | exact va_Nw.same rfl hv h | (simp [aw_nw] at hw)
theorem aw_T.warm {G : aw_G} {s U : State} (hW : s.WarmedH U.vm) (h : aw_T G s) : aw_T G U :=
  ⟨fun w hw => aw_nw_warm (aw_NB_nw w hw) hW (h.1 w hw), va_K.moved hW.alike h.2.1, fun C hC => va_AO.moved hW.alike (h.2.2.1 C hC), fun q hq => by
    obtain ⟨a, ha⟩ := h.2.2.2.1 q hq
    exact ⟨a, ha.warm hW⟩, fun q hq => va_Nc.moved hW.alike (h.2.2.2.2 q hq)⟩
theorem aw_T.same {G : aw_G} {u U : State} (hv : U.vm = u.vm) (h : aw_T G u) : aw_T G U :=
  ⟨fun w hw => aw_nw_same (aw_NB_nw w hw) hv.symm (h.1 w hw), va_K.moved (u := u) (U := U) (by rw [hv]; exact Vm.Alike.refl _) h.2.1, fun C hC => va_AO.moved (by rw [hv]; exact Vm.Alike.refl _) (h.2.2.1 C hC), fun q hq => by
    obtain ⟨a, ha⟩ := h.2.2.2.1 q hq
    exact ⟨a, ha.same hv⟩, fun q hq => va_Nc.moved (by rw [hv]; exact Vm.Alike.refl _) (h.2.2.2.2 q hq)⟩
/-- what old cells hold that nobody writes: the constants of State, what a throw reads, the script -/
def aw_Z (G : aw_G) (A : Nat → Prop) (U : State) (H : Heap) : Prop := va_En aw_En "LScopeTree$State;" aw_en [] G.2.2.2.1 A U H ∧ vx_Zq Bundle.tN "UNASSIGNED_STACK" Bundle.steD A U H ∧ vx_Zq Bundle.tN "SUPPRESSED_SENTINEL" Bundle.listD A U H ∧ va_X G.2.2.2.2.1 G.2.2.2.2.2.1 G.2.2.2.2.2.2 U H ∧ G.2.2.2.2.1 < H.size ∧ ¬ A G.2.2.2.2.1
theorem aw_Z.moved {G : aw_G} {A : Nat → Prop} {u U : State} {H : Heap} (hvm : u.vm.Alike U.vm) (h : aw_Z G A u H) : aw_Z G A U H := ⟨va_En.moved hvm h.1, vx_Zq.moved hvm h.2.1, vx_Zq.moved hvm h.2.2.1, va_X.moved hvm h.2.2.2.1, h.2.2.2.2⟩
theorem aw_Z.kept {G : aw_G} {A : Nat → Prop} {U : State} {H H1 : Heap} (h : aw_Z G A U H) (hz : H.size ≤ H1.size) (hq : ∀ a : Nat, a < H.size → ¬ A a → H1[a]? = H[a]?) : aw_Z G A U H1 := ⟨h.1.kept hq, h.2.1.kept hq, h.2.2.1.kept hq, h.2.2.2.1.kept (hq _ h.2.2.2.2.1 h.2.2.2.2.2), Nat.lt_of_lt_of_le h.2.2.2.2.1 hz, h.2.2.2.2.2⟩
theorem aw_Z.narrow {G : aw_G} {A B : Nat → Prop} {U : State} {H : Heap} (h : aw_Z G A U H) (hAB : ∀ q, B q → A q) : aw_Z G B U H := ⟨h.1.narrow hAB, h.2.1.narrow hAB, h.2.2.1.narrow hAB, h.2.2.2.1, h.2.2.2.2.1, fun z => h.2.2.2.2.2 (hAB _ z)⟩
/-- locals: place by place -/
def aw_ps : Nat → List (Option Value) → List (Nat × Value)
  | _, [] => []
  | i, none :: t => aw_ps (i + 1) t
  | i, some v :: t => (i, v) :: aw_ps (i + 1) t
theorem aw_ps_mem {q : Nat × Value} : ∀ (L : List (Option Value)) (i : Nat), q ∈ aw_ps i L ↔ ∃ j : Nat, L[j]? = some (some q.2) ∧ q.1 = i + j
  | [], i => by simp [aw_ps]
  | none :: t, i => by
    rw [aw_ps, aw_ps_mem t (i + 1)]
    constructor
    · rintro ⟨j, h1, h2⟩
      exact ⟨j + 1, by simpa using h1, by omega⟩
    · rintro ⟨j, h1, h2⟩
      cases j with
      | zero => simp at h1
      | succ j => exact ⟨j, by simpa using h1, by omega⟩
  | some v :: t, i => by
    rw [aw_ps, List.mem_cons, aw_ps_mem t (i + 1)]
    constructor
    · rintro (h | ⟨j, h1, h2⟩)
      · exact ⟨0, by rw [h]; rfl, by simp [h]⟩
      · exact ⟨j + 1, by simpa using h1, by omega⟩
    · rintro ⟨j, h1, h2⟩
      cases j with
      | zero =>
        left
        simp at h1
        obtain ⟨a, b⟩ := q
        simp at h2
        simp at h1
        rw [h1, h2]
      | succ j => exact Or.inr ⟨j, by simpa using h1, by omega⟩
def aw_L (ls : Array Slot) (n : Nat) (L : List (Option Value)) : Prop := lv_has ls n (aw_ps 0 L)
theorem aw_L.at {ls : Array Slot} {n i : Nat} {L : List (Option Value)} {v : Value} (h : aw_L ls n L) (hi : L[i]? = some (some v)) : ls[i]? = some (.val v) :=
  h.2.2 (i, v) ((aw_ps_mem L 0).mpr ⟨i, hi, by simp⟩)
/-- no long lies on the place before -/
def aw_ok1 (L : List (Option Value)) : Nat → Bool
  | 0 => true
  | i + 1 => match L[i]? with
    | some (some v) => v.category == 1
    | _ => true
theorem aw_L.set1 {ls ls' : Array Slot} {n i : Nat} {L : List (Option Value)} {v : Value} (ho : aw_ok1 L i = true) (h : lv_has ls' n ((i, v) :: (aw_ps 0 L).filter (fun q => !(q.1 == i) && !(q.1 + 1 == i && q.2.category == 2)))) : aw_L ls' n (L.set i (some v)) := by
  refine ⟨h.1, h.2.1, fun q hq => ?_⟩
  obtain ⟨j, hj, hq1⟩ := (aw_ps_mem _ 0).mp hq
  have hq0 : q.1 = j := by omega
  by_cases hji : j = i
  · subst hji
    have hlt : j < L.length := by
      have := (List.getElem?_eq_some_iff.mp hj).1
      simpa using this
    rw [List.getElem?_set_self hlt] at hj
    cases hj
    exact h.2.2 q (by rw [show q = (j, q.2) from Prod.ext hq0 rfl]; exact List.mem_cons_self)
  · rw [List.getElem?_set_ne (Ne.symm hji)] at hj
    refine h.2.2 q (List.mem_cons_of_mem _ (List.mem_filter.mpr ⟨(aw_ps_mem L 0).mpr ⟨j, hj, hq1⟩, ?_⟩))
    have h2 : ¬ (q.1 + 1 = i ∧ q.2.category = 2) := by
      rintro ⟨e1, e2⟩
      rw [hq0] at e1
      subst e1
      simp [aw_ok1, hj, e2] at ho
    simp only [Bool.and_eq_true, Bool.not_eq_true', beq_eq_false_iff_ne, Bool.and_eq_false_iff]
    refine ⟨by rw [hq0]; exact hji, ?_⟩
    by_cases e1 : q.1 + 1 = i
    · exact Or.inr (fun e2 => h2 ⟨e1, e2⟩)
    · exact Or.inl e1
theorem aw_L.set2 {ls ls' : Array Slot} {n i : Nat} {L : List (Option Value)} {v : Value} (ho : aw_ok1 L i = true) (h : lv_has ls' n ((i, v) :: (aw_ps 0 L).filter (fun q => !(q.1 == i) && (!(q.1 == i + 1) && !(q.1 + 1 == i && q.2.category == 2))))) : aw_L ls' n ((L.set i (some v)).set (i + 1) none) := by
  refine ⟨h.1, h.2.1, fun q hq => ?_⟩
  obtain ⟨j, hj, hq1⟩ := (aw_ps_mem _ 0).mp hq
  have hq0 : q.1 = j := by omega
  by_cases hj1 : j = i + 1
  · subst hj1
    by_cases hlt : i + 1 < L.length
    · rw [List.getElem?_set_self (by simpa using hlt)] at hj
      cases hj
    · rw [List.getElem?_eq_none (by simp; omega)] at hj
      cases hj
  · rw [List.getElem?_set_ne (Ne.symm hj1)] at hj
    by_cases hji : j = i
    · subst hji
      have hlt : j < L.length := by
        have := (List.getElem?_eq_some_iff.mp hj).1
        simpa using this
      rw [List.getElem?_set_self hlt] at hj
      cases hj
      exact h.2.2 q (by rw [show q = (j, q.2) from Prod.ext hq0 rfl]; exact List.mem_cons_self)
    · rw [List.getElem?_set_ne (Ne.symm hji)] at hj
      refine h.2.2 q (List.mem_cons_of_mem _ (List.mem_filter.mpr ⟨(aw_ps_mem L 0).mpr ⟨j, hj, hq1⟩, ?_⟩))
      have h2 : ¬ (q.1 + 1 = i ∧ q.2.category = 2) := by
        rintro ⟨e1, e2⟩
        rw [hq0] at e1
        subst e1
        simp [aw_ok1, hj, e2] at ho
      simp only [Bool.and_eq_true, Bool.not_eq_true', beq_eq_false_iff_ne, Bool.and_eq_false_iff]
      refine ⟨by rw [hq0]; exact hji, by rw [hq0]; exact hj1, ?_⟩
      by_cases e1 : q.1 + 1 = i
      · exact Or.inr (fun e2 => h2 ⟨e1, e2⟩)
      · exact Or.inl e1
/-- the locals at a method's entry -/
def aw_ent : List Value → Nat → List (Option Value)
  | [], n => List.replicate n none
  | v :: t, n => if v.category = 2 then some v :: none :: aw_ent t (n - 2) else some v :: aw_ent t (n - 1)
theorem aw_ps_none (n : Nat) : ∀ i : Nat, aw_ps i (List.replicate n none) = [] := by
  induction n with
  | zero => intro i; rfl
  | succ n ih => intro i; rw [List.replicate_succ, aw_ps, ih]
theorem aw_ent_args (vs : List Value) : ∀ (n i : Nat), aw_ps i (aw_ent vs n) = lv_args i vs := by
  induction vs with
  | nil => intro n i; rw [aw_ent, aw_ps_none]; rfl
  | cons v t ih =>
    intro n i
    by_cases h : v.category = 2
    · rw [aw_ent, if_pos h, aw_ps, aw_ps, ih, lv_args, if_pos h]
    · rw [aw_ent, if_neg h, aw_ps, ih, lv_args, if_neg h]
def aw_fr (d : Nat) : Nat := d + 10
def aw_lo (d : Nat) : Nat := 64 * d + 160
def aw_C (G : aw_G) (M : aw_M) (p : Program) (s : State) (m : MethodId) (args : Array Value) (meth : Method) (c : Code) (A : Nat → Prop) : Prop :=
  p.tables.exec = Jvm.exec ∧ c.code = M.2.1 ∧ c.maxLocals = M.2.2.1 ∧ meth.sig.returnType = M.2.2.2.1 ∧ meth.locks = false ∧ s.vm.findClass M.1.cls = some m.cls ∧ meth.name = M.1.name ∧ c.exceptionTable.toList = tableOf M.2.2.2.2 ∧ (∀ w ∈ aw_TB, w.before args s = true) ∧ aw_T G s ∧ aw_Z G A s s.heap ∧ (∀ q : Nat, s.heap.size ≤ q → A q) ∧ G.1.stackTraces = false
def aw_Qc (G : aw_G) (Q : aw_O → aw_J → Prop) (A : Nat → Prop) : Array Value → State → Outcome → State → Prop := fun _ st oc t => ∃ (v : Option Value) (J : aw_J), oc = .returned v ∧ Q (.inl v) J ∧ aw_R G A J t.heap ∧ va_F A st t
def aw_XC (G : aw_G) (Q : aw_O → aw_J → Prop) (A : Nat → Prop) : String → State → State → Prop := fun E st t => ∃ J : aw_J, Q (.inr E) J ∧ aw_R G A J t.heap ∧ va_F A st t
/-- everything that a walk has at hand -/
def aw_I (G : aw_G) (M : aw_M) (d : Nat) (L : List (Option Value)) (J : aw_J) (kc ks : Nat) (p : Program) (R : Room) (s : State) (m : MethodId) (args : Array Value) (meth : Method) (c : Code) (H : Heap) (ls : Array Slot) (locs : List Loc) (cells slots mc ms : Nat) (A : Nat → Prop) : Prop :=
  aw_C G M p s m args meth c A ∧ (aw_fr d ≤ R.frames ∧ aw_lo d ≤ R.locals ∧ cells + kc ≤ mc ∧ mc ≤ R.cells ∧ slots + ks ≤ ms ∧ ms ≤ R.slots) ∧ aw_L ls M.2.2.1 L ∧ aw_R G A J H ∧ va_S A s.heap H locs
/-- THE JUDGEMENT: from pc, with the locals L, the stack st, the heap J, room for d calls, kc cells and ks slots, the method M comes to an end with Q -/
def aw_W (G : aw_G) (M : aw_M) (d : Nat) (Q : aw_O → aw_J → Prop) (pc : Nat) (L : List (Option Value)) (st : List Value) (J : aw_J) (kc ks : Nat) : Prop :=
  ∀ (p : Program) (e : Env) (R : Room) (s : State) (m : MethodId) (args : Array Value) (below : List Frame) (meth : Method) (c : Code) (H : Heap) (ls : Array Slot) (locs : List Loc) (cells slots mc ms : Nat) (A : Nat → Prop),
    aw_I G M d L J kc ks p R s m args meth c H ls locs cells slots mc ms A → W p G.1 e R s m args below meth c H locs cells slots (vx_MQ below (aw_Qc G Q A) (aw_XC G Q A) args s mc ms A) (F0 m pc ls st)
section AW
variable {G : aw_G} {M : aw_M} {d : Nat} {Q : aw_O → aw_J → Prop} {pc : Nat} {L : List (Option Value)} {st : List Value} {J : aw_J} {kc ks : Nat}
theorem aw_more {d0 kc0 ks0 : Nat} (hd : d0 ≤ d) (hc : kc0 ≤ kc) (hs : ks0 ≤ ks) (k : aw_W G M d0 Q pc L st J kc0 ks0) : aw_W G M d Q pc L st J kc ks := fun p e R s m args below meth c H ls locs cells slots mc ms A h =>
  k p e R s m args below meth c H ls locs cells slots mc ms A ⟨h.1, ⟨by have := h.2.1.1; unfold aw_fr at *; omega, by have := h.2.1.2.1; unfold aw_lo at *; omega, by have := h.2.1.2.2.1; omega, h.2.1.2.2.2.1, by have := h.2.1.2.2.2.2.1; omega, h.2.1.2.2.2.2.2⟩, h.2.2⟩
theorem aw_cons {Q0 : aw_O → aw_J → Prop} (hQ : ∀ o J, Q0 o J → Q o J) (k : aw_W G M d Q0 pc L st J kc ks) : aw_W G M d Q pc L st J kc ks := by
  intro p e R s m args below meth c H ls locs cells slots mc ms A h T hT X
  obtain ⟨t, a1, oc, b1, b2, b3⟩ := k p e R s m args below meth c H ls locs cells slots mc ms A h T hT X
  refine ⟨t, a1, oc, b1, b2, ?_⟩
  rcases b3 with ⟨⟨v, J', e1, e2, e3, e4⟩, hF⟩ | ⟨q, e0, E, ce, Lo, ⟨J', e2, e3, e4⟩, hr⟩
  · exact Or.inl ⟨⟨v, J', e1, hQ _ _ e2, e3, e4⟩, hF⟩
  · exact Or.inr ⟨q, e0, E, ce, Lo, ⟨J', hQ _ _ e2, e3, e4⟩, hr⟩
theorem aw_iconst {n : Int} {v : Int32} (hd : decode M.2.1 pc = .ok (.iconst n, 1)) (hv : Int32.ofInt n = v) (k : aw_W G M d Q (pc + 1) L (.int v :: st) J kc ks) : aw_W G M d Q pc L st J kc ks := fun p e R s m args below meth c H ls locs cells slots mc ms A h => lv_iconst h.1.1 h.1.2.1 hd hv (k p e R s m args below meth c H ls locs cells slots mc ms A h)
theorem aw_bipush {n : Int} {v : Int32} (hd : decode M.2.1 pc = .ok (.bipush n, 2)) (hv : (Int8.ofInt n).toInt32 = v) (k : aw_W G M d Q (pc + 2) L (.int v :: st) J kc ks) : aw_W G M d Q pc L st J kc ks := fun p e R s m args below meth c H ls locs cells slots mc ms A h => lv_bipush h.1.1 h.1.2.1 hd hv (k p e R s m args below meth c H ls locs cells slots mc ms A h)
theorem aw_sipush {n : Int} {v : Int32} (hd : decode M.2.1 pc = .ok (.sipush n, 3)) (hv : (Int16.ofInt n).toInt32 = v) (k : aw_W G M d Q (pc + 3) L (.int v :: st) J kc ks) : aw_W G M d Q pc L st J kc ks := fun p e R s m args below meth c H ls locs cells slots mc ms A h => lv_sipush h.1.1 h.1.2.1 hd hv (k p e R s m args below meth c H ls locs cells slots mc ms A h)
theorem aw_lconst {n : Fin 2} {v : Int64} (hd : decode M.2.1 pc = .ok (.lconst n, 1)) (hv : Int64.ofNat (n : Nat) = v) (k : aw_W G M d Q (pc + 1) L (.long v :: st) J kc ks) : aw_W G M d Q pc L st J kc ks := fun p e R s m args below meth c H ls locs cells slots mc ms A h => lv_lconst h.1.1 h.1.2.1 hd hv (k p e R s m args below meth c H ls locs cells slots mc ms A h)
theorem aw_null  (hd : decode M.2.1 pc = .ok (.aconst_null, 1)) (k : aw_W G M d Q (pc + 1) L (.null :: st) J kc ks) : aw_W G M d Q pc L st J kc ks := fun p e R s m args below meth c H ls locs cells slots mc ms A h => lv_null h.1.1 h.1.2.1 hd (k p e R s m args below meth c H ls locs cells slots mc ms A h)
theorem aw_ldc {idx : Nat} {v : Int32} (hd : decode M.2.1 pc = .ok (.ldc idx, 2)) (hw : Cond.constant M.1.cls idx v ∈ aw_TB) (k : aw_W G M d Q (pc + 2) L (.int v :: st) J kc ks) : aw_W G M d Q pc L st J kc ks := fun p e R s m args below meth c H ls locs cells slots mc ms A h => lv_ldc h.1.1 h.1.2.1 h.1.2.2.2.2.2.1 (h.1.2.2.2.2.2.2.2.2.1 _ hw) hd (k p e R s m args below meth c H ls locs cells slots mc ms A h)
theorem aw_ldc2 {idx : Nat} {v : Int64} (hd : decode M.2.1 pc = .ok (.ldc2_w idx, 3)) (hw : Cond.constantLong M.1.cls idx v ∈ aw_TB) (k : aw_W G M d Q (pc + 3) L (.long v :: st) J kc ks) : aw_W G M d Q pc L st J kc ks := fun p e R s m args below meth c H ls locs cells slots mc ms A h => lv_ldc2 h.1.1 h.1.2.1 h.1.2.2.2.2.2.1 (h.1.2.2.2.2.2.2.2.2.1 _ hw) hd (k p e R s m args below meth c H ls locs cells slots mc ms A h)
theorem aw_iadd {x y : Int32} (hd : decode M.2.1 pc = .ok (.iadd, 1)) (k : aw_W G M d Q (pc + 1) L (.int (x + y) :: st) J kc ks) : aw_W G M d Q pc L (.int y :: .int x :: st) J kc ks := fun p e R s m args below meth c H ls locs cells slots mc ms A h => lv_iadd h.1.1 h.1.2.1 hd (k p e R s m args below meth c H ls locs cells slots mc ms A h)
theorem aw_isub {x y : Int32} (hd : decode M.2.1 pc = .ok (.isub, 1)) (k : aw_W G M d Q (pc + 1) L (.int (x - y) :: st) J kc ks) : aw_W G M d Q pc L (.int y :: .int x :: st) J kc ks := fun p e R s m args below meth c H ls locs cells slots mc ms A h => lv_isub h.1.1 h.1.2.1 hd (k p e R s m args below meth c H ls locs cells slots mc ms A h)
theorem aw_imul {x y : Int32} (hd : decode M.2.1 pc = .ok (.imul, 1)) (k : aw_W G M d Q (pc + 1) L (.int (x * y) :: st) J kc ks) : aw_W G M d Q pc L (.int y :: .int x :: st) J kc ks := fun p e R s m args below meth c H ls locs cells slots mc ms A h => lv_imul h.1.1 h.1.2.1 hd (k p e R s m args below meth c H ls locs cells slots mc ms A h)
theorem aw_iand {x y : Int32} (hd : decode M.2.1 pc = .ok (.iand, 1)) (k : aw_W G M d Q (pc + 1) L (.int (x &&& y) :: st) J kc ks) : aw_W G M d Q pc L (.int y :: .int x :: st) J kc ks := fun p e R s m args below meth c H ls locs cells slots mc ms A h => lv_iand h.1.1 h.1.2.1 hd (k p e R s m args below meth c H ls locs cells slots mc ms A h)
theorem aw_ior {x y : Int32} (hd : decode M.2.1 pc = .ok (.ior, 1)) (k : aw_W G M d Q (pc + 1) L (.int (x ||| y) :: st) J kc ks) : aw_W G M d Q pc L (.int y :: .int x :: st) J kc ks := fun p e R s m args below meth c H ls locs cells slots mc ms A h => lv_ior h.1.1 h.1.2.1 hd (k p e R s m args below meth c H ls locs cells slots mc ms A h)
theorem aw_ixor {x y : Int32} (hd : decode M.2.1 pc = .ok (.ixor, 1)) (k : aw_W G M d Q (pc + 1) L (.int (x ^^^ y) :: st) J kc ks) : aw_W G M d Q pc L (.int y :: .int x :: st) J kc ks := fun p e R s m args below meth c H ls locs cells slots mc ms A h => lv_ixor h.1.1 h.1.2.1 hd (k p e R s m args below meth c H ls locs cells slots mc ms A h)
theorem aw_ishl {x y : Int32} (hd : decode M.2.1 pc = .ok (.ishl, 1)) (k : aw_W G M d Q (pc + 1) L (.int (x <<< (y &&& 31)) :: st) J kc ks) : aw_W G M d Q pc L (.int y :: .int x :: st) J kc ks := fun p e R s m args below meth c H ls locs cells slots mc ms A h => lv_ishl h.1.1 h.1.2.1 hd (k p e R s m args below meth c H ls locs cells slots mc ms A h)
theorem aw_ishr {x y : Int32} (hd : decode M.2.1 pc = .ok (.ishr, 1)) (k : aw_W G M d Q (pc + 1) L (.int (x >>> (y &&& 31)) :: st) J kc ks) : aw_W G M d Q pc L (.int y :: .int x :: st) J kc ks := fun p e R s m args below meth c H ls locs cells slots mc ms A h => lv_ishr h.1.1 h.1.2.1 hd (k p e R s m args below meth c H ls locs cells slots mc ms A h)
theorem aw_iushr {x y : Int32} (hd : decode M.2.1 pc = .ok (.iushr, 1)) (k : aw_W G M d Q (pc + 1) L (.int ((x.toUInt32 >>> (y.toUInt32 &&& Int32.toUInt32 31)).toInt32) :: st) J kc ks) : aw_W G M d Q pc L (.int y :: .int x :: st) J kc ks := fun p e R s m args below meth c H ls locs cells slots mc ms A h => lv_iushr h.1.1 h.1.2.1 hd rfl (k p e R s m args below meth c H ls locs cells slots mc ms A h)
theorem aw_ladd {x y : Int64} (hd : decode M.2.1 pc = .ok (.ladd, 1)) (k : aw_W G M d Q (pc + 1) L (.long (x + y) :: st) J kc ks) : aw_W G M d Q pc L (.long y :: .long x :: st) J kc ks := fun p e R s m args below meth c H ls locs cells slots mc ms A h => lv_ladd h.1.1 h.1.2.1 hd (k p e R s m args below meth c H ls locs cells slots mc ms A h)
theorem aw_land {x y : Int64} (hd : decode M.2.1 pc = .ok (.land, 1)) (k : aw_W G M d Q (pc + 1) L (.long (x &&& y) :: st) J kc ks) : aw_W G M d Q pc L (.long y :: .long x :: st) J kc ks := fun p e R s m args below meth c H ls locs cells slots mc ms A h => lv_land h.1.1 h.1.2.1 hd (k p e R s m args below meth c H ls locs cells slots mc ms A h)
theorem aw_lor {x y : Int64} (hd : decode M.2.1 pc = .ok (.lor, 1)) (k : aw_W G M d Q (pc + 1) L (.long (x ||| y) :: st) J kc ks) : aw_W G M d Q pc L (.long y :: .long x :: st) J kc ks := fun p e R s m args below meth c H ls locs cells slots mc ms A h => lv_lor h.1.1 h.1.2.1 hd (k p e R s m args below meth c H ls locs cells slots mc ms A h)
theorem aw_lushr {x : Int64} {y : Int32} (hd : decode M.2.1 pc = .ok (.lushr, 1)) (k : aw_W G M d Q (pc + 1) L (.long ((x.toUInt64 >>> (y.toInt64.toUInt64 &&& Int64.toUInt64 63)).toInt64) :: st) J kc ks) : aw_W G M d Q pc L (.int y :: .long x :: st) J kc ks := fun p e R s m args below meth c H ls locs cells slots mc ms A h => lv_lushr h.1.1 h.1.2.1 hd rfl (k p e R s m args below meth c H ls locs cells slots mc ms A h)
theorem aw_lshr {x : Int64} {y : Int32} (hd : decode M.2.1 pc = .ok (.lshr, 1)) (k : aw_W G M d Q (pc + 1) L (.long (x >>> (y.toInt64 &&& 63)) :: st) J kc ks) : aw_W G M d Q pc L (.int y :: .long x :: st) J kc ks := fun p e R s m args below meth c H ls locs cells slots mc ms A h => lv_lshr h.1.1 h.1.2.1 hd rfl (k p e R s m args below meth c H ls locs cells slots mc ms A h)
theorem aw_lshl {x : Int64} {y : Int32} (hd : decode M.2.1 pc = .ok (.lshl, 1)) (k : aw_W G M d Q (pc + 1) L (.long (x <<< (y.toInt64 &&& 63)) :: st) J kc ks) : aw_W G M d Q pc L (.int y :: .long x :: st) J kc ks := fun p e R s m args below meth c H ls locs cells slots mc ms A h => lv_lshl h.1.1 h.1.2.1 hd rfl (k p e R s m args below meth c H ls locs cells slots mc ms A h)
theorem aw_i2l {x : Int32} (hd : decode M.2.1 pc = .ok (.i2l, 1)) (k : aw_W G M d Q (pc + 1) L (.long x.toInt64 :: st) J kc ks) : aw_W G M d Q pc L (.int x :: st) J kc ks := fun p e R s m args below meth c H ls locs cells slots mc ms A h => lv_i2l h.1.1 h.1.2.1 hd rfl (k p e R s m args below meth c H ls locs cells slots mc ms A h)
theorem aw_l2i {x : Int64} (hd : decode M.2.1 pc = .ok (.l2i, 1)) (k : aw_W G M d Q (pc + 1) L (.int x.toInt32 :: st) J kc ks) : aw_W G M d Q pc L (.long x :: st) J kc ks := fun p e R s m args below meth c H ls locs cells slots mc ms A h => lv_l2i h.1.1 h.1.2.1 hd rfl (k p e R s m args below meth c H ls locs cells slots mc ms A h)
theorem aw_lcmp {x y : Int64} (hd : decode M.2.1 pc = .ok (.lcmp, 1)) (k : aw_W G M d Q (pc + 1) L (.int (lg_cmp x y) :: st) J kc ks) : aw_W G M d Q pc L (.long y :: .long x :: st) J kc ks := fun p e R s m args below meth c H ls locs cells slots mc ms A h => W.lcmp h.1.1 h.1.2.1 hd (k p e R s m args below meth c H ls locs cells slots mc ms A h)
theorem aw_dup {v : Value} (hd : decode M.2.1 pc = .ok (.dup, 1)) (hv : v.category = 1) (k : aw_W G M d Q (pc + 1) L (v :: v :: st) J kc ks) : aw_W G M d Q pc L (v :: st) J kc ks := fun p e R s m args below meth c H ls locs cells slots mc ms A h => lv_dup h.1.1 h.1.2.1 hd hv (k p e R s m args below meth c H ls locs cells slots mc ms A h)
theorem aw_pop {v : Value} (hd : decode M.2.1 pc = .ok (.pop, 1)) (hv : v.category = 1) (k : aw_W G M d Q (pc + 1) L st J kc ks) : aw_W G M d Q pc L (v :: st) J kc ks := fun p e R s m args below meth c H ls locs cells slots mc ms A h => lv_pop h.1.1 h.1.2.1 hd hv (k p e R s m args below meth c H ls locs cells slots mc ms A h)
theorem aw_dup_x1 {v w : Value} (hd : decode M.2.1 pc = .ok (.dup_x1, 1)) (hv : v.category = 1) (hw : w.category = 1) (k : aw_W G M d Q (pc + 1) L (v :: w :: v :: st) J kc ks) : aw_W G M d Q pc L (v :: w :: st) J kc ks := fun p e R s m args below meth c H ls locs cells slots mc ms A h => lv_dup_x1 h.1.1 h.1.2.1 hd hv hw (k p e R s m args below meth c H ls locs cells slots mc ms A h)
theorem aw_dup2 {v w : Value} (hd : decode M.2.1 pc = .ok (.dup2, 1)) (hv : v.category = 1) (hw : w.category = 1) (k : aw_W G M d Q (pc + 1) L (v :: w :: v :: w :: st) J kc ks) : aw_W G M d Q pc L (v :: w :: st) J kc ks := fun p e R s m args below meth c H ls locs cells slots mc ms A h => lv_dup2_11 h.1.1 h.1.2.1 hd hv hw (k p e R s m args below meth c H ls locs cells slots mc ms A h)
theorem aw_iload {i : Nat} {x : Int32} (hd : decode M.2.1 pc = .ok (.iload i, 2)) (hl : L[i]? = some (some (.int x))) (k : aw_W G M d Q (pc + 2) L (.int x :: st) J kc ks) : aw_W G M d Q pc L st J kc ks := fun p e R s m args below meth c H ls locs cells slots mc ms A h => lv_iload h.1.1 h.1.2.1 hd (h.2.2.1.at hl) (k p e R s m args below meth c H ls locs cells slots mc ms A h)
theorem aw_iload_n {n : Fin 4} {x : Int32} (hd : decode M.2.1 pc = .ok (.iload_n n, 1)) (hl : L[(n : Nat)]? = some (some (.int x))) (k : aw_W G M d Q (pc + 1) L (.int x :: st) J kc ks) : aw_W G M d Q pc L st J kc ks := fun p e R s m args below meth c H ls locs cells slots mc ms A h => lv_iload_n h.1.1 h.1.2.1 hd rfl (h.2.2.1.at hl) (k p e R s m args below meth c H ls locs cells slots mc ms A h)
theorem aw_lload {i : Nat} {x : Int64} (hd : decode M.2.1 pc = .ok (.lload i, 2)) (hl : L[i]? = some (some (.long x))) (k : aw_W G M d Q (pc + 2) L (.long x :: st) J kc ks) : aw_W G M d Q pc L st J kc ks := fun p e R s m args below meth c H ls locs cells slots mc ms A h => lv_lload h.1.1 h.1.2.1 hd (h.2.2.1.at hl) (k p e R s m args below meth c H ls locs cells slots mc ms A h)
theorem aw_lload_n {n : Fin 4} {x : Int64} (hd : decode M.2.1 pc = .ok (.lload_n n, 1)) (hl : L[(n : Nat)]? = some (some (.long x))) (k : aw_W G M d Q (pc + 1) L (.long x :: st) J kc ks) : aw_W G M d Q pc L st J kc ks := fun p e R s m args below meth c H ls locs cells slots mc ms A h => lv_lload_n h.1.1 h.1.2.1 hd rfl (h.2.2.1.at hl) (k p e R s m args below meth c H ls locs cells slots mc ms A h)
theorem aw_aload {i : Nat} {x : Nat} (hd : decode M.2.1 pc = .ok (.aload i, 2)) (hl : L[i]? = some (some (.ref x))) (k : aw_W G M d Q (pc + 2) L (.ref x :: st) J kc ks) : aw_W G M d Q pc L st J kc ks := fun p e R s m args below meth c H ls locs cells slots mc ms A h => lv_aload h.1.1 h.1.2.1 hd (h.2.2.1.at hl) (k p e R s m args below meth c H ls locs cells slots mc ms A h)
theorem aw_aload_n {n : Fin 4} {x : Nat} (hd : decode M.2.1 pc = .ok (.aload_n n, 1)) (hl : L[(n : Nat)]? = some (some (.ref x))) (k : aw_W G M d Q (pc + 1) L (.ref x :: st) J kc ks) : aw_W G M d Q pc L st J kc ks := fun p e R s m args below meth c H ls locs cells slots mc ms A h => lv_aload_n h.1.1 h.1.2.1 hd rfl (h.2.2.1.at hl) (k p e R s m args below meth c H ls locs cells slots mc ms A h)
theorem aw_aloadN {i : Nat} (hd : decode M.2.1 pc = .ok (.aload i, 2)) (hl : L[i]? = some (some .null)) (k : aw_W G M d Q (pc + 2) L (.null :: st) J kc ks) : aw_W G M d Q pc L st J kc ks := fun p e R s m args below meth c H ls locs cells slots mc ms A h => lv_aloadN h.1.1 h.1.2.1 hd (h.2.2.1.at hl) (k p e R s m args below meth c H ls locs cells slots mc ms A h)
theorem aw_aload_nN {n : Fin 4} (hd : decode M.2.1 pc = .ok (.aload_n n, 1)) (hl : L[(n : Nat)]? = some (some .null)) (k : aw_W G M d Q (pc + 1) L (.null :: st) J kc ks) : aw_W G M d Q pc L st J kc ks := fun p e R s m args below meth c H ls locs cells slots mc ms A h => lv_aload_nN h.1.1 h.1.2.1 hd rfl (h.2.2.1.at hl) (k p e R s m args below meth c H ls locs cells slots mc ms A h)
theorem aw_aloadQ {i : Nat} {r : Option Nat} (hd : decode M.2.1 pc = .ok (.aload i, 2)) (hl : L[i]? = some (some (va_rf r))) (k : aw_W G M d Q (pc + 2) L (va_rf r :: st) J kc ks) : aw_W G M d Q pc L st J kc ks := by
  cases r with
  | none => exact aw_aloadN hd hl k
  | some x => exact aw_aload hd hl k
theorem aw_aload_nQ {n : Fin 4} {r : Option Nat} (hd : decode M.2.1 pc = .ok (.aload_n n, 1)) (hl : L[(n : Nat)]? = some (some (va_rf r))) (k : aw_W G M d Q (pc + 1) L (va_rf r :: st) J kc ks) : aw_W G M d Q pc L st J kc ks := by
  cases r with
  | none => exact aw_aload_nN hd hl k
  | some x => exact aw_aload_n hd hl k
theorem aw_istore {i : Nat} {x : Int32} (hd : decode M.2.1 pc = .ok (.istore i, 2)) (hn : i < M.2.2.1) (ho : aw_ok1 L i = true) (k : aw_W G M d Q (pc + 2) (L.set i (some (.int x))) st J kc ks) : aw_W G M d Q pc L (.int x :: st) J kc ks := fun p e R s m args below meth c H ls locs cells slots mc ms A h => lv_istore h.1.1 h.1.2.1 hd h.2.2.1 hn rfl (fun ls2 h2 => (k p e R s m args below meth c H ls2 locs cells slots mc ms A ⟨h.1, h.2.1, aw_L.set1 (ls := ls) ho h2, h.2.2.2⟩))
theorem aw_istore_n {n : Fin 4} {x : Int32} (hd : decode M.2.1 pc = .ok (.istore_n n, 1)) (hn : (n : Nat) < M.2.2.1) (ho : aw_ok1 L n = true) (k : aw_W G M d Q (pc + 1) (L.set n (some (.int x))) st J kc ks) : aw_W G M d Q pc L (.int x :: st) J kc ks := fun p e R s m args below meth c H ls locs cells slots mc ms A h => lv_istore_n h.1.1 h.1.2.1 hd rfl h.2.2.1 hn rfl (fun ls2 h2 => (k p e R s m args below meth c H ls2 locs cells slots mc ms A ⟨h.1, h.2.1, aw_L.set1 (ls := ls) ho h2, h.2.2.2⟩))
theorem aw_astore {i : Nat} {x : Nat} (hd : decode M.2.1 pc = .ok (.astore i, 2)) (hn : i < M.2.2.1) (ho : aw_ok1 L i = true) (k : aw_W G M d Q (pc + 2) (L.set i (some (.ref x))) st J kc ks) : aw_W G M d Q pc L (.ref x :: st) J kc ks := fun p e R s m args below meth c H ls locs cells slots mc ms A h => lv_astore h.1.1 h.1.2.1 hd h.2.2.1 hn rfl (fun ls2 h2 => (k p e R s m args below meth c H ls2 locs cells slots mc ms A ⟨h.1, h.2.1, aw_L.set1 (ls := ls) ho h2, h.2.2.2⟩))
theorem aw_astore_n {n : Fin 4} {x : Nat} (hd : decode M.2.1 pc = .ok (.astore_n n, 1)) (hn : (n : Nat) < M.2.2.1) (ho : aw_ok1 L n = true) (k : aw_W G M d Q (pc + 1) (L.set n (some (.ref x))) st J kc ks) : aw_W G M d Q pc L (.ref x :: st) J kc ks := fun p e R s m args below meth c H ls locs cells slots mc ms A h => lv_astore_n h.1.1 h.1.2.1 hd rfl h.2.2.1 hn rfl (fun ls2 h2 => (k p e R s m args below meth c H ls2 locs cells slots mc ms A ⟨h.1, h.2.1, aw_L.set1 (ls := ls) ho h2, h.2.2.2⟩))
theorem aw_astoreN {i : Nat} (hd : decode M.2.1 pc = .ok (.astore i, 2)) (hn : i < M.2.2.1) (ho : aw_ok1 L i = true) (k : aw_W G M d Q (pc + 2) (L.set i (some .null)) st J kc ks) : aw_W G M d Q pc L (.null :: st) J kc ks := fun p e R s m args below meth c H ls locs cells slots mc ms A h => lv_astoreN h.1.1 h.1.2.1 hd h.2.2.1 hn rfl (fun ls2 h2 => (k p e R s m args below meth c H ls2 locs cells slots mc ms A ⟨h.1, h.2.1, aw_L.set1 (ls := ls) ho h2, h.2.2.2⟩))
theorem aw_astore_nN {n : Fin 4} (hd : decode M.2.1 pc = .ok (.astore_n n, 1)) (hn : (n : Nat) < M.2.2.1) (ho : aw_ok1 L n = true) (k : aw_W G M d Q (pc + 1) (L.set n (some .null)) st J kc ks) : aw_W G M d Q pc L (.null :: st) J kc ks := fun p e R s m args below meth c H ls locs cells slots mc ms A h => lv_astore_nN h.1.1 h.1.2.1 hd rfl h.2.2.1 hn rfl (fun ls2 h2 => (k p e R s m args below meth c H ls2 locs cells slots mc ms A ⟨h.1, h.2.1, aw_L.set1 (ls := ls) ho h2, h.2.2.2⟩))
theorem aw_astoreQ {i : Nat} {r : Option Nat} (hd : decode M.2.1 pc = .ok (.astore i, 2)) (hn : i < M.2.2.1) (ho : aw_ok1 L i = true) (k : aw_W G M d Q (pc + 2) (L.set i (some (va_rf r))) st J kc ks) : aw_W G M d Q pc L (va_rf r :: st) J kc ks := by
  cases r with
  | none => exact aw_astoreN hd hn ho k
  | some x => exact aw_astore hd hn ho k
theorem aw_astore_nQ {n : Fin 4} {r : Option Nat} (hd : decode M.2.1 pc = .ok (.astore_n n, 1)) (hn : (n : Nat) < M.2.2.1) (ho : aw_ok1 L n = true) (k : aw_W G M d Q (pc + 1) (L.set n (some (va_rf r))) st J kc ks) : aw_W G M d Q pc L (va_rf r :: st) J kc ks := by
  cases r with
  | none => exact aw_astore_nN hd hn ho k
  | some x => exact aw_astore_n hd hn ho k
theorem aw_lstore {i : Nat} {x : Int64} (hd : decode M.2.1 pc = .ok (.lstore i, 2)) (hn : i + 1 < M.2.2.1) (ho : aw_ok1 L i = true) (k : aw_W G M d Q (pc + 2) ((L.set i (some (.long x))).set (i + 1) none) st J kc ks) : aw_W G M d Q pc L (.long x :: st) J kc ks := fun p e R s m args below meth c H ls locs cells slots mc ms A h => lv_lstore h.1.1 h.1.2.1 hd h.2.2.1 hn rfl (fun ls2 h2 => (k p e R s m args below meth c H ls2 locs cells slots mc ms A ⟨h.1, h.2.1, aw_L.set2 (ls := ls) ho h2, h.2.2.2⟩))
theorem aw_lstore_n {n : Fin 4} {x : Int64} (hd : decode M.2.1 pc = .ok (.lstore_n n, 1)) (hn : (n : Nat) + 1 < M.2.2.1) (ho : aw_ok1 L n = true) (k : aw_W G M d Q (pc + 1) ((L.set n (some (.long x))).set (n + 1) none) st J kc ks) : aw_W G M d Q pc L (.long x :: st) J kc ks := fun p e R s m args below meth c H ls locs cells slots mc ms A h => lv_lstore_n h.1.1 h.1.2.1 hd rfl h.2.2.1 hn rfl (fun ls2 h2 => (k p e R s m args below meth c H ls2 locs cells slots mc ms A ⟨h.1, h.2.1, aw_L.set2 (ls := ls) ho h2, h.2.2.2⟩))
theorem aw_iinc {i : Nat} {n : Int} {x : Int32} (hd : decode M.2.1 pc = .ok (.iinc i n, 3)) (hl : L[i]? = some (some (.int x))) (hn : i < M.2.2.1) (ho : aw_ok1 L i = true) (k : aw_W G M d Q (pc + 3) (L.set i (some (.int (x + Int32.ofInt n)))) st J kc ks) : aw_W G M d Q pc L st J kc ks := by
  intro p e R s m args below meth c H ls locs cells slots mc ms A h
  obtain ⟨j, hj⟩ := List.getElem?_of_mem ((aw_ps_mem (q := (i, Value.int x)) L 0).mpr ⟨i, hl, by simp⟩)
  exact lv_iinc h.1.1 h.1.2.1 hd h.2.2.1 hj rfl hn rfl (fun ls2 h2 => (k p e R s m args below meth c H ls2 locs cells slots mc ms A ⟨h.1, h.2.1, aw_L.set1 (ls := ls) ho h2, h.2.2.2⟩))
theorem aw_if_eq {x : Int32} {off : Int} {tgt : Nat} (hd : decode M.2.1 pc = .ok (.ifCond .eq off, 3)) (ht : (pc : Int) + off = (tgt : Int)) (kt : x = 0 → aw_W G M d Q tgt L st J kc ks) (kf : ¬ x = 0 → aw_W G M d Q (pc + 3) L st J kc ks) : aw_W G M d Q pc L (.int x :: st) J kc ks := fun p e R s m args below meth c H ls locs cells slots mc ms A h => lv_if_eq h.1.1 h.1.2.1 hd ht (fun z => kt z p e R s m args below meth c H ls locs cells slots mc ms A h) (fun z => kf z p e R s m args below meth c H ls locs cells slots mc ms A h)
theorem aw_icmp_eq {x y : Int32} {off : Int} {tgt : Nat} (hd : decode M.2.1 pc = .ok (.if_icmp .eq off, 3)) (ht : (pc : Int) + off = (tgt : Int)) (kt : x = y → aw_W G M d Q tgt L st J kc ks) (kf : ¬ x = y → aw_W G M d Q (pc + 3) L st J kc ks) : aw_W G M d Q pc L (.int y :: .int x :: st) J kc ks := fun p e R s m args below meth c H ls locs cells slots mc ms A h => lv_icmp_eq h.1.1 h.1.2.1 hd ht (fun z => kt z p e R s m args below meth c H ls locs cells slots mc ms A h) (fun z => kf z p e R s m args below meth c H ls locs cells slots mc ms A h)
theorem aw_if_ne {x : Int32} {off : Int} {tgt : Nat} (hd : decode M.2.1 pc = .ok (.ifCond .ne off, 3)) (ht : (pc : Int) + off = (tgt : Int)) (kt : ¬ x = 0 → aw_W G M d Q tgt L st J kc ks) (kf : x = 0 → aw_W G M d Q (pc + 3) L st J kc ks) : aw_W G M d Q pc L (.int x :: st) J kc ks := fun p e R s m args below meth c H ls locs cells slots mc ms A h => lv_if_ne h.1.1 h.1.2.1 hd ht (fun z => kt z p e R s m args below meth c H ls locs cells slots mc ms A h) (fun z => kf z p e R s m args below meth c H ls locs cells slots mc ms A h)
theorem aw_icmp_ne {x y : Int32} {off : Int} {tgt : Nat} (hd : decode M.2.1 pc = .ok (.if_icmp .ne off, 3)) (ht : (pc : Int) + off = (tgt : Int)) (kt : ¬ x = y → aw_W G M d Q tgt L st J kc ks) (kf : x = y → aw_W G M d Q (pc + 3) L st J kc ks) : aw_W G M d Q pc L (.int y :: .int x :: st) J kc ks := fun p e R s m args below meth c H ls locs cells slots mc ms A h => lv_icmp_ne h.1.1 h.1.2.1 hd ht (fun z => kt z p e R s m args below meth c H ls locs cells slots mc ms A h) (fun z => kf z p e R s m args below meth c H ls locs cells slots mc ms A h)
theorem aw_if_lt {x : Int32} {off : Int} {tgt : Nat} (hd : decode M.2.1 pc = .ok (.ifCond .lt off, 3)) (ht : (pc : Int) + off = (tgt : Int)) (kt : x < 0 → aw_W G M d Q tgt L st J kc ks) (kf : ¬ x < 0 → aw_W G M d Q (pc + 3) L st J kc ks) : aw_W G M d Q pc L (.int x :: st) J kc ks := fun p e R s m args below meth c H ls locs cells slots mc ms A h => lv_if_lt h.1.1 h.1.2.1 hd ht (fun z => kt z p e R s m args below meth c H ls locs cells slots mc ms A h) (fun z => kf z p e R s m args below meth c H ls locs cells slots mc ms A h)
theorem aw_icmp_lt {x y : Int32} {off : Int} {tgt : Nat} (hd : decode M.2.1 pc = .ok (.if_icmp .lt off, 3)) (ht : (pc : Int) + off = (tgt : Int)) (kt : x < y → aw_W G M d Q tgt L st J kc ks) (kf : ¬ x < y → aw_W G M d Q (pc + 3) L st J kc ks) : aw_W G M d Q pc L (.int y :: .int x :: st) J kc ks := fun p e R s m args below meth c H ls locs cells slots mc ms A h => lv_icmp_lt h.1.1 h.1.2.1 hd ht (fun z => kt z p e R s m args below meth c H ls locs cells slots mc ms A h) (fun z => kf z p e R s m args below meth c H ls locs cells slots mc ms A h)
theorem aw_if_ge {x : Int32} {off : Int} {tgt : Nat} (hd : decode M.2.1 pc = .ok (.ifCond .ge off, 3)) (ht : (pc : Int) + off = (tgt : Int)) (kt : 0 ≤ x → aw_W G M d Q tgt L st J kc ks) (kf : ¬ 0 ≤ x → aw_W G M d Q (pc + 3) L st J kc ks) : aw_W G M d Q pc L (.int x :: st) J kc ks := fun p e R s m args below meth c H ls locs cells slots mc ms A h => lv_if_ge h.1.1 h.1.2.1 hd ht (fun z => kt z p e R s m args below meth c H ls locs cells slots mc ms A h) (fun z => kf z p e R s m args below meth c H ls locs cells slots mc ms A h)
theorem aw_icmp_ge {x y : Int32} {off : Int} {tgt : Nat} (hd : decode M.2.1 pc = .ok (.if_icmp .ge off, 3)) (ht : (pc : Int) + off = (tgt : Int)) (kt : y ≤ x → aw_W G M d Q tgt L st J kc ks) (kf : ¬ y ≤ x → aw_W G M d Q (pc + 3) L st J kc ks) : aw_W G M d Q pc L (.int y :: .int x :: st) J kc ks := fun p e R s m args below meth c H ls locs cells slots mc ms A h => lv_icmp_ge h.1.1 h.1.2.1 hd ht (fun z => kt z p e R s m args below meth c H ls locs cells slots mc ms A h) (fun z => kf z p e R s m args below meth c H ls locs cells slots mc ms A h)
theorem aw_if_gt {x : Int32} {off : Int} {tgt : Nat} (hd : decode M.2.1 pc = .ok (.ifCond .gt off, 3)) (ht : (pc : Int) + off = (tgt : Int)) (kt : 0 < x → aw_W G M d Q tgt L st J kc ks) (kf : ¬ 0 < x → aw_W G M d Q (pc + 3) L st J kc ks) : aw_W G M d Q pc L (.int x :: st) J kc ks := fun p e R s m args below meth c H ls locs cells slots mc ms A h => lv_if_gt h.1.1 h.1.2.1 hd ht (fun z => kt z p e R s m args below meth c H ls locs cells slots mc ms A h) (fun z => kf z p e R s m args below meth c H ls locs cells slots mc ms A h)
theorem aw_icmp_gt {x y : Int32} {off : Int} {tgt : Nat} (hd : decode M.2.1 pc = .ok (.if_icmp .gt off, 3)) (ht : (pc : Int) + off = (tgt : Int)) (kt : y < x → aw_W G M d Q tgt L st J kc ks) (kf : ¬ y < x → aw_W G M d Q (pc + 3) L st J kc ks) : aw_W G M d Q pc L (.int y :: .int x :: st) J kc ks := fun p e R s m args below meth c H ls locs cells slots mc ms A h => lv_icmp_gt h.1.1 h.1.2.1 hd ht (fun z => kt z p e R s m args below meth c H ls locs cells slots mc ms A h) (fun z => kf z p e R s m args below meth c H ls locs cells slots mc ms A h)
theorem aw_if_le {x : Int32} {off : Int} {tgt : Nat} (hd : decode M.2.1 pc = .ok (.ifCond .le off, 3)) (ht : (pc : Int) + off = (tgt : Int)) (kt : x ≤ 0 → aw_W G M d Q tgt L st J kc ks) (kf : ¬ x ≤ 0 → aw_W G M d Q (pc + 3) L st J kc ks) : aw_W G M d Q pc L (.int x :: st) J kc ks := fun p e R s m args below meth c H ls locs cells slots mc ms A h => lv_if_le h.1.1 h.1.2.1 hd ht (fun z => kt z p e R s m args below meth c H ls locs cells slots mc ms A h) (fun z => kf z p e R s m args below meth c H ls locs cells slots mc ms A h)
theorem aw_icmp_le {x y : Int32} {off : Int} {tgt : Nat} (hd : decode M.2.1 pc = .ok (.if_icmp .le off, 3)) (ht : (pc : Int) + off = (tgt : Int)) (kt : x ≤ y → aw_W G M d Q tgt L st J kc ks) (kf : ¬ x ≤ y → aw_W G M d Q (pc + 3) L st J kc ks) : aw_W G M d Q pc L (.int y :: .int x :: st) J kc ks := fun p e R s m args below meth c H ls locs cells slots mc ms A h => lv_icmp_le h.1.1 h.1.2.1 hd ht (fun z => kt z p e R s m args below meth c H ls locs cells slots mc ms A h) (fun z => kf z p e R s m args below meth c H ls locs cells slots mc ms A h)
theorem aw_acmp_eq {x y : Option Nat} {off : Int} {tgt : Nat} (hd : decode M.2.1 pc = .ok (.if_acmp .eq off, 3)) (ht : (pc : Int) + off = (tgt : Int)) (kt : x = y → aw_W G M d Q tgt L st J kc ks) (kf : ¬ x = y → aw_W G M d Q (pc + 3) L st J kc ks) : aw_W G M d Q pc L (va_rf y :: va_rf x :: st) J kc ks := fun p e R s m args below meth c H ls locs cells slots mc ms A h => lv_acmp_eq h.1.1 h.1.2.1 hd ht (fun z => kt z p e R s m args below meth c H ls locs cells slots mc ms A h) (fun z => kf z p e R s m args below meth c H ls locs cells slots mc ms A h)
theorem aw_acmp_ne {x y : Option Nat} {off : Int} {tgt : Nat} (hd : decode M.2.1 pc = .ok (.if_acmp .ne off, 3)) (ht : (pc : Int) + off = (tgt : Int)) (kt : ¬ x = y → aw_W G M d Q tgt L st J kc ks) (kf : x = y → aw_W G M d Q (pc + 3) L st J kc ks) : aw_W G M d Q pc L (va_rf y :: va_rf x :: st) J kc ks := fun p e R s m args below meth c H ls locs cells slots mc ms A h => lv_acmp_ne h.1.1 h.1.2.1 hd ht (fun z => kt z p e R s m args below meth c H ls locs cells slots mc ms A h) (fun z => kf z p e R s m args below meth c H ls locs cells slots mc ms A h)
theorem aw_goto {off : Int} {tgt : Nat} (hd : decode M.2.1 pc = .ok (.goto off, 3)) (ht : (pc : Int) + off = (tgt : Int)) (k : aw_W G M d Q tgt L st J kc ks) : aw_W G M d Q pc L st J kc ks := fun p e R s m args below meth c H ls locs cells slots mc ms A h => lv_goto h.1.1 h.1.2.1 hd ht (k p e R s m args below meth c H ls locs cells slots mc ms A h)
theorem aw_ifnull {r : Option Nat} {off : Int} {tgt : Nat} (hd : decode M.2.1 pc = .ok (.ifnull off, 3)) (ht : (pc : Int) + off = (tgt : Int)) (kt : r = none → aw_W G M d Q tgt L st J kc ks) (kf : ¬ r = none → aw_W G M d Q (pc + 3) L st J kc ks) : aw_W G M d Q pc L (va_rf r :: st) J kc ks := by
  intro p e R s m args below meth c H ls locs cells slots mc ms A h
  cases r with
  | none => exact lv_ifnullN h.1.1 h.1.2.1 hd ht (kt rfl p e R s m args below meth c H ls locs cells slots mc ms A h)
  | some x => exact lv_ifnull h.1.1 h.1.2.1 hd (kf (by simp) p e R s m args below meth c H ls locs cells slots mc ms A h)
theorem aw_ifnonnull {r : Option Nat} {off : Int} {tgt : Nat} (hd : decode M.2.1 pc = .ok (.ifnonnull off, 3)) (ht : (pc : Int) + off = (tgt : Int)) (kt : ¬ r = none → aw_W G M d Q tgt L st J kc ks) (kf : r = none → aw_W G M d Q (pc + 3) L st J kc ks) : aw_W G M d Q pc L (va_rf r :: st) J kc ks := by
  intro p e R s m args below meth c H ls locs cells slots mc ms A h
  cases r with
  | none => exact lv_ifnonnullN h.1.1 h.1.2.1 hd (kf rfl p e R s m args below meth c H ls locs cells slots mc ms A h)
  | some x => exact lv_ifnonnull h.1.1 h.1.2.1 hd ht (kt (by simp) p e R s m args below meth c H ls locs cells slots mc ms A h)
theorem aw_tableIn {dflt lo hi : Int} {offs : Array Int} {len : Nat} {x : Int32} {off : Int} {tgt : Nat} (hd : decode M.2.1 pc = .ok (.tableswitch dflt lo hi offs, len)) (h1 : ¬ x.toInt < lo) (h2 : ¬ hi < x.toInt) (ho : offs[(x.toInt - lo).toNat]? = some off) (ht : (pc : Int) + off = (tgt : Int)) (k : aw_W G M d Q tgt L st J kc ks) : aw_W G M d Q pc L (.int x :: st) J kc ks := fun p e R s m args below meth c H ls locs cells slots mc ms A h => lv_tableIn h.1.1 h.1.2.1 hd h1 h2 ho ht (k p e R s m args below meth c H ls locs cells slots mc ms A h)
theorem aw_tableOut {dflt lo hi : Int} {offs : Array Int} {len : Nat} {x : Int32} {tgt : Nat} (hd : decode M.2.1 pc = .ok (.tableswitch dflt lo hi offs, len)) (h0 : x.toInt < lo ∨ hi < x.toInt) (ht : (pc : Int) + dflt = (tgt : Int)) (k : aw_W G M d Q tgt L st J kc ks) : aw_W G M d Q pc L (.int x :: st) J kc ks := fun p e R s m args below meth c H ls locs cells slots mc ms A h => lv_tableOut h.1.1 h.1.2.1 hd h0 ht (k p e R s m args below meth c H ls locs cells slots mc ms A h)
theorem aw_iret {v : Int32} (hd : decode M.2.1 pc = .ok (.ireturn, 1)) (hr : M.2.2.2.1 = some .int) (hq : Q (.inl (some (.int v))) J) : aw_W G M d Q pc L [.int v] J kc ks := by
  intro p e R s m args below meth c H ls locs cells slots mc ms A h
  have hq2 : ∀ t : State, t.heap = H → s.WarmedH t.vm → aw_Qc G Q A args s (.returned (some (.int v))) t := fun t ht _ => ⟨_, J, rfl, hq, by rw [ht]; exact h.2.2.2.1, h.2.2.2.2.F ht⟩
  refine W.widen (k := mc) (n := ms) (by have := h.2.1.2.2.1; omega) (by have := h.2.1.2.2.2.2.1; omega) (vx_ret ?_)
  exact W.iret h.1.1 h.1.2.1 (h.1.2.2.2.1.trans hr) hq2 h.2.2.2.2.2.2 hd h.1.2.2.2.2.1
theorem aw_zret {v : Int32} (hd : decode M.2.1 pc = .ok (.ireturn, 1)) (hr : M.2.2.2.1 = some .boolean) (hn : narrow .boolean (.int v) = .int v) (hq : Q (.inl (some (.int v))) J) : aw_W G M d Q pc L [.int v] J kc ks := by
  intro p e R s m args below meth c H ls locs cells slots mc ms A h
  have hq2 : ∀ t : State, t.heap = H → s.WarmedH t.vm → aw_Qc G Q A args s (.returned (some (.int v))) t := fun t ht _ => ⟨_, J, rfl, hq, by rw [ht]; exact h.2.2.2.1, h.2.2.2.2.F ht⟩
  refine W.widen (k := mc) (n := ms) (by have := h.2.1.2.2.1; omega) (by have := h.2.1.2.2.2.2.1; omega) (vx_ret ?_)
  exact W.zret h.1.1 h.1.2.1 (h.1.2.2.2.1.trans hr) hn hq2 h.2.2.2.2.2.2 hd h.1.2.2.2.2.1
theorem aw_vret  (hd : decode M.2.1 pc = .ok (.return_, 1)) (hr : M.2.2.2.1 = none) (hq : Q (.inl (none)) J) : aw_W G M d Q pc L [] J kc ks := by
  intro p e R s m args below meth c H ls locs cells slots mc ms A h
  have hq2 : ∀ t : State, t.heap = H → s.WarmedH t.vm → aw_Qc G Q A args s (.returned (none)) t := fun t ht _ => ⟨_, J, rfl, hq, by rw [ht]; exact h.2.2.2.1, h.2.2.2.2.F ht⟩
  refine W.widen (k := mc) (n := ms) (by have := h.2.1.2.2.1; omega) (by have := h.2.1.2.2.2.2.1; omega) (vx_ret ?_)
  exact W.vret h.1.1 h.1.2.1 (h.1.2.2.2.1.trans hr) hq2 h.2.2.2.2.2.2 hd h.1.2.2.2.2.1
theorem aw_aret {v : Value} {C : String} (hd : decode M.2.1 pc = .ok (.areturn, 1)) (hr : M.2.2.2.1 = some (.object C)) (hv : v = .null ∨ ∃ a : Nat, v = .ref a) (hq : Q (.inl (some v)) J) : aw_W G M d Q pc L [v] J kc ks := by
  intro p e R s m args below meth c H ls locs cells slots mc ms A h
  have hq2 : ∀ t : State, t.heap = H → s.WarmedH t.vm → aw_Qc G Q A args s (.returned (some v)) t := fun t ht _ => ⟨_, J, rfl, hq, by rw [ht]; exact h.2.2.2.1, h.2.2.2.2.F ht⟩
  refine W.widen (k := mc) (n := ms) (by have := h.2.1.2.2.1; omega) (by have := h.2.1.2.2.2.2.1; omega) (vx_ret ?_)
  exact W.aret h.1.1 h.1.2.1 (h.1.2.2.2.1.trans hr) (Or.inl ⟨_, rfl⟩) hv hq2 h.2.2.2.2.2.2 hd h.1.2.2.2.2.1
theorem aw_rf_or (r : Option Nat) : va_rf r = .null ∨ ∃ a : Nat, va_rf r = .ref a := by
  cases r with
  | none => exact Or.inl rfl
  | some a => exact Or.inr ⟨a, rfl⟩
end AW
end
section
/-! AW: the heap, and calls -/
section AWI
variable {G : aw_G} {M : aw_M} {d : Nat} {L : List (Option Value)} {J : aw_J} {kc ks : Nat} {p : Program} {R : Room} {s : State} {m : MethodId} {args : Array Value} {meth : Method} {c : Code} {H : Heap} {ls : Array Slot} {locs : List Loc} {cells slots mc ms : Nat} {A : Nat → Prop}
theorem aw_I.x (h : aw_I G M d L J kc ks p R s m args meth c H ls locs cells slots mc ms A) : p.tables.exec = Jvm.exec := h.1.1
theorem aw_I.b (h : aw_I G M d L J kc ks p R s m args meth c H ls locs cells slots mc ms A) : c.code = M.2.1 := h.1.2.1
theorem aw_I.ml (h : aw_I G M d L J kc ks p R s m args meth c H ls locs cells slots mc ms A) : c.maxLocals = M.2.2.1 := h.1.2.2.1
theorem aw_I.lk (h : aw_I G M d L J kc ks p R s m args meth c H ls locs cells slots mc ms A) : meth.locks = false := h.1.2.2.2.2.1
theorem aw_I.own (h : aw_I G M d L J kc ks p R s m args meth c H ls locs cells slots mc ms A) : s.vm.findClass M.1.cls = some m.cls := h.1.2.2.2.2.2.1
theorem aw_I.nm (h : aw_I G M d L J kc ks p R s m args meth c H ls locs cells slots mc ms A) : meth.name = M.1.name := h.1.2.2.2.2.2.2.1
theorem aw_I.tab (h : aw_I G M d L J kc ks p R s m args meth c H ls locs cells slots mc ms A) : c.exceptionTable.toList = tableOf M.2.2.2.2 := h.1.2.2.2.2.2.2.2.1
theorem aw_I.ts (h : aw_I G M d L J kc ks p R s m args meth c H ls locs cells slots mc ms A) : ∀ w ∈ aw_TB, w.before args s = true := h.1.2.2.2.2.2.2.2.2.1
theorem aw_I.T (h : aw_I G M d L J kc ks p R s m args meth c H ls locs cells slots mc ms A) : aw_T G s := h.1.2.2.2.2.2.2.2.2.2.1
theorem aw_I.K (h : aw_I G M d L J kc ks p R s m args meth c H ls locs cells slots mc ms A) : va_K G.2.1 aw_cl (aw_tys G) s := h.T.2.1
theorem aw_I.Z (h : aw_I G M d L J kc ks p R s m args meth c H ls locs cells slots mc ms A) : aw_Z G A s s.heap := h.1.2.2.2.2.2.2.2.2.2.2.1
theorem aw_I.fr (h : aw_I G M d L J kc ks p R s m args meth c H ls locs cells slots mc ms A) : ∀ q : Nat, s.heap.size ≤ q → A q := h.1.2.2.2.2.2.2.2.2.2.2.2.1
theorem aw_I.off (h : aw_I G M d L J kc ks p R s m args meth c H ls locs cells slots mc ms A) : G.1.stackTraces = false := h.1.2.2.2.2.2.2.2.2.2.2.2.2
theorem aw_I.S (h : aw_I G M d L J kc ks p R s m args meth c H ls locs cells slots mc ms A) : va_S A s.heap H locs := h.2.2.2.2
theorem aw_I.sz (h : aw_I G M d L J kc ks p R s m args meth c H ls locs cells slots mc ms A) : ls.size = M.2.2.1 := h.2.2.1.1
end AWI
/-- a field of a known class, as an instruction of the class own names it -/
def aw_F (own : String) (idx ci k : Nat) : Prop := ∃ (C : String) (T : u_T) (N : Nat), aw_cl[ci]? = some (C, T, N) ∧ k < N ∧ (∀ w ∈ u_ws C T N, w ∈ aw_TB) ∧ (Cond.fieldLink own idx (T k).1 (T k).2.1 (T k).2.2.1 ∈ aw_TB ∨ ∃ host : String, Cond.fieldLinkNest own idx (T k).1 (T k).2.1 (T k).2.2.1 host ∈ aw_NB)
/-- .. and how it is written -/
def aw_S (own : String) (idx ci k : Nat) (ty : FieldType) (fin : Bool) : Prop := ∃ (C : String) (T : u_T) (N : Nat) (ty0 : Nat → FieldType), aw_cl[ci]? = some (C, T, N) ∧ k < N ∧ (∀ w ∈ u_ws C T N, w ∈ aw_TB) ∧ (∀ j, j < N → parseFieldDescriptor (T j).2.2.1 = some (ty0 j)) ∧ (∀ a, a < N → ∀ b, b < N → a ≠ b → (T a).2.1 ≠ (T b).2.1) ∧ (T k).2.2.2 = fin ∧ parseFieldDescriptor (T k).2.2.1 = some ty ∧ (Cond.fieldLink own idx (T k).1 (T k).2.1 (T k).2.2.1 ∈ aw_TB ∨ (fin = false ∧ ∃ host : String, Cond.fieldLinkNest own idx (T k).1 (T k).2.1 (T k).2.2.1 host ∈ aw_NB)) ∧ (fin = true → (T k).1 = own)
/-- a class that can be made: its new object's fields -/
def aw_N (own : String) (idx ci N : Nat) (fs : List Value) : Prop := ∃ (C : String) (T : u_T) (ty : Nat → FieldType), aw_cl[ci]? = some (C, T, N) ∧ (∀ w ∈ u_ws C T N, w ∈ aw_TB) ∧ (∀ j, j < N → parseFieldDescriptor (T j).2.2.1 = some (ty j)) ∧ Cond.classLink own idx C ∈ aw_TB ∧ Cond.instantiable C N ∈ aw_TB ∧ Cond.initialized C ∈ aw_TB ∧ ∀ j, j < N → defaultValue (ty j) = vp_V fs j
section AWH
variable {G : aw_G} {M : aw_M} {d : Nat} {Q : aw_O → aw_J → Prop} {pc : Nat} {L : List (Option Value)} {st : List Value} {J : aw_J} {kc ks : Nat}
theorem aw_get {idx ci j a : Nat} {fs : List Value} {v : Value} (hd : decode M.2.1 pc = .ok (.getfield idx, 3)) (hF : aw_F M.1.cls idx ci j) (hJ : J a = some (.inr (ci, fs))) (hv : fs[j]? = some v) (k : aw_W G M d Q (pc + 3) L (v :: st) J kc ks) : aw_W G M d Q pc L (.ref a :: st) J kc ks := by
  intro p e R s m args below meth c H ls locs cells slots mc ms A h
  obtain ⟨ws, hP, hD, hJw⟩ := h.2.2.2.1
  obtain ⟨q0, he⟩ := hJw _ _ hJ
  obtain ⟨C, T, N, hc, hk, hin, hl⟩ := hF
  rcases hl with hl | ⟨host, hl⟩
  · exact va_get h.x h.b h.ts hin h.own h.K hP q0 he hc j hk (h.ts _ hl) (fun _ z => z) hv hd (k p e R s m args below meth c H ls locs cells slots mc ms A h)
  · exact va_getN h.x h.b h.ts hin h.own h.K hP q0 he hc j hk (va_Nw.use rfl (h.T.1 _ hl)) (fun _ z => z) hv hd (k p e R s m args below meth c H ls locs cells slots mc ms A h)
theorem aw_put {idx ci j a : Nat} {fs : List Value} {v : Value} {ty : FieldType} (hd : decode M.2.1 pc = .ok (.putfield idx, 3)) (hF : aw_S M.1.cls idx ci j ty false) (hJ : J a = some (.inr (ci, fs))) (hn : narrow ty v = v) (hf : fits ty v = true) (hj : j < fs.length) (k : aw_W G M d Q (pc + 3) L st (aw_up J a (.inr (ci, fs.set j v))) kc ks) : aw_W G M d Q pc L (v :: .ref a :: st) J kc ks := by
  intro p e R s m args below meth c H ls locs cells slots mc ms A h
  obtain ⟨ws, hP, hD, hJw⟩ := h.2.2.2.1
  obtain ⟨q0, he⟩ := hJw _ _ hJ
  obtain ⟨C, T, N, ty0, hc, hk, hin, hty, hnm, hfin, hty1, hl, -⟩ := hF
  rcases hl with hl | ⟨-, host, hl⟩
  · exact va_put h.x h.b h.ts hin ty0 hty hnm h.own h.K hP hD h.S q0 he hc j hk (h.ts _ hl) (fun _ z => z) hfin hty1 hn hf hj hd (fun H1 locs1 hP1 hD1 hS1 => (k p e R s m args below meth c H1 ls locs1 cells slots mc ms A ⟨h.1, h.2.1, h.2.2.1, ⟨_, hP1, hD1, aw_R.put hJw he⟩, hS1⟩))
  · exact va_putN h.x h.b h.ts hin ty0 hty hnm h.own h.K hP hD h.S q0 he hc j hk (va_Nw.use rfl (h.T.1 _ hl)) (fun _ z => z) hfin hty1 hn hf hj hd (fun H1 locs1 hP1 hD1 hS1 => (k p e R s m args below meth c H1 ls locs1 cells slots mc ms A ⟨h.1, h.2.1, h.2.2.1, ⟨_, hP1, hD1, aw_R.put hJw he⟩, hS1⟩))
theorem aw_putF {idx ci j a : Nat} {fs : List Value} {v : Value} {ty : FieldType} (hd : decode M.2.1 pc = .ok (.putfield idx, 3)) (hF : aw_S M.1.cls idx ci j ty true) (hi : M.1.name = "<init>") (hJ : J a = some (.inr (ci, fs))) (hn : narrow ty v = v) (hf : fits ty v = true) (hj : j < fs.length) (k : aw_W G M d Q (pc + 3) L st (aw_up J a (.inr (ci, fs.set j v))) kc ks) : aw_W G M d Q pc L (v :: .ref a :: st) J kc ks := by
  intro p e R s m args below meth c H ls locs cells slots mc ms A h
  obtain ⟨ws, hP, hD, hJw⟩ := h.2.2.2.1
  obtain ⟨q0, he⟩ := hJw _ _ hJ
  obtain ⟨C, T, N, ty0, hc, hk, hin, hty, hnm, hfin, hty1, hl, hdecl⟩ := hF
  rcases hl with hl | ⟨hl, -⟩
  · exact va_putF h.x h.b h.ts hin ty0 hty hnm h.own h.K hP hD h.S q0 he hc j hk (h.ts _ hl) (fun _ z => z) hfin (h.nm.trans hi) (hdecl rfl) hty1 hn hf hj hd (fun H1 locs1 hP1 hD1 hS1 => (k p e R s m args below meth c H1 ls locs1 cells slots mc ms A ⟨h.1, h.2.1, h.2.2.1, ⟨_, hP1, hD1, aw_R.put hJw he⟩, hS1⟩))
  · cases hl
theorem aw_new {idx ci N kc' ks' : Nat} {fs : List Value} (hd : decode M.2.1 pc = .ok (.new idx, 3)) (hF : aw_N M.1.cls idx ci N fs) (hc0 : 1 + kc' ≤ kc) (hs0 : N + ks' ≤ ks) (k : ∀ q : Nat, J q = none → aw_W G M d Q (pc + 3) L (.ref q :: st) (aw_up J q (.inr (ci, fs))) kc' ks') : aw_W G M d Q pc L st J kc ks := by
  intro p e R s m args below meth c H ls locs cells slots mc ms A h
  obtain ⟨ws, hP, hD, hJw⟩ := h.2.2.2.1
  obtain ⟨C, T, ty, hc, hin, hty, hcl, hinst, hini, hfs⟩ := hF
  have h1 := h.2.1.2.2.1
  have h2 := h.2.1.2.2.2.1
  have h3 := h.2.1.2.2.2.2.1
  have h4 := h.2.1.2.2.2.2.2
  refine va_new h.x h.b h.ts hin ty hty h.own (h.ts _ hcl) (h.ts _ hinst) (h.ts _ hini) h.K hP hD h.S h.fr hc hfs (by omega) (by omega) hd (fun q H1 hP1 hD1 hS1 => ?_)
  exact k q (aw_R.fresh hJw hD1) p e R s m args below meth c H1 ls locs (cells + 1) (slots + N) mc ms A ⟨h.1, ⟨h.2.1.1, h.2.1.2.1, by omega, h2, by omega, h4⟩, h.2.2.1, ⟨_, hP1, hD1, aw_R.push hJw⟩, hS1⟩
theorem aw_iald {a n : Nat} {f : Nat → Int32} {i : Int32} (hd : decode M.2.1 pc = .ok (.iaload, 1)) (hJ : J a = some (.inl (G.2.2.1 0, n, .inl f))) (hi : vp_in i n) (k : aw_W G M d Q (pc + 1) L (.int (f i.toNatClampNeg) :: st) J kc ks) : aw_W G M d Q pc L (.int i :: .ref a :: st) J kc ks := by
  intro p e R s m args below meth c H ls locs cells slots mc ms A h
  obtain ⟨ws, hP, hD, hJw⟩ := h.2.2.2.1
  obtain ⟨q0, he⟩ := hJw _ _ hJ
  exact va_iald h.x h.b h.K hP q0 0 he rfl hi hd (k p e R s m args below meth c H ls locs cells slots mc ms A h)
theorem aw_zald {a n : Nat} {f : Nat → Int32} {i : Int32} (hd : decode M.2.1 pc = .ok (.baload, 1)) (hJ : J a = some (.inl (G.2.2.1 1, n, .inl f))) (hi : vp_in i n) (k : aw_W G M d Q (pc + 1) L (.int (f i.toNatClampNeg) :: st) J kc ks) : aw_W G M d Q pc L (.int i :: .ref a :: st) J kc ks := by
  intro p e R s m args below meth c H ls locs cells slots mc ms A h
  obtain ⟨ws, hP, hD, hJw⟩ := h.2.2.2.1
  obtain ⟨q0, he⟩ := hJw _ _ hJ
  exact va_zald h.x h.b h.K hP q0 1 he rfl hi hd (k p e R s m args below meth c H ls locs cells slots mc ms A h)
theorem aw_lald {a n : Nat} {f : Nat → Int64} {i : Int32} (hd : decode M.2.1 pc = .ok (.laload, 1)) (hJ : J a = some (.inl (G.2.2.1 2, n, .inr (.inl f)))) (hi : vp_in i n) (k : aw_W G M d Q (pc + 1) L (.long (f i.toNatClampNeg) :: st) J kc ks) : aw_W G M d Q pc L (.int i :: .ref a :: st) J kc ks := by
  intro p e R s m args below meth c H ls locs cells slots mc ms A h
  obtain ⟨ws, hP, hD, hJw⟩ := h.2.2.2.1
  obtain ⟨q0, he⟩ := hJw _ _ hJ
  exact va_lald h.x h.b h.K hP q0 2 he rfl hi hd (k p e R s m args below meth c H ls locs cells slots mc ms A h)
theorem aw_iast {a n : Nat} {f : Nat → Int32} {i : Int32} {x : Int32} (hd : decode M.2.1 pc = .ok (.iastore, 1)) (hJ : J a = some (.inl (G.2.2.1 0, n, .inl f))) (hi : vp_in i n) (k : aw_W G M d Q (pc + 1) L st (aw_up J a (.inl (G.2.2.1 0, n, .inl (upd f i.toNatClampNeg x)))) kc ks) : aw_W G M d Q pc L (.int x :: .int i :: .ref a :: st) J kc ks := by
  intro p e R s m args below meth c H ls locs cells slots mc ms A h
  obtain ⟨ws, hP, hD, hJw⟩ := h.2.2.2.1
  obtain ⟨q0, he⟩ := hJw _ _ hJ
  exact va_iast h.x h.b h.K hP hD h.S q0 0 he rfl hi hd (fun H1 locs1 hP1 hD1 hS1 => (k p e R s m args below meth c H1 ls locs1 cells slots mc ms A ⟨h.1, h.2.1, h.2.2.1, ⟨_, hP1, hD1, aw_R.put hJw he⟩, hS1⟩))
theorem aw_zast {a n : Nat} {f : Nat → Int32} {i : Int32} {x : Int32} (hd : decode M.2.1 pc = .ok (.bastore, 1)) (hJ : J a = some (.inl (G.2.2.1 1, n, .inl f))) (hi : vp_in i n) (k : aw_W G M d Q (pc + 1) L st (aw_up J a (.inl (G.2.2.1 1, n, .inl (upd f i.toNatClampNeg (vp_nar .boolean x))))) kc ks) : aw_W G M d Q pc L (.int x :: .int i :: .ref a :: st) J kc ks := by
  intro p e R s m args below meth c H ls locs cells slots mc ms A h
  obtain ⟨ws, hP, hD, hJw⟩ := h.2.2.2.1
  obtain ⟨q0, he⟩ := hJw _ _ hJ
  exact va_zast h.x h.b h.K hP hD h.S q0 1 he rfl hi hd (fun H1 locs1 hP1 hD1 hS1 => (k p e R s m args below meth c H1 ls locs1 cells slots mc ms A ⟨h.1, h.2.1, h.2.2.1, ⟨_, hP1, hD1, aw_R.put hJw he⟩, hS1⟩))
theorem aw_last {a n : Nat} {f : Nat → Int64} {i : Int32} {x : Int64} (hd : decode M.2.1 pc = .ok (.lastore, 1)) (hJ : J a = some (.inl (G.2.2.1 2, n, .inr (.inl f)))) (hi : vp_in i n) (k : aw_W G M d Q (pc + 1) L st (aw_up J a (.inl (G.2.2.1 2, n, .inr (.inl (vp_updL f i.toNatClampNeg x))))) kc ks) : aw_W G M d Q pc L (.long x :: .int i :: .ref a :: st) J kc ks := by
  intro p e R s m args below meth c H ls locs cells slots mc ms A h
  obtain ⟨ws, hP, hD, hJw⟩ := h.2.2.2.1
  obtain ⟨q0, he⟩ := hJw _ _ hJ
  exact va_last h.x h.b h.K hP hD h.S q0 2 he rfl hi hd (fun H1 locs1 hP1 hD1 hS1 => (k p e R s m args below meth c H1 ls locs1 cells slots mc ms A ⟨h.1, h.2.1, h.2.2.1, ⟨_, hP1, hD1, aw_R.put hJw he⟩, hS1⟩))
theorem aw_aald {a n t : Nat} {C : String} {f : Nat → Option Nat} {i : Int32} (hd : decode M.2.1 pc = .ok (.aaload, 1)) (ht : (aw_tys G)[t]? = some (G.2.2.1 t, .object C)) (hJ : J a = some (.inl (G.2.2.1 t, n, .inr (.inr (.inr (.inr f)))))) (hi : vp_in i n) (k : aw_W G M d Q (pc + 1) L (va_rf (f i.toNatClampNeg) :: st) J kc ks) : aw_W G M d Q pc L (.int i :: .ref a :: st) J kc ks := by
  intro p e R s m args below meth c H ls locs cells slots mc ms A h
  obtain ⟨ws, hP, hD, hJw⟩ := h.2.2.2.1
  obtain ⟨q0, he⟩ := hJw _ _ hJ
  exact va_aldq h.x h.b h.K hP q0 t he ht hi hd (k p e R s m args below meth c H ls locs cells slots mc ms A h)
theorem aw_aast {a n t v ci : Nat} {r : vw_C} {vs : List Value} {f : Nat → Option Nat} {i : Int32} (hd : decode M.2.1 pc = .ok (.aastore, 1)) (ht : (aw_tys G)[t]? = some (G.2.2.1 t, .object r.1)) (hr : aw_cl[ci]? = some r) (hJ : J a = some (.inl (G.2.2.1 t, n, .inr (.inr (.inr (.inr f)))))) (hv : J v = some (.inr (ci, vs))) (hi : vp_in i n) (k : aw_W G M d Q (pc + 1) L st (aw_up J a (.inl (G.2.2.1 t, n, .inr (.inr (.inr (.inr (va_up f i.toNatClampNeg (some v)))))))) kc ks) : aw_W G M d Q pc L (.ref v :: .int i :: .ref a :: st) J kc ks := by
  intro p e R s m args below meth c H ls locs cells slots mc ms A h
  obtain ⟨ws, hP, hD, hJw⟩ := h.2.2.2.1
  obtain ⟨q0, he⟩ := hJw _ _ hJ
  obtain ⟨qk, hek⟩ := hJw _ _ hv
  exact va_astq h.x h.b h.K hP hD h.S q0 t qk ci he ht hek hr hi hd (fun H1 locs1 hP1 hD1 hS1 => (k p e R s m args below meth c H1 ls locs1 cells slots mc ms A ⟨h.1, h.2.1, h.2.2.1, ⟨_, hP1, hD1, aw_R.put hJw he⟩, hS1⟩))
theorem aw_aastN {a n t : Nat} {C : String} {f : Nat → Option Nat} {i : Int32} (hd : decode M.2.1 pc = .ok (.aastore, 1)) (ht : (aw_tys G)[t]? = some (G.2.2.1 t, .object C)) (hJ : J a = some (.inl (G.2.2.1 t, n, .inr (.inr (.inr (.inr f)))))) (hi : vp_in i n) (k : aw_W G M d Q (pc + 1) L st (aw_up J a (.inl (G.2.2.1 t, n, .inr (.inr (.inr (.inr (va_up f i.toNatClampNeg none))))))) kc ks) : aw_W G M d Q pc L (.null :: .int i :: .ref a :: st) J kc ks := by
  intro p e R s m args below meth c H ls locs cells slots mc ms A h
  obtain ⟨ws, hP, hD, hJw⟩ := h.2.2.2.1
  obtain ⟨q0, he⟩ := hJw _ _ hJ
  exact va_astqN h.x h.b h.K hP hD h.S q0 t he ht hi hd (fun H1 locs1 hP1 hD1 hS1 => (k p e R s m args below meth c H1 ls locs1 cells slots mc ms A ⟨h.1, h.2.1, h.2.2.1, ⟨_, hP1, hD1, aw_R.put hJw he⟩, hS1⟩))
theorem aw_alen {a t : Nat} {x : vp_A} {ty : FieldType} (hd : decode M.2.1 pc = .ok (.arraylength, 1)) (ht : (aw_tys G)[t]? = some (G.2.2.1 t, ty)) (hJ : J a = some (.inl (G.2.2.1 t, x))) (k : aw_W G M d Q (pc + 1) L (.int (Int32.ofNat x.1) :: st) J kc ks) : aw_W G M d Q pc L (.ref a :: st) J kc ks := by
  intro p e R s m args below meth c H ls locs cells slots mc ms A h
  obtain ⟨ws, hP, hD, hJw⟩ := h.2.2.2.1
  obtain ⟨q0, he⟩ := hJw _ _ hJ
  exact va_alen h.x h.b h.K hP q0 t he ht rfl hd (k p e R s m args below meth c H ls locs cells slots mc ms A h)
theorem aw_newI {n : Int32} {N kc' ks' : Nat} (hd : decode M.2.1 pc = .ok (.newarray .int, 2)) (hw : Cond.arrayClass .int ∈ aw_TB) (hn : ¬ n < 0) (hN : n.toNatClampNeg = N) (hb0 : N ≤ 60000) (hc0 : 1 + kc' ≤ kc) (hs0 : N + ks' ≤ ks) (k : ∀ q : Nat, J q = none → aw_W G M d Q (pc + 2) L (.ref q :: st) (aw_up J q (.inl (G.2.2.1 0, N, .inl (fun _ => 0)))) kc' ks') : aw_W G M d Q pc L (.int n :: st) J kc ks := by
  intro p e R s m args below meth c H ls locs cells slots mc ms A h
  obtain ⟨ws, hP, hD, hJw⟩ := h.2.2.2.1
  have h1 := h.2.1.2.2.1
  have h2 := h.2.1.2.2.2.1
  have h3 := h.2.1.2.2.2.2.1
  have h4 := h.2.1.2.2.2.2.2
  refine va_newa (atype := .int) (ty := .int) h.x h.b (h.ts _ hw) rfl h.K hP hD h.S h.fr (a0 := (N, .inl (fun _ => 0))) (fun _ => rfl) hn hN (by show N * 4 ≤ _; omega) (by omega) (by omega) hd (fun q cA H1 hK1 hP1 hD1 hS1 => ?_)
  have e1 : s.vm.findClass ("[" ++ FieldType.toString .int) = some cA := (hK1.2 (aw_tys G).length (cA, .int) (by simp)).2
  have e2 : s.vm.findClass ("[" ++ FieldType.toString .int) = some (G.2.2.1 0) := (h.K.2 0 _ rfl).2
  cases Option.some.inj (e1.symm.trans e2)
  exact k q (aw_R.fresh hJw hD1) p e R s m args below meth c H1 ls locs (cells + 1) (slots + N) mc ms A ⟨h.1, ⟨h.2.1.1, h.2.1.2.1, by omega, h2, by omega, h4⟩, h.2.2.1, ⟨_, hP1, hD1, aw_R.push hJw⟩, hS1⟩
theorem aw_newZ {n : Int32} {N kc' ks' : Nat} (hd : decode M.2.1 pc = .ok (.newarray .boolean, 2)) (hw : Cond.arrayClass .boolean ∈ aw_TB) (hn : ¬ n < 0) (hN : n.toNatClampNeg = N) (hb0 : N ≤ 60000) (hc0 : 1 + kc' ≤ kc) (hs0 : N + ks' ≤ ks) (k : ∀ q : Nat, J q = none → aw_W G M d Q (pc + 2) L (.ref q :: st) (aw_up J q (.inl (G.2.2.1 1, N, .inl (fun _ => 0)))) kc' ks') : aw_W G M d Q pc L (.int n :: st) J kc ks := by
  intro p e R s m args below meth c H ls locs cells slots mc ms A h
  obtain ⟨ws, hP, hD, hJw⟩ := h.2.2.2.1
  have h1 := h.2.1.2.2.1
  have h2 := h.2.1.2.2.2.1
  have h3 := h.2.1.2.2.2.2.1
  have h4 := h.2.1.2.2.2.2.2
  refine va_newa (atype := .boolean) (ty := .boolean) h.x h.b (h.ts _ hw) rfl h.K hP hD h.S h.fr (a0 := (N, .inl (fun _ => 0))) (fun _ => rfl) hn hN (by show N * 1 ≤ _; omega) (by omega) (by omega) hd (fun q cA H1 hK1 hP1 hD1 hS1 => ?_)
  have e1 : s.vm.findClass ("[" ++ FieldType.toString .boolean) = some cA := (hK1.2 (aw_tys G).length (cA, .boolean) (by simp)).2
  have e2 : s.vm.findClass ("[" ++ FieldType.toString .boolean) = some (G.2.2.1 1) := (h.K.2 1 _ rfl).2
  cases Option.some.inj (e1.symm.trans e2)
  exact k q (aw_R.fresh hJw hD1) p e R s m args below meth c H1 ls locs (cells + 1) (slots + N) mc ms A ⟨h.1, ⟨h.2.1.1, h.2.1.2.1, by omega, h2, by omega, h4⟩, h.2.2.1, ⟨_, hP1, hD1, aw_R.push hJw⟩, hS1⟩
theorem aw_newJ {n : Int32} {N kc' ks' : Nat} (hd : decode M.2.1 pc = .ok (.newarray .long, 2)) (hw : Cond.arrayClass .long ∈ aw_TB) (hn : ¬ n < 0) (hN : n.toNatClampNeg = N) (hb0 : N ≤ 60000) (hc0 : 1 + kc' ≤ kc) (hs0 : N + ks' ≤ ks) (k : ∀ q : Nat, J q = none → aw_W G M d Q (pc + 2) L (.ref q :: st) (aw_up J q (.inl (G.2.2.1 2, N, .inr (.inl (fun _ => 0))))) kc' ks') : aw_W G M d Q pc L (.int n :: st) J kc ks := by
  intro p e R s m args below meth c H ls locs cells slots mc ms A h
  obtain ⟨ws, hP, hD, hJw⟩ := h.2.2.2.1
  have h1 := h.2.1.2.2.1
  have h2 := h.2.1.2.2.2.1
  have h3 := h.2.1.2.2.2.2.1
  have h4 := h.2.1.2.2.2.2.2
  refine va_newa (atype := .long) (ty := .long) h.x h.b (h.ts _ hw) rfl h.K hP hD h.S h.fr (a0 := (N, .inr (.inl (fun _ => 0)))) (fun _ => rfl) hn hN (by show N * 8 ≤ _; omega) (by omega) (by omega) hd (fun q cA H1 hK1 hP1 hD1 hS1 => ?_)
  have e1 : s.vm.findClass ("[" ++ FieldType.toString .long) = some cA := (hK1.2 (aw_tys G).length (cA, .long) (by simp)).2
  have e2 : s.vm.findClass ("[" ++ FieldType.toString .long) = some (G.2.2.1 2) := (h.K.2 2 _ rfl).2
  cases Option.some.inj (e1.symm.trans e2)
  exact k q (aw_R.fresh hJw hD1) p e R s m args below meth c H1 ls locs (cells + 1) (slots + N) mc ms A ⟨h.1, ⟨h.2.1.1, h.2.1.2.1, by omega, h2, by omega, h4⟩, h.2.2.1, ⟨_, hP1, hD1, aw_R.push hJw⟩, hS1⟩
theorem aw_newQ {idx t : Nat} {C : String} {n : Int32} {N kc' ks' : Nat} (hd : decode M.2.1 pc = .ok (.anewarray idx, 3)) (ht : (aw_tys G)[t]? = some (G.2.2.1 t, .object C)) (hw : Cond.classLink M.1.cls idx C ∈ aw_TB) (hC : C ∈ aw_AO) (hn : ¬ n < 0) (hN : n.toNatClampNeg = N) (hb0 : N ≤ 60000) (hc0 : 1 + kc' ≤ kc) (hs0 : N + ks' ≤ ks) (k : ∀ q : Nat, J q = none → aw_W G M d Q (pc + 3) L (.ref q :: st) (aw_up J q (.inl (G.2.2.1 t, N, .inr (.inr (.inr (.inr (fun _ => none))))))) kc' ks') : aw_W G M d Q pc L (.int n :: st) J kc ks := by
  intro p e R s m args below meth c H ls locs cells slots mc ms A h
  obtain ⟨ws, hP, hD, hJw⟩ := h.2.2.2.1
  have h1 := h.2.1.2.2.1
  have h2 := h.2.1.2.2.2.1
  have h3 := h.2.1.2.2.2.2.1
  have h4 := h.2.1.2.2.2.2.2
  refine va_newq h.x h.b h.own (h.ts _ hw) (h.T.2.2.1 _ hC) h.K hP hD h.S h.fr hn hN (by omega) (by omega) (by omega) hd (fun q cA H1 hK1 hP1 hD1 hS1 => ?_)
  obtain ⟨kA, comp, -, -, -, e1⟩ := (hK1.2 (aw_tys G).length (cA, .object C) (by simp)).2
  obtain ⟨kA2, comp2, -, -, -, e2⟩ := (h.K.2 t _ ht).2
  cases Option.some.inj (e1.symm.trans e2)
  exact k q (aw_R.fresh hJw hD1) p e R s m args below meth c H1 ls locs (cells + 1) (slots + N) mc ms A ⟨h.1, ⟨h.2.1.1, h.2.1.2.1, by omega, h2, by omega, h4⟩, h.2.2.1, ⟨_, hP1, hD1, aw_R.push hJw⟩, hS1⟩
theorem aw_gets {idx i : Nat} (hd : decode M.2.1 pc = .ok (.getstatic idx, 3)) (hi : i < 3) (hw : Cond.fieldLink M.1.cls idx aw_En (aw_en.getD i "") "LScopeTree$State;" ∈ aw_TB) (k : aw_W G M d Q (pc + 3) L (.ref (G.2.2.2.1 i) :: st) J kc ks) : aw_W G M d Q pc L st J kc ks := fun p e R s m args below meth c H ls locs cells slots mc ms A h => va_gets h.x h.b (h.Z.1.1 i hi).1 h.S h.own (h.ts _ hw) (fun _ z => z) hd (k p e R s m args below meth c H ls locs cells slots mc ms A h)
theorem aw_sld {i : Int32} (hd : decode M.2.1 pc = .ok (.iaload, 1)) (hi : vp_in i G.2.2.2.2.2.1) (k : aw_W G M d Q (pc + 1) L (.int (G.2.2.2.2.2.2 i.toNatClampNeg) :: st) J kc ks) : aw_W G M d Q pc L (.int i :: .ref G.2.2.2.2.1 :: st) J kc ks := fun p e R s m args below meth c H ls locs cells slots mc ms A h => va_sld h.x h.b h.Z.2.2.2.1 h.Z.2.2.2.2.1 h.Z.2.2.2.2.2 h.S hi hd (k p e R s m args below meth c H ls locs cells slots mc ms A h)
theorem aw_slen (hd : decode M.2.1 pc = .ok (.arraylength, 1)) (k : aw_W G M d Q (pc + 1) L (.int (Int32.ofNat G.2.2.2.2.2.1) :: st) J kc ks) : aw_W G M d Q pc L (.ref G.2.2.2.2.1 :: st) J kc ks := fun p e R s m args below meth c H ls locs cells slots mc ms A h => va_slen h.x h.b h.Z.2.2.2.1 h.Z.2.2.2.2.1 h.Z.2.2.2.2.2 h.S hd (k p e R s m args below meth c H ls locs cells slots mc ms A h)
theorem aw_oinit {idx a : Nat} (hd : decode M.2.1 pc = .ok (.invokespecial idx, 3)) (hw : Cond.methodLink M.1.cls idx objectInit ∈ aw_TB) (hw1 : Cond.instanceMethod objectInit ∈ aw_TB) (hw2 : Cond.code objectInit ⟨#[0xb1]⟩ 1 none ∈ aw_TB) (hst : (st.map fun v => v.category).sum ≤ 100) (k : aw_W G M d Q (pc + 3) L st J kc ks) : aw_W G M d Q pc L (.ref a :: st) J kc ks := fun p e R s m args below meth c H ls locs cells slots mc ms A h => W.objInit h.x h.b h.own (h.ts _ hw) (h.ts _ hw1) (h.ts _ hw2) rfl (by rw [h.ml]; exact h.sz) rfl hd (by have := h.2.1.1; unfold aw_fr at this; omega) (by have := h.2.1.2.1; unfold aw_lo at this; show 2 * 0 + _ + 12 ≤ _; omega) (k p e R s m args below meth c H ls locs cells slots mc ms A h)
theorem aw_max {idx : Nat} {x y : Int32} (hd : decode M.2.1 pc = .ok (.invokestatic idx, 3)) (hw : Cond.methodLink M.1.cls idx Lib.Math.max.name ∈ aw_TB) (hw1 : Cond.static Lib.Math.max.name ∈ aw_TB) (hw2 : Cond.initialized "java/lang/Math" ∈ aw_TB) (hw3 : Cond.code Lib.Math.max.name Lib.Math.max.code 2 (some .int) ∈ aw_TB) (hst : (st.map fun v => v.category).sum ≤ 100) (k : aw_W G M d Q (pc + 3) L (.int (if x < y then y else x) :: st) J kc ks) : aw_W G M d Q pc L (.int y :: .int x :: st) J kc ks := fun p e R s m args below meth c H ls locs cells slots mc ms A h => va_mmax h.x h.b (by rw [h.ml, h.sz]) h.own (h.ts _ hw) (h.ts _ hw1) (h.ts _ hw2) (h.ts _ hw3) (by have := h.2.1.1; unfold aw_fr at this; omega) (by have := h.2.1.2.1; unfold aw_lo at this; omega) (by have := h.2.1.2.2; omega) (by have := h.2.1.2.2; omega) hd (k p e R s m args below meth c H ls locs cells slots mc ms A h)
end AWH
end
section
/-! AW: calls, throws, catches -/
def aw_K (k1 : Option Value → aw_J → Prop) (k2 : String → aw_J → Prop) : aw_O → aw_J → Prop := fun oc J => match oc with
  | .inl v => k1 v J
  | .inr E => k2 E J
def aw_Pc (G : aw_G) (vs : List Value) (ws : va_W) (sz : Nat) : Array Value → State → Prop := va_Pc vs (fun U => U.heap.size = sz ∧ va_P G.2.1 aw_cl ws U.heap ∧ va_D (fun _ => True) ws ∧ aw_T G U ∧ aw_Z G (va_A ws sz) U U.heap)
def aw_rm (d mc ms : Nat) : Room := { frames := aw_fr d, cells := mc, slots := ms, locals := aw_lo d }
def aw_ws (M : aw_M) : List Cond := Cond.code M.1 M.2.1 M.2.2.1 M.2.2.2.1 :: aw_TB
def aw_wsW (M : aw_M) : List Cond := Cond.codeWith M.1 M.2.1 M.2.2.1 M.2.2.2.1 M.2.2.2.2 :: aw_TB
theorem aw_gin {big : List Cond} (h : ∀ w ∈ big, w ∈ aw_TB) : GoodIn aw_TB big := fun w hw => ⟨h w hw, aw_TB_good w (h w hw)⟩
theorem aw_blind {G : aw_G} {vs : List Value} {ws : va_W} {sz : Nat} : FrameBlind (aw_Pc G vs ws sz) := by
  intro a U g mk q
  obtain ⟨q0, q1, qP, qD, qT, qZ⟩ := q
  exact ⟨q0, q1, qP, qD, aw_T.same (u := U) (U := U.calling g mk a) rfl qT, aw_Z.moved (u := U) (U := U.calling g mk a) (Vm.Alike.refl U.vm) qZ⟩
section AWM
variable {G : aw_G} {M : aw_M} {d : Nat} {Q : aw_O → aw_J → Prop} {J : aw_J} {mc ms : Nat} {vs : List Value} {ws : va_W} {sz : Nat}
theorem aw_met (hy : plainName M.1.cls = true) (hh : M.2.2.2.2 = []) (hlen : (lg_sl vs).length ≤ M.2.2.1) (hoff : G.1.stackTraces = false) (hJw : ∀ (a : Nat) (e : va_E), J a = some e → ∃ k : Nat, ws[k]? = some (a, e)) (k : aw_W G M d Q 0 (aw_ent vs M.2.2.1) [] J mc ms) :
    vx_Met G.1 M.1 (aw_ws M) (aw_rm d mc ms) (aw_Pc G vs ws sz) (aw_Qc G Q (va_A ws sz)) (aw_XC G Q (va_A ws sz)) mc ms (va_A ws sz) := by
  refine vx_ofW (cc := M.2.1) (maxL := M.2.2.1) (ret := M.2.2.2.1) hy rfl ?_
  intro p e s m args below meth c s₁ B hml hex hPc
  obtain ⟨rfl, hsz, hP, hD, hT, hZ⟩ := hPc
  have hts := atoms_spec (ws := aw_ws M) B.pre
  subst hsz
  rw [lg_entry_eq]
  refine k p e _ s m _ below meth c s.heap _ [] 0 0 mc ms (va_A ws s.heap.size) ⟨⟨B.exec, B.bytes, hml, B.returns, B.notSynchronized, findClass_of_methodNamed B.named, (name_of_methodNamed B.named B.method).1, ?_, fun w hw => hts w (List.mem_cons_of_mem _ hw), hT, hZ, fun q h => Or.inr h, hoff⟩, ⟨Nat.le_refl _, Nat.le_refl _, by omega, Nat.le_refl _, by omega, Nat.le_refl _⟩, ?_, ⟨ws, hP, hD.self, hJw⟩, va_S.rf⟩
  · rw [hh]
    exact List.eq_nil_iff_forall_not_mem.mpr (fun x hx => hex x hx)
  · show lv_has _ _ (aw_ps 0 (aw_ent vs M.2.2.1))
    rw [aw_ent_args]
    exact lv_entry vs hlen
theorem aw_metW (hy : plainName M.1.cls = true) (hlen : (lg_sl vs).length ≤ M.2.2.1) (hoff : G.1.stackTraces = false) (hJw : ∀ (a : Nat) (e : va_E), J a = some e → ∃ k : Nat, ws[k]? = some (a, e)) (k : aw_W G M d Q 0 (aw_ent vs M.2.2.1) [] J mc ms) :
    vx_Met G.1 M.1 (aw_wsW M) (aw_rm d mc ms) (aw_Pc G vs ws sz) (aw_Qc G Q (va_A ws sz)) (aw_XC G Q (va_A ws sz)) mc ms (va_A ws sz) := by
  refine vx_ofWH (cc := M.2.1) (maxL := M.2.2.1) (ret := M.2.2.2.1) (hh := M.2.2.2.2) hy rfl ?_
  intro p e s m args below meth c s₁ B hml hPc
  obtain ⟨rfl, hsz, hP, hD, hT, hZ⟩ := hPc
  have hts := atoms_spec (ws := aw_wsW M) B.pre
  have htab : c.exceptionTable.toList = tableOf M.2.2.2.2 := vx_table (x := M.1) B (hts _ List.mem_cons_self)
  subst hsz
  rw [lg_entry_eq]
  refine k p e _ s m _ below meth c s.heap _ [] 0 0 mc ms (va_A ws s.heap.size) ⟨⟨B.exec, B.bytes, hml, B.returns, B.notSynchronized, findClass_of_methodNamed B.named, (name_of_methodNamed B.named B.method).1, htab, fun w hw => hts w (List.mem_cons_of_mem _ hw), hT, hZ, fun q h => Or.inr h, hoff⟩, ⟨Nat.le_refl _, Nat.le_refl _, by omega, Nat.le_refl _, by omega, Nat.le_refl _⟩, ?_, ⟨ws, hP, hD.self, hJw⟩, va_S.rf⟩
  show lv_has _ _ (aw_ps 0 (aw_ent vs M.2.2.1))
  rw [aw_ent_args]
  exact lv_entry vs hlen
end AWM
/-- a contract with no throw -/
theorem aw_plain {l : Launch} {y : MethodName} {ws : List Cond} {rm : Room} {Pc : Array Value → State → Prop} {Qc : Array Value → State → Outcome → State → Prop} {XC : String → State → State → Prop} {mc ms : Nat} {free : Addr → Prop} (h : vx_Met l y ws rm Pc Qc XC mc ms free) (hx : ∀ E st t, ¬ XC E st t) : Met l y ws rm Pc Qc mc ms free := by
  intro p e ha hc hk s m args below hf happ hP hK
  obtain ⟨n, oc, h1, h2, h3, h4⟩ := h p e ha hc hk s m args below hf happ hP hK
  rcases h4 with h4 | ⟨q, -, E, ce, Lo, hX, -⟩
  · exact ⟨n, oc, h1, h2, h3, h4⟩
  · exact absurd hX (hx E _ _)
theorem aw_noX {G : aw_G} {k1 : Option Value → aw_J → Prop} {A : Nat → Prop} (E : String) (st t : State) : ¬ aw_XC G (aw_K k1 (fun _ _ => False)) A E st t := fun ⟨_, h, _⟩ => h
/-- a callee: what the tables say of it -/
def aw_CB (M' : aw_M) (n : Nat) : Prop := plainName M'.1.cls = true ∧ M'.2.2.2.2 = [] ∧ M'.2.2.1 ≤ 45 ∧ Cond.code M'.1 M'.2.1 M'.2.2.1 M'.2.2.2.1 ∈ aw_TB ∧ Cond.initialized M'.1.cls ∈ aw_TB ∧ (M'.1.cls ≠ "java/lang/invoke/MethodHandle" ∧ M'.1.cls ≠ "java/lang/invoke/VarHandle" ∧ (parseMethodDescriptor M'.1.desc).map (fun d => d.parameters.length) = some n)
def aw_CBW (M' : aw_M) (n : Nat) : Prop := plainName M'.1.cls = true ∧ M'.2.2.1 ≤ 45 ∧ Cond.codeWith M'.1 M'.2.1 M'.2.2.1 M'.2.2.2.1 M'.2.2.2.2 ∈ aw_TB ∧ Cond.initialized M'.1.cls ∈ aw_TB ∧ (M'.1.cls ≠ "java/lang/invoke/MethodHandle" ∧ M'.1.cls ≠ "java/lang/invoke/VarHandle" ∧ (parseMethodDescriptor M'.1.desc).map (fun d => d.parameters.length) = some n)
def aw_CV (own : String) (idx : Nat) (M' : aw_M) (ci n : Nat) : Prop := aw_CB M' n ∧ (∃ (T : u_T) (N : Nat), aw_cl[ci]? = some (M'.1.cls, T, N)) ∧ Cond.instanceMethod M'.1 ∈ aw_TB ∧ Cond.selects M'.1.cls M'.1 M'.1 ∈ aw_TB ∧ Cond.methodLink own idx M'.1 ∈ aw_TB
def aw_CVN (own : String) (idx : Nat) (M' : aw_M) (ci n : Nat) : Prop := aw_CB M' n ∧ (∃ (T : u_T) (N : Nat), aw_cl[ci]? = some (M'.1.cls, T, N)) ∧ Cond.instanceMethod M'.1 ∈ aw_TB ∧ Cond.selects M'.1.cls M'.1 M'.1 ∈ aw_TB ∧ ∃ host : String, Cond.methodLinkNest own idx M'.1 host ∈ aw_NB
def aw_CS (own : String) (idx : Nat) (M' : aw_M) (n : Nat) : Prop := aw_CB M' n ∧ Cond.static M'.1 ∈ aw_TB ∧ Cond.methodLink own idx M'.1 ∈ aw_TB
def aw_CSW (own : String) (idx : Nat) (M' : aw_M) (n : Nat) : Prop := aw_CBW M' n ∧ Cond.static M'.1 ∈ aw_TB ∧ Cond.methodLink own idx M'.1 ∈ aw_TB
def aw_CI (own : String) (idx : Nat) (M' : aw_M) (n : Nat) : Prop := aw_CB M' n ∧ M'.1.name = "<init>" ∧ M'.2.2.2.1 = none ∧ Cond.instanceMethod M'.1 ∈ aw_TB ∧ Cond.methodLink own idx M'.1 ∈ aw_TB
def aw_CIN (own : String) (idx : Nat) (M' : aw_M) (n : Nat) : Prop := aw_CB M' n ∧ M'.1.name = "<init>" ∧ M'.2.2.2.1 = none ∧ Cond.instanceMethod M'.1 ∈ aw_TB ∧ ∃ host : String, Cond.methodLinkNest own idx M'.1 host ∈ aw_NB
section AWR
variable {G : aw_G} {M : aw_M} {d : Nat} {Q Q' : aw_O → aw_J → Prop} {pc : Nat} {L : List (Option Value)} {st : List Value} {J : aw_J} {kc ks kc' ks' mc' ms' : Nat}
variable {p : Program} {e : Env} {R : Room} {s : State} {m : MethodId} {args : Array Value} {below : List Frame} {meth : Method} {c : Code} {H : Heap} {ls : Array Slot} {locs : List Loc} {cells slots mc ms : Nat} {A : Nat → Prop} {ws : va_W}
theorem aw_ofRun {g : JFrame} {rest : List Value} {Qa : State → Outcome → State → Prop} {XC : String → State → State → Prop} {free : Addr → Prop} {l : Launch} (h : va_Run p l e R s m args below meth c H locs cells slots mc' ms' g rest Qa free) : vx_Run p l e R s m args below meth c H locs cells slots mc' ms' g rest Qa XC free := fun T hT X => Or.inl (h T hT X)
theorem aw_wide (h : aw_I G M d L J kc ks p R s m args meth c H ls locs cells slots mc ms A) (hD : va_D A ws) : ∀ q, va_A ws H.size q → A q := by
  intro q hq
  rcases hq with ⟨k, e, hk⟩ | hq
  · exact hD.2 k _ hk
  · exact h.fr q (Nat.le_trans h.S.1 hq)
theorem aw_pre {vs : List Value} (h : aw_I G M d L J kc ks p R s m args meth c H ls locs cells slots mc ms A) (hP : va_P G.2.1 aw_cl ws H) (hD : va_D A ws) : ∀ U : State, U.heap = H → s.WarmedH U.vm → aw_Pc G vs ws H.size vs.toArray U := fun U hU hW =>
  ⟨rfl, by rw [hU], by rw [hU]; exact hP, hD.weaken (fun _ _ _ _ => trivial), aw_T.warm hW h.T, by rw [hU]; exact aw_Z.moved hW.alike ((h.Z.kept h.S.1 h.S.2.1).narrow (aw_wide h hD))⟩
/-- behind a call: the walk goes on, by the callee's end -/
theorem aw_after {st0 : List Value} {a : Array Value} (hr : vx_Run p G.1 e R s m args below meth c H locs cells slots mc' ms' (F0 m pc ls st0) st (aw_Qc G Q' (va_A ws H.size) a) (aw_XC G Q' (va_A ws H.size)) (va_A ws H.size)) (h : aw_I G M d L J kc ks p R s m args meth c H ls locs cells slots mc ms A) (hD : va_D A ws)
    (k1 : ∀ (v : Option Value) (J' : aw_J), Q' (.inl v) J' → aw_W G M d Q (pc + 3) L (v.toList ++ st) J' kc' ks')
    (k2 : ∀ (E : String) (J' : aw_J), Q' (.inr E) J' → ∀ (H1 : Heap) (locs1 : List Loc) (q : Nat) (ce : Cell), aw_I G M d L J' kc' ks' p R s m args meth c H1 ls locs1 (cells + mc') (slots + ms') mc ms A → H1[q]? = some ce → ce.vm = .none → s.vm.findClass E = some ce.cls → vx_W p G.1 e R s m args below meth c H1 locs1 (cells + mc') (slots + ms') (vx_MQ below (aw_Qc G Q A) (aw_XC G Q A) args s mc ms A) (F0 m pc ls st) q)
    (hc : mc' + kc' ≤ kc) (hs : ms' + ks' ≤ ks) : W p G.1 e R s m args below meth c H locs cells slots (vx_MQ below (aw_Qc G Q A) (aw_XC G Q A) args s mc ms A) (F0 m pc ls st0) := by
  intro T hT X
  have hA := aw_wide h hD
  have b1 := h.2.1.2.2.1
  have b2 := h.2.1.2.2.2.1
  have b3 := h.2.1.2.2.2.2.1
  have b4 := h.2.1.2.2.2.2.2
  rcases hr T hT X with ⟨v, st₀, t, T', Lo, h0, X', hL, e1, e2, ⟨v', J', hv, hQ, hR, hF⟩, stp⟩ | ⟨q, st₀, t, T', Lo, E, ce, h0, X', hL, e1, e2, ⟨J', hQ, hR, hF⟩, hce, hcv, hcl, stp⟩
  · cases hv
    obtain ⟨z1, z2, z3⟩ := vx_keep h0 e1 h.S (fun q _ z => hA q z) (fun q z => hA q z) hL hF
    obtain ⟨ws', hP', hD', hJ'⟩ := hR
    obtain ⟨t2, a1, b⟩ := k1 v J' hQ p e R s m args below meth c T'.heap ls (locs ++ Lo) (cells + mc') (slots + ms') mc ms A ⟨h.1, ⟨h.2.1.1, h.2.1.2.1, by omega, b2, by omega, b4⟩, h.2.2.1, ⟨ws', by rw [e1]; exact hP', hD'.weaken (fun _ _ _ z => hA _ z), hJ'⟩, z3⟩ T' rfl X'
    exact ⟨t2, stp t2 a1, b⟩
  · obtain ⟨z1, z2, z3⟩ := vx_keep h0 e1 h.S (fun q _ z => hA q z) (fun q z => hA q z) hL hF
    obtain ⟨ws', hP', hD', hJ'⟩ := hR
    obtain ⟨t2, a1, b⟩ := k2 E J' hQ T'.heap (locs ++ Lo) q ce ⟨h.1, ⟨h.2.1.1, h.2.1.2.1, by omega, b2, by omega, b4⟩, h.2.2.1, ⟨ws', by rw [e1]; exact hP', hD'.weaken (fun _ _ _ z => hA _ z), hJ'⟩, z3⟩ (by rw [e1]; exact hce) hcv hcl T' rfl X'
    exact ⟨t2, stp.trans a1, b⟩
theorem aw_outs (hX : M.2.2.2.2 = []) {E : String} (hQ : Q (.inr E) J) {q : Nat} {ce : Cell} (h : aw_I G M d L J kc ks p R s m args meth c H ls locs cells slots mc ms A) (hce : H[q]? = some ce) (hcv : ce.vm = .none) (hcl : s.vm.findClass E = some ce.cls) : vx_W p G.1 e R s m args below meth c H locs cells slots (vx_MQ below (aw_Qc G Q A) (aw_XC G Q A) args s mc ms A) (F0 m pc ls st) q :=
  vx_out (fun x hx => by rw [h.tab, hX] at hx; cases hx) h.lk hce hcv hcl (fun t ht _ => ⟨J, hQ, by rw [ht]; exact h.2.2.2.1, h.S.F ht⟩) h.S.2.2 (by have := h.2.1.2.2.1; omega) (by have := h.2.1.2.2.2.2.1; omega)
end AWR
section AWK
variable {G : aw_G} {M M' : aw_M} {d : Nat} {Q : aw_O → aw_J → Prop} {pc : Nat} {L : List (Option Value)} {st st0 vs : List Value} {J : aw_J} {kc ks kc' ks' mc' ms' : Nat}
theorem aw_callV {idx ci b : Nat} {fs : List Value} (hd : decode M.2.1 pc = .ok (.invokevirtual idx, 3)) (hS : aw_CV M.1.cls idx M' ci vs.length) (hJ : J b = some (.inr (ci, fs))) (hst : st0 = vs.reverse ++ .ref b :: st) (hcat : (st.map fun v => v.category).sum ≤ 8) (hlen : (lg_sl (.ref b :: vs)).length ≤ M'.2.2.1) (hc : mc' + kc' ≤ kc) (hs : ms' + ks' ≤ ks) (hX : M.2.2.2.2 = [])
    (k : aw_W G M' d (aw_K (fun v J' => aw_W G M (d + 1) Q (pc + 3) L (v.toList ++ st) J' kc' ks') (fun E J' => Q (.inr E) J')) 0 (aw_ent (.ref b :: vs) M'.2.2.1) [] J mc' ms') : aw_W G M (d + 1) Q pc L st0 J kc ks := by
  intro p e R s m args below meth c H ls locs cells slots mc ms A h
  obtain ⟨ws, hP, hD, hJw⟩ := h.2.2.2.1
  obtain ⟨q0, he⟩ := hJw _ _ hJ
  obtain ⟨hB, ⟨T9, N9, hci⟩, hin, hse, hli⟩ := hS
  have hrecv := va_recv h.K hP hci he
  have hini := hB.2.2.2.2.1
  have hrf : aw_fr d + 1 ≤ R.frames := by have := h.2.1.1; unfold aw_fr at *; omega
  have hrl : 8 + (M'.2.2.1 + 11) + aw_lo d ≤ R.locals := by have := h.2.1.2.1; have := hB.2.2.1; unfold aw_lo at *; omega
  have hfit : cells + mc' ≤ R.cells ∧ slots + ms' ≤ R.slots := by have := h.2.1.2.2; omega
  have hM := aw_met (ws := ws) (sz := H.size) hB.1 hB.2.1 hlen h.off hJw k
  have hgw : ∀ w ∈ aw_ws M', w ∈ aw_TB := fun w hw => by
    rcases List.mem_cons.mp hw with rfl | hw
    · exact hB.2.2.2.1
    · exact hw
  refine aw_after (ws := ws) (vx_runV (rm := aw_rm d mc' ms') (bytes := M'.2.1) (maxL := M'.2.2.1) (ret := M'.2.2.2.1) (As := vs) (rest := st) ⟨h.x, h.b, h.ml, h.own, h.ts⟩ hM (cwV vs.length h.ts (aw_gin (fun w hw => by
      rcases List.mem_append.mp hw with hw | hw
      · simp only [List.mem_cons, List.not_mem_nil, or_false] at hw
        rcases hw with rfl | rfl | rfl | rfl <;> assumption
      · exact hgw w hw)) rfl rfl rfl ⟨rfl, hB.2.2.2.2.2⟩ ⟨hrf, hrl⟩) ⟨aw_blind, hrecv, aw_pre h hP hD⟩ rfl rfl h.sz hst (by show 2 * 0 + _ ≤ 8; omega) hd hfit) h hD (fun v J' hQ => hQ) (fun E J' hQ H1 locs1 q ce hI hce hcv hcl => aw_outs (Q := Q) hX hQ hI hce hcv hcl) hc hs
theorem aw_callVN {idx ci b : Nat} {fs : List Value} (hd : decode M.2.1 pc = .ok (.invokevirtual idx, 3)) (hS : aw_CVN M.1.cls idx M' ci vs.length) (hJ : J b = some (.inr (ci, fs))) (hst : st0 = vs.reverse ++ .ref b :: st) (hcat : (st.map fun v => v.category).sum ≤ 8) (hlen : (lg_sl (.ref b :: vs)).length ≤ M'.2.2.1) (hc : mc' + kc' ≤ kc) (hs : ms' + ks' ≤ ks)
    (k : aw_W G M' d (aw_K (fun v J' => aw_W G M (d + 1) Q (pc + 3) L (v.toList ++ st) J' kc' ks') (fun _ _ => False)) 0 (aw_ent (.ref b :: vs) M'.2.2.1) [] J mc' ms') : aw_W G M (d + 1) Q pc L st0 J kc ks := by
  intro p e R s m args below meth c H ls locs cells slots mc ms A h
  obtain ⟨ws, hP, hD, hJw⟩ := h.2.2.2.1
  obtain ⟨q0, he⟩ := hJw _ _ hJ
  obtain ⟨hB, ⟨T9, N9, hci⟩, hin, hse, host, hli⟩ := hS
  have hrecv := va_recv h.K hP hci he
  have hrf : aw_fr d + 1 ≤ R.frames := by have := h.2.1.1; unfold aw_fr at *; omega
  have hrl : 8 + (M'.2.2.1 + 11) + aw_lo d ≤ R.locals := by have := h.2.1.2.1; have := hB.2.2.1; unfold aw_lo at *; omega
  have hfit : cells + mc' ≤ R.cells ∧ slots + ms' ≤ R.slots := by have := h.2.1.2.2; omega
  have hM := aw_met (ws := ws) (sz := H.size) hB.1 hB.2.1 hlen h.off hJw k
  have hgw : ∀ w ∈ aw_ws M', w ∈ aw_TB := fun w hw => by
    rcases List.mem_cons.mp hw with rfl | hw
    · exact hB.2.2.2.1
    · exact hw
  refine aw_after (ws := ws) (aw_ofRun (va_runVN (rm := aw_rm d mc' ms') (bytes := M'.2.1) (maxL := M'.2.2.1) (ret := M'.2.2.2.1) (As := vs) (rest := st) ⟨h.x, h.b, h.ml, h.own, h.ts⟩ (aw_plain hM aw_noX) ⟨va_cnB vs.length h.ts (aw_gin hgw) rfl rfl rfl (h.T.1 _ hli) (h.ts _ hB.2.2.2.2.1) hB.2.2.2.2.2 ⟨hrf, hrl⟩, h.ts _ hin, h.ts _ hse⟩ ⟨aw_blind, hrecv, aw_pre h hP hD⟩ rfl rfl h.sz hst (by show 2 * 0 + _ ≤ 8; omega) hd hfit)) h hD (fun v J' hQ => hQ) (fun E J' hQ => hQ.elim) hc hs
theorem aw_callS {idx : Nat} (hd : decode M.2.1 pc = .ok (.invokestatic idx, 3)) (hS : aw_CS M.1.cls idx M' vs.length) (hst : st0 = vs.reverse ++ st) (hcat : (st.map fun v => v.category).sum ≤ 8) (hlen : (lg_sl (vs)).length ≤ M'.2.2.1) (hc : mc' + kc' ≤ kc) (hs : ms' + ks' ≤ ks) (hX : M.2.2.2.2 = [])
    (k : aw_W G M' d (aw_K (fun v J' => aw_W G M (d + 1) Q (pc + 3) L (v.toList ++ st) J' kc' ks') (fun E J' => Q (.inr E) J')) 0 (aw_ent (vs) M'.2.2.1) [] J mc' ms') : aw_W G M (d + 1) Q pc L st0 J kc ks := by
  intro p e R s m args below meth c H ls locs cells slots mc ms A h
  obtain ⟨ws, hP, hD, hJw⟩ := h.2.2.2.1
  obtain ⟨hB, hsta, hli⟩ := hS
  have hini := hB.2.2.2.2.1
  have hrf : aw_fr d + 1 ≤ R.frames := by have := h.2.1.1; unfold aw_fr at *; omega
  have hrl : 8 + (M'.2.2.1 + 11) + aw_lo d ≤ R.locals := by have := h.2.1.2.1; have := hB.2.2.1; unfold aw_lo at *; omega
  have hfit : cells + mc' ≤ R.cells ∧ slots + ms' ≤ R.slots := by have := h.2.1.2.2; omega
  have hM := aw_met (ws := ws) (sz := H.size) hB.1 hB.2.1 hlen h.off hJw k
  have hgw : ∀ w ∈ aw_ws M', w ∈ aw_TB := fun w hw => by
    rcases List.mem_cons.mp hw with rfl | hw
    · exact hB.2.2.2.1
    · exact hw
  refine aw_after (ws := ws) (vx_runS (rm := aw_rm d mc' ms') (bytes := M'.2.1) (maxL := M'.2.2.1) (ret := M'.2.2.2.1) (As := vs) (rest := st) ⟨h.x, h.b, h.ml, h.own, h.ts⟩ hM (va_cwS vs.length h.ts (aw_gin (fun w hw => by
      rcases List.mem_append.mp hw with hw | hw
      · simp only [List.mem_cons, List.not_mem_nil, or_false] at hw
        rcases hw with rfl | rfl | rfl <;> assumption
      · exact hgw w hw)) rfl rfl rfl hB.2.2.2.2.2 ⟨hrf, hrl⟩) ⟨aw_blind, aw_pre h hP hD⟩ rfl rfl h.sz hst (by show 2 * 0 + _ ≤ 8; omega) hd hfit) h hD (fun v J' hQ => hQ) (fun E J' hQ H1 locs1 q ce hI hce hcv hcl => aw_outs (Q := Q) hX hQ hI hce hcv hcl) hc hs
theorem aw_callI {idx b : Nat} (hd : decode M.2.1 pc = .ok (.invokespecial idx, 3)) (hS : aw_CI M.1.cls idx M' vs.length) (hst : st0 = vs.reverse ++ .ref b :: st) (hcat : (st.map fun v => v.category).sum ≤ 8) (hlen : (lg_sl (.ref b :: vs)).length ≤ M'.2.2.1) (hc : mc' + kc' ≤ kc) (hs : ms' + ks' ≤ ks)
    (k : aw_W G M' d (aw_K (fun v J' => aw_W G M (d + 1) Q (pc + 3) L (v.toList ++ st) J' kc' ks') (fun _ _ => False)) 0 (aw_ent (.ref b :: vs) M'.2.2.1) [] J mc' ms') : aw_W G M (d + 1) Q pc L st0 J kc ks := by
  intro p e R s m args below meth c H ls locs cells slots mc ms A h
  obtain ⟨ws, hP, hD, hJw⟩ := h.2.2.2.1
  obtain ⟨hB, hnm, hrt, hin, hli⟩ := hS
  have hrf : aw_fr d + 1 ≤ R.frames := by have := h.2.1.1; unfold aw_fr at *; omega
  have hrl : 8 + (M'.2.2.1 + 11) + aw_lo d ≤ R.locals := by have := h.2.1.2.1; have := hB.2.2.1; unfold aw_lo at *; omega
  have hfit : cells + mc' ≤ R.cells ∧ slots + ms' ≤ R.slots := by have := h.2.1.2.2; omega
  have hM := aw_met (ws := ws) (sz := H.size) hB.1 hB.2.1 hlen h.off hJw k
  have hgw : ∀ w ∈ aw_ws M', w ∈ aw_TB := fun w hw => by
    rcases List.mem_cons.mp hw with rfl | hw
    · exact hB.2.2.2.1
    · exact hw
  refine aw_after (ws := ws) (aw_ofRun (va_runI (rm := aw_rm d mc' ms') (bytes := M'.2.1) (maxL := M'.2.2.1) (As := vs) (rest := st) ⟨h.x, h.b, h.ml, h.own, h.ts⟩ (aw_plain hM aw_noX) (cwI vs.length h.ts (aw_gin hgw) (by unfold aw_ws; rw [hrt]) rfl rfl (h.ts _ hB.2.2.2.2.1) (h.ts _ hli) (h.ts _ hin) hnm hB.2.2.2.2.2 ⟨hrf, hrl⟩) ⟨aw_blind, aw_pre h hP hD⟩ rfl rfl h.sz hst (by show 2 * 0 + _ ≤ 8; omega) hd hfit)) h hD (fun v J' hQ => hQ) (fun E J' hQ => hQ.elim) hc hs
theorem aw_callIN {idx b : Nat} (hd : decode M.2.1 pc = .ok (.invokespecial idx, 3)) (hS : aw_CIN M.1.cls idx M' vs.length) (hst : st0 = vs.reverse ++ .ref b :: st) (hcat : (st.map fun v => v.category).sum ≤ 8) (hlen : (lg_sl (.ref b :: vs)).length ≤ M'.2.2.1) (hc : mc' + kc' ≤ kc) (hs : ms' + ks' ≤ ks)
    (k : aw_W G M' d (aw_K (fun v J' => aw_W G M (d + 1) Q (pc + 3) L (v.toList ++ st) J' kc' ks') (fun _ _ => False)) 0 (aw_ent (.ref b :: vs) M'.2.2.1) [] J mc' ms') : aw_W G M (d + 1) Q pc L st0 J kc ks := by
  intro p e R s m args below meth c H ls locs cells slots mc ms A h
  obtain ⟨ws, hP, hD, hJw⟩ := h.2.2.2.1
  obtain ⟨hB, hnm, hrt, hin, host, hli⟩ := hS
  have hrf : aw_fr d + 1 ≤ R.frames := by have := h.2.1.1; unfold aw_fr at *; omega
  have hrl : 8 + (M'.2.2.1 + 11) + aw_lo d ≤ R.locals := by have := h.2.1.2.1; have := hB.2.2.1; unfold aw_lo at *; omega
  have hfit : cells + mc' ≤ R.cells ∧ slots + ms' ≤ R.slots := by have := h.2.1.2.2; omega
  have hM := aw_met (ws := ws) (sz := H.size) hB.1 hB.2.1 hlen h.off hJw k
  have hgw : ∀ w ∈ aw_ws M', w ∈ aw_TB := fun w hw => by
    rcases List.mem_cons.mp hw with rfl | hw
    · exact hB.2.2.2.1
    · exact hw
  refine aw_after (ws := ws) (aw_ofRun (va_runIN (rm := aw_rm d mc' ms') (bytes := M'.2.1) (maxL := M'.2.2.1) (As := vs) (rest := st) ⟨h.x, h.b, h.ml, h.own, h.ts⟩ (aw_plain hM aw_noX) ⟨va_cnB vs.length h.ts (aw_gin hgw) (by unfold aw_ws; rw [hrt]) rfl rfl (h.T.1 _ hli) (h.ts _ hB.2.2.2.2.1) hB.2.2.2.2.2 ⟨hrf, hrl⟩, hnm, h.ts _ hin⟩ ⟨aw_blind, aw_pre h hP hD⟩ rfl rfl h.sz hst (by show 2 * 0 + _ ≤ 8; omega) hd hfit)) h hD (fun v J' hQ => hQ) (fun E J' hQ => hQ.elim) hc hs
end AWK
/-- a place where a class of ours throws: new, dup, ldc, invokespecial, athrow -/
def aw_TS (own : String) (ik ist ic : Nat) (cls text : String) (names : List String) : Prop := Bundle.fit cls = true ∧ (∀ n ∈ names, Bundle.fit n = true) ∧ names.length ≤ 4 ∧ Cond.classLink own ik cls ∈ aw_TB ∧ Cond.initialized cls ∈ aw_TB ∧ (own, ist, text) ∈ aw_SB ∧ (∀ w ∈ vx_atS own ic cls names, w ∈ aw_TB ∨ w ∈ aw_NB) ∧ ∀ w ∈ Cond.classLink own ik cls :: Cond.initialized cls :: vx_atS own ic cls names, vx_ot w = true
section AWT
variable {G : aw_G} {M : aw_M} {d : Nat} {Q : aw_O → aw_J → Prop} {pc : Nat} {L : List (Option Value)} {st : List Value} {J : aw_J} {kc ks : Nat}
theorem aw_throw {ik ist ic : Nat} {cls text : String} {names : List String} (hS : aw_TS M.1.cls ik ist ic cls text names) (hX : M.2.2.2.2 = []) (d0 : decode M.2.1 pc = .ok (.new ik, 3)) (d3 : decode M.2.1 (pc + 3) = .ok (.dup, 1)) (d4 : decode M.2.1 (pc + 4) = .ok (.ldc ist, 2)) (d6 : decode M.2.1 (pc + 6) = .ok (.invokespecial ic, 3)) (d9 : decode M.2.1 (pc + 9) = .ok (.athrow, 1))
    (hcat : (st.map fun v => v.category).sum ≤ 40) (hc : 1 ≤ kc) (hs : 6 ≤ ks) (hq : Q (.inr cls) J) : aw_W G M d Q pc L st J kc ks := by
  intro p e R s m args below meth c H ls locs cells slots mc ms A h
  obtain ⟨h1, h2, h3, h4, h5, h6, h7, h8⟩ := hS
  obtain ⟨sa, hsa⟩ := h.T.2.2.2.1 _ h6
  have b1 := h.2.1.2.2.1
  have b2 := h.2.1.2.2.2.1
  have b3 := h.2.1.2.2.2.2.1
  have b4 := h.2.1.2.2.2.2.2
  refine vx_throwS h.x h.b h.off h.own h1 h2 (h.ts _ h4) (h.ts _ h5) hsa (fun w hw => ?_) h8 h.Z.2.1 h.Z.2.2.1 h.S (h.sz.trans h.ml.symm) d0 d3 d4 d6 d9 (fun x hx => by rw [h.tab, hX] at hx; cases hx) (by have := h.2.1.1; unfold aw_fr at this; omega) (by have := h.2.1.2.1; unfold aw_lo at this; omega) (by omega) (by omega) h.lk (fun t hv hz hk => ?_) h.S.2.2 (by omega) (by omega)
  · rcases h7 w hw with hw2 | hw2
    · exact h.ts _ hw2
    · have hn := h.T.1 _ hw2
      have hk := aw_NB_nw _ hw2
      cases w <;> first | exact va_Nw.use rfl hn | (simp [aw_nw] at hk)
  · obtain ⟨ws, hP, hD, hJw⟩ := h.2.2.2.1
    exact ⟨J, hq, ⟨ws, hP.kept (fun k q hkq => hk q.1 ((hP k q hkq).lt)), hD, hJw⟩, Nat.le_trans h.S.1 hz, fun q z1 z2 => (hk q (Nat.lt_of_lt_of_le z1 h.S.1)).trans (h.S.2.1 q z1 z2)⟩
theorem aw_throwW {ik ist ic : Nat} {cls text : String} {names : List String} (hS : aw_TS M.1.cls ik ist ic cls text names) (hX : M.2.2.2.2 = []) (d0 : decode M.2.1 pc = .ok (.new ik, 3)) (d3 : decode M.2.1 (pc + 3) = .ok (.dup, 1)) (d4 : decode M.2.1 (pc + 4) = .ok (.ldc_w ist, 3)) (d6 : decode M.2.1 (pc + 7) = .ok (.invokespecial ic, 3)) (d9 : decode M.2.1 (pc + 10) = .ok (.athrow, 1))
    (hcat : (st.map fun v => v.category).sum ≤ 40) (hc : 1 ≤ kc) (hs : 6 ≤ ks) (hq : Q (.inr cls) J) : aw_W G M d Q pc L st J kc ks := by
  intro p e R s m args below meth c H ls locs cells slots mc ms A h
  obtain ⟨h1, h2, h3, h4, h5, h6, h7, h8⟩ := hS
  obtain ⟨sa, hsa⟩ := h.T.2.2.2.1 _ h6
  have b1 := h.2.1.2.2.1
  have b2 := h.2.1.2.2.2.1
  have b3 := h.2.1.2.2.2.2.1
  have b4 := h.2.1.2.2.2.2.2
  refine vx_throwSW h.x h.b h.off h.own h1 h2 (h.ts _ h4) (h.ts _ h5) hsa (fun w hw => ?_) h8 h.Z.2.1 h.Z.2.2.1 h.S (h.sz.trans h.ml.symm) d0 d3 d4 d6 d9 (fun x hx => by rw [h.tab, hX] at hx; cases hx) (by have := h.2.1.1; unfold aw_fr at this; omega) (by have := h.2.1.2.1; unfold aw_lo at this; omega) (by omega) (by omega) h.lk (fun t hv hz hk => ?_) h.S.2.2 (by omega) (by omega)
  · rcases h7 w hw with hw2 | hw2
    · exact h.ts _ hw2
    · have hn := h.T.1 _ hw2
      have hk := aw_NB_nw _ hw2
      cases w <;> first | exact va_Nw.use rfl hn | (simp [aw_nw] at hk)
  · obtain ⟨ws, hP, hD, hJw⟩ := h.2.2.2.1
    exact ⟨J, hq, ⟨ws, hP.kept (fun k q hkq => hk q.1 ((hP k q hkq).lt)), hD, hJw⟩, Nat.le_trans h.S.1 hz, fun q z1 z2 => (hk q (Nat.lt_of_lt_of_le z1 h.S.1)).trans (h.S.2.1 q z1 z2)⟩
end AWT
section AWN
variable {G : aw_G} {M M' : aw_M} {d : Nat} {Q : aw_O → aw_J → Prop} {pc idx ci b : Nat} {L : List (Option Value)} {st fs : List Value} {J : aw_J} {kc ks kc' ks' mc' ms' : Nat}
theorem aw_callV0 (hd : decode M.2.1 pc = .ok (.invokevirtual idx, 3)) (hS : aw_CV M.1.cls idx M' ci 0) (hJ : J b = some (.inr (ci, fs))) (hcat : (st.map fun v => v.category).sum ≤ 8) (hlen : (lg_sl [.ref b]).length ≤ M'.2.2.1) (hc : mc' + kc' ≤ kc) (hs : ms' + ks' ≤ ks) (hX : M.2.2.2.2 = []) (k : aw_W G M' d (aw_K (fun v J' => aw_W G M (d + 1) Q (pc + 3) L (v.toList ++ st) J' kc' ks') (fun E J' => Q (.inr E) J')) 0 (aw_ent [.ref b] M'.2.2.1) [] J mc' ms') : aw_W G M (d + 1) Q pc L (.ref b :: st) J kc ks := aw_callV (vs := []) hd hS hJ rfl hcat hlen hc hs hX k
theorem aw_callV1 {v1 : Value} (hd : decode M.2.1 pc = .ok (.invokevirtual idx, 3)) (hS : aw_CV M.1.cls idx M' ci 1) (hJ : J b = some (.inr (ci, fs))) (hcat : (st.map fun v => v.category).sum ≤ 8) (hlen : (lg_sl [.ref b, v1]).length ≤ M'.2.2.1) (hc : mc' + kc' ≤ kc) (hs : ms' + ks' ≤ ks) (hX : M.2.2.2.2 = []) (k : aw_W G M' d (aw_K (fun v J' => aw_W G M (d + 1) Q (pc + 3) L (v.toList ++ st) J' kc' ks') (fun E J' => Q (.inr E) J')) 0 (aw_ent [.ref b, v1] M'.2.2.1) [] J mc' ms') : aw_W G M (d + 1) Q pc L (v1 :: .ref b :: st) J kc ks := aw_callV (vs := [v1]) hd hS hJ rfl hcat hlen hc hs hX k
theorem aw_callV2 {v1 v2 : Value} (hd : decode M.2.1 pc = .ok (.invokevirtual idx, 3)) (hS : aw_CV M.1.cls idx M' ci 2) (hJ : J b = some (.inr (ci, fs))) (hcat : (st.map fun v => v.category).sum ≤ 8) (hlen : (lg_sl [.ref b, v1, v2]).length ≤ M'.2.2.1) (hc : mc' + kc' ≤ kc) (hs : ms' + ks' ≤ ks) (hX : M.2.2.2.2 = []) (k : aw_W G M' d (aw_K (fun v J' => aw_W G M (d + 1) Q (pc + 3) L (v.toList ++ st) J' kc' ks') (fun E J' => Q (.inr E) J')) 0 (aw_ent [.ref b, v1, v2] M'.2.2.1) [] J mc' ms') : aw_W G M (d + 1) Q pc L (v2 :: v1 :: .ref b :: st) J kc ks := aw_callV (vs := [v1, v2]) hd hS hJ rfl hcat hlen hc hs hX k
theorem aw_callV3 {v1 v2 v3 : Value} (hd : decode M.2.1 pc = .ok (.invokevirtual idx, 3)) (hS : aw_CV M.1.cls idx M' ci 3) (hJ : J b = some (.inr (ci, fs))) (hcat : (st.map fun v => v.category).sum ≤ 8) (hlen : (lg_sl [.ref b, v1, v2, v3]).length ≤ M'.2.2.1) (hc : mc' + kc' ≤ kc) (hs : ms' + ks' ≤ ks) (hX : M.2.2.2.2 = []) (k : aw_W G M' d (aw_K (fun v J' => aw_W G M (d + 1) Q (pc + 3) L (v.toList ++ st) J' kc' ks') (fun E J' => Q (.inr E) J')) 0 (aw_ent [.ref b, v1, v2, v3] M'.2.2.1) [] J mc' ms') : aw_W G M (d + 1) Q pc L (v3 :: v2 :: v1 :: .ref b :: st) J kc ks := aw_callV (vs := [v1, v2, v3]) hd hS hJ rfl hcat hlen hc hs hX k
theorem aw_callV4 {v1 v2 v3 v4 : Value} (hd : decode M.2.1 pc = .ok (.invokevirtual idx, 3)) (hS : aw_CV M.1.cls idx M' ci 4) (hJ : J b = some (.inr (ci, fs))) (hcat : (st.map fun v => v.category).sum ≤ 8) (hlen : (lg_sl [.ref b, v1, v2, v3, v4]).length ≤ M'.2.2.1) (hc : mc' + kc' ≤ kc) (hs : ms' + ks' ≤ ks) (hX : M.2.2.2.2 = []) (k : aw_W G M' d (aw_K (fun v J' => aw_W G M (d + 1) Q (pc + 3) L (v.toList ++ st) J' kc' ks') (fun E J' => Q (.inr E) J')) 0 (aw_ent [.ref b, v1, v2, v3, v4] M'.2.2.1) [] J mc' ms') : aw_W G M (d + 1) Q pc L (v4 :: v3 :: v2 :: v1 :: .ref b :: st) J kc ks := aw_callV (vs := [v1, v2, v3, v4]) hd hS hJ rfl hcat hlen hc hs hX k
theorem aw_callV5 {v1 v2 v3 v4 v5 : Value} (hd : decode M.2.1 pc = .ok (.invokevirtual idx, 3)) (hS : aw_CV M.1.cls idx M' ci 5) (hJ : J b = some (.inr (ci, fs))) (hcat : (st.map fun v => v.category).sum ≤ 8) (hlen : (lg_sl [.ref b, v1, v2, v3, v4, v5]).length ≤ M'.2.2.1) (hc : mc' + kc' ≤ kc) (hs : ms' + ks' ≤ ks) (hX : M.2.2.2.2 = []) (k : aw_W G M' d (aw_K (fun v J' => aw_W G M (d + 1) Q (pc + 3) L (v.toList ++ st) J' kc' ks') (fun E J' => Q (.inr E) J')) 0 (aw_ent [.ref b, v1, v2, v3, v4, v5] M'.2.2.1) [] J mc' ms') : aw_W G M (d + 1) Q pc L (v5 :: v4 :: v3 :: v2 :: v1 :: .ref b :: st) J kc ks := aw_callV (vs := [v1, v2, v3, v4, v5]) hd hS hJ rfl hcat hlen hc hs hX k
theorem aw_callVN0 (hd : decode M.2.1 pc = .ok (.invokevirtual idx, 3)) (hS : aw_CVN M.1.cls idx M' ci 0) (hJ : J b = some (.inr (ci, fs))) (hcat : (st.map fun v => v.category).sum ≤ 8) (hlen : (lg_sl [.ref b]).length ≤ M'.2.2.1) (hc : mc' + kc' ≤ kc) (hs : ms' + ks' ≤ ks) (k : aw_W G M' d (aw_K (fun v J' => aw_W G M (d + 1) Q (pc + 3) L (v.toList ++ st) J' kc' ks') (fun _ _ => False)) 0 (aw_ent [.ref b] M'.2.2.1) [] J mc' ms') : aw_W G M (d + 1) Q pc L (.ref b :: st) J kc ks := aw_callVN (vs := []) hd hS hJ rfl hcat hlen hc hs k
theorem aw_callVN1 {v1 : Value} (hd : decode M.2.1 pc = .ok (.invokevirtual idx, 3)) (hS : aw_CVN M.1.cls idx M' ci 1) (hJ : J b = some (.inr (ci, fs))) (hcat : (st.map fun v => v.category).sum ≤ 8) (hlen : (lg_sl [.ref b, v1]).length ≤ M'.2.2.1) (hc : mc' + kc' ≤ kc) (hs : ms' + ks' ≤ ks) (k : aw_W G M' d (aw_K (fun v J' => aw_W G M (d + 1) Q (pc + 3) L (v.toList ++ st) J' kc' ks') (fun _ _ => False)) 0 (aw_ent [.ref b, v1] M'.2.2.1) [] J mc' ms') : aw_W G M (d + 1) Q pc L (v1 :: .ref b :: st) J kc ks := aw_callVN (vs := [v1]) hd hS hJ rfl hcat hlen hc hs k
theorem aw_callVN2 {v1 v2 : Value} (hd : decode M.2.1 pc = .ok (.invokevirtual idx, 3)) (hS : aw_CVN M.1.cls idx M' ci 2) (hJ : J b = some (.inr (ci, fs))) (hcat : (st.map fun v => v.category).sum ≤ 8) (hlen : (lg_sl [.ref b, v1, v2]).length ≤ M'.2.2.1) (hc : mc' + kc' ≤ kc) (hs : ms' + ks' ≤ ks) (k : aw_W G M' d (aw_K (fun v J' => aw_W G M (d + 1) Q (pc + 3) L (v.toList ++ st) J' kc' ks') (fun _ _ => False)) 0 (aw_ent [.ref b, v1, v2] M'.2.2.1) [] J mc' ms') : aw_W G M (d + 1) Q pc L (v2 :: v1 :: .ref b :: st) J kc ks := aw_callVN (vs := [v1, v2]) hd hS hJ rfl hcat hlen hc hs k
theorem aw_callVN3 {v1 v2 v3 : Value} (hd : decode M.2.1 pc = .ok (.invokevirtual idx, 3)) (hS : aw_CVN M.1.cls idx M' ci 3) (hJ : J b = some (.inr (ci, fs))) (hcat : (st.map fun v => v.category).sum ≤ 8) (hlen : (lg_sl [.ref b, v1, v2, v3]).length ≤ M'.2.2.1) (hc : mc' + kc' ≤ kc) (hs : ms' + ks' ≤ ks) (k : aw_W G M' d (aw_K (fun v J' => aw_W G M (d + 1) Q (pc + 3) L (v.toList ++ st) J' kc' ks') (fun _ _ => False)) 0 (aw_ent [.ref b, v1, v2, v3] M'.2.2.1) [] J mc' ms') : aw_W G M (d + 1) Q pc L (v3 :: v2 :: v1 :: .ref b :: st) J kc ks := aw_callVN (vs := [v1, v2, v3]) hd hS hJ rfl hcat hlen hc hs k
theorem aw_callVN4 {v1 v2 v3 v4 : Value} (hd : decode M.2.1 pc = .ok (.invokevirtual idx, 3)) (hS : aw_CVN M.1.cls idx M' ci 4) (hJ : J b = some (.inr (ci, fs))) (hcat : (st.map fun v => v.category).sum ≤ 8) (hlen : (lg_sl [.ref b, v1, v2, v3, v4]).length ≤ M'.2.2.1) (hc : mc' + kc' ≤ kc) (hs : ms' + ks' ≤ ks) (k : aw_W G M' d (aw_K (fun v J' => aw_W G M (d + 1) Q (pc + 3) L (v.toList ++ st) J' kc' ks') (fun _ _ => False)) 0 (aw_ent [.ref b, v1, v2, v3, v4] M'.2.2.1) [] J mc' ms') : aw_W G M (d + 1) Q pc L (v4 :: v3 :: v2 :: v1 :: .ref b :: st) J kc ks := aw_callVN (vs := [v1, v2, v3, v4]) hd hS hJ rfl hcat hlen hc hs k
theorem aw_callVN5 {v1 v2 v3 v4 v5 : Value} (hd : decode M.2.1 pc = .ok (.invokevirtual idx, 3)) (hS : aw_CVN M.1.cls idx M' ci 5) (hJ : J b = some (.inr (ci, fs))) (hcat : (st.map fun v => v.category).sum ≤ 8) (hlen : (lg_sl [.ref b, v1, v2, v3, v4, v5]).length ≤ M'.2.2.1) (hc : mc' + kc' ≤ kc) (hs : ms' + ks' ≤ ks) (k : aw_W G M' d (aw_K (fun v J' => aw_W G M (d + 1) Q (pc + 3) L (v.toList ++ st) J' kc' ks') (fun _ _ => False)) 0 (aw_ent [.ref b, v1, v2, v3, v4, v5] M'.2.2.1) [] J mc' ms') : aw_W G M (d + 1) Q pc L (v5 :: v4 :: v3 :: v2 :: v1 :: .ref b :: st) J kc ks := aw_callVN (vs := [v1, v2, v3, v4, v5]) hd hS hJ rfl hcat hlen hc hs k
theorem aw_callS0 (hd : decode M.2.1 pc = .ok (.invokestatic idx, 3)) (hS : aw_CS M.1.cls idx M' 0) (hcat : (st.map fun v => v.category).sum ≤ 8) (hlen : (lg_sl []).length ≤ M'.2.2.1) (hc : mc' + kc' ≤ kc) (hs : ms' + ks' ≤ ks) (hX : M.2.2.2.2 = []) (k : aw_W G M' d (aw_K (fun v J' => aw_W G M (d + 1) Q (pc + 3) L (v.toList ++ st) J' kc' ks') (fun E J' => Q (.inr E) J')) 0 (aw_ent [] M'.2.2.1) [] J mc' ms') : aw_W G M (d + 1) Q pc L st J kc ks := aw_callS (vs := []) hd hS rfl hcat hlen hc hs hX k
theorem aw_callS1 {v1 : Value} (hd : decode M.2.1 pc = .ok (.invokestatic idx, 3)) (hS : aw_CS M.1.cls idx M' 1) (hcat : (st.map fun v => v.category).sum ≤ 8) (hlen : (lg_sl [v1]).length ≤ M'.2.2.1) (hc : mc' + kc' ≤ kc) (hs : ms' + ks' ≤ ks) (hX : M.2.2.2.2 = []) (k : aw_W G M' d (aw_K (fun v J' => aw_W G M (d + 1) Q (pc + 3) L (v.toList ++ st) J' kc' ks') (fun E J' => Q (.inr E) J')) 0 (aw_ent [v1] M'.2.2.1) [] J mc' ms') : aw_W G M (d + 1) Q pc L (v1 :: st) J kc ks := aw_callS (vs := [v1]) hd hS rfl hcat hlen hc hs hX k
theorem aw_callS2 {v1 v2 : Value} (hd : decode M.2.1 pc = .ok (.invokestatic idx, 3)) (hS : aw_CS M.1.cls idx M' 2) (hcat : (st.map fun v => v.category).sum ≤ 8) (hlen : (lg_sl [v1, v2]).length ≤ M'.2.2.1) (hc : mc' + kc' ≤ kc) (hs : ms' + ks' ≤ ks) (hX : M.2.2.2.2 = []) (k : aw_W G M' d (aw_K (fun v J' => aw_W G M (d + 1) Q (pc + 3) L (v.toList ++ st) J' kc' ks') (fun E J' => Q (.inr E) J')) 0 (aw_ent [v1, v2] M'.2.2.1) [] J mc' ms') : aw_W G M (d + 1) Q pc L (v2 :: v1 :: st) J kc ks := aw_callS (vs := [v1, v2]) hd hS rfl hcat hlen hc hs hX k
theorem aw_callS3 {v1 v2 v3 : Value} (hd : decode M.2.1 pc = .ok (.invokestatic idx, 3)) (hS : aw_CS M.1.cls idx M' 3) (hcat : (st.map fun v => v.category).sum ≤ 8) (hlen : (lg_sl [v1, v2, v3]).length ≤ M'.2.2.1) (hc : mc' + kc' ≤ kc) (hs : ms' + ks' ≤ ks) (hX : M.2.2.2.2 = []) (k : aw_W G M' d (aw_K (fun v J' => aw_W G M (d + 1) Q (pc + 3) L (v.toList ++ st) J' kc' ks') (fun E J' => Q (.inr E) J')) 0 (aw_ent [v1, v2, v3] M'.2.2.1) [] J mc' ms') : aw_W G M (d + 1) Q pc L (v3 :: v2 :: v1 :: st) J kc ks := aw_callS (vs := [v1, v2, v3]) hd hS rfl hcat hlen hc hs hX k
theorem aw_callS4 {v1 v2 v3 v4 : Value} (hd : decode M.2.1 pc = .ok (.invokestatic idx, 3)) (hS : aw_CS M.1.cls idx M' 4) (hcat : (st.map fun v => v.category).sum ≤ 8) (hlen : (lg_sl [v1, v2, v3, v4]).length ≤ M'.2.2.1) (hc : mc' + kc' ≤ kc) (hs : ms' + ks' ≤ ks) (hX : M.2.2.2.2 = []) (k : aw_W G M' d (aw_K (fun v J' => aw_W G M (d + 1) Q (pc + 3) L (v.toList ++ st) J' kc' ks') (fun E J' => Q (.inr E) J')) 0 (aw_ent [v1, v2, v3, v4] M'.2.2.1) [] J mc' ms') : aw_W G M (d + 1) Q pc L (v4 :: v3 :: v2 :: v1 :: st) J kc ks := aw_callS (vs := [v1, v2, v3, v4]) hd hS rfl hcat hlen hc hs hX k
theorem aw_callS5 {v1 v2 v3 v4 v5 : Value} (hd : decode M.2.1 pc = .ok (.invokestatic idx, 3)) (hS : aw_CS M.1.cls idx M' 5) (hcat : (st.map fun v => v.category).sum ≤ 8) (hlen : (lg_sl [v1, v2, v3, v4, v5]).length ≤ M'.2.2.1) (hc : mc' + kc' ≤ kc) (hs : ms' + ks' ≤ ks) (hX : M.2.2.2.2 = []) (k : aw_W G M' d (aw_K (fun v J' => aw_W G M (d + 1) Q (pc + 3) L (v.toList ++ st) J' kc' ks') (fun E J' => Q (.inr E) J')) 0 (aw_ent [v1, v2, v3, v4, v5] M'.2.2.1) [] J mc' ms') : aw_W G M (d + 1) Q pc L (v5 :: v4 :: v3 :: v2 :: v1 :: st) J kc ks := aw_callS (vs := [v1, v2, v3, v4, v5]) hd hS rfl hcat hlen hc hs hX k
theorem aw_callI0 (hd : decode M.2.1 pc = .ok (.invokespecial idx, 3)) (hS : aw_CI M.1.cls idx M' 0) (hcat : (st.map fun v => v.category).sum ≤ 8) (hlen : (lg_sl [.ref b]).length ≤ M'.2.2.1) (hc : mc' + kc' ≤ kc) (hs : ms' + ks' ≤ ks) (k : aw_W G M' d (aw_K (fun v J' => aw_W G M (d + 1) Q (pc + 3) L (v.toList ++ st) J' kc' ks') (fun _ _ => False)) 0 (aw_ent [.ref b] M'.2.2.1) [] J mc' ms') : aw_W G M (d + 1) Q pc L (.ref b :: st) J kc ks := aw_callI (vs := []) hd hS rfl hcat hlen hc hs k
theorem aw_callI1 {v1 : Value} (hd : decode M.2.1 pc = .ok (.invokespecial idx, 3)) (hS : aw_CI M.1.cls idx M' 1) (hcat : (st.map fun v => v.category).sum ≤ 8) (hlen : (lg_sl [.ref b, v1]).length ≤ M'.2.2.1) (hc : mc' + kc' ≤ kc) (hs : ms' + ks' ≤ ks) (k : aw_W G M' d (aw_K (fun v J' => aw_W G M (d + 1) Q (pc + 3) L (v.toList ++ st) J' kc' ks') (fun _ _ => False)) 0 (aw_ent [.ref b, v1] M'.2.2.1) [] J mc' ms') : aw_W G M (d + 1) Q pc L (v1 :: .ref b :: st) J kc ks := aw_callI (vs := [v1]) hd hS rfl hcat hlen hc hs k
theorem aw_callI2 {v1 v2 : Value} (hd : decode M.2.1 pc = .ok (.invokespecial idx, 3)) (hS : aw_CI M.1.cls idx M' 2) (hcat : (st.map fun v => v.category).sum ≤ 8) (hlen : (lg_sl [.ref b, v1, v2]).length ≤ M'.2.2.1) (hc : mc' + kc' ≤ kc) (hs : ms' + ks' ≤ ks) (k : aw_W G M' d (aw_K (fun v J' => aw_W G M (d + 1) Q (pc + 3) L (v.toList ++ st) J' kc' ks') (fun _ _ => False)) 0 (aw_ent [.ref b, v1, v2] M'.2.2.1) [] J mc' ms') : aw_W G M (d + 1) Q pc L (v2 :: v1 :: .ref b :: st) J kc ks := aw_callI (vs := [v1, v2]) hd hS rfl hcat hlen hc hs k
theorem aw_callI3 {v1 v2 v3 : Value} (hd : decode M.2.1 pc = .ok (.invokespecial idx, 3)) (hS : aw_CI M.1.cls idx M' 3) (hcat : (st.map fun v => v.category).sum ≤ 8) (hlen : (lg_sl [.ref b, v1, v2, v3]).length ≤ M'.2.2.1) (hc : mc' + kc' ≤ kc) (hs : ms' + ks' ≤ ks) (k : aw_W G M' d (aw_K (fun v J' => aw_W G M (d + 1) Q (pc + 3) L (v.toList ++ st) J' kc' ks') (fun _ _ => False)) 0 (aw_ent [.ref b, v1, v2, v3] M'.2.2.1) [] J mc' ms') : aw_W G M (d + 1) Q pc L (v3 :: v2 :: v1 :: .ref b :: st) J kc ks := aw_callI (vs := [v1, v2, v3]) hd hS rfl hcat hlen hc hs k
theorem aw_callI4 {v1 v2 v3 v4 : Value} (hd : decode M.2.1 pc = .ok (.invokespecial idx, 3)) (hS : aw_CI M.1.cls idx M' 4) (hcat : (st.map fun v => v.category).sum ≤ 8) (hlen : (lg_sl [.ref b, v1, v2, v3, v4]).length ≤ M'.2.2.1) (hc : mc' + kc' ≤ kc) (hs : ms' + ks' ≤ ks) (k : aw_W G M' d (aw_K (fun v J' => aw_W G M (d + 1) Q (pc + 3) L (v.toList ++ st) J' kc' ks') (fun _ _ => False)) 0 (aw_ent [.ref b, v1, v2, v3, v4] M'.2.2.1) [] J mc' ms') : aw_W G M (d + 1) Q pc L (v4 :: v3 :: v2 :: v1 :: .ref b :: st) J kc ks := aw_callI (vs := [v1, v2, v3, v4]) hd hS rfl hcat hlen hc hs k
theorem aw_callI5 {v1 v2 v3 v4 v5 : Value} (hd : decode M.2.1 pc = .ok (.invokespecial idx, 3)) (hS : aw_CI M.1.cls idx M' 5) (hcat : (st.map fun v => v.category).sum ≤ 8) (hlen : (lg_sl [.ref b, v1, v2, v3, v4, v5]).length ≤ M'.2.2.1) (hc : mc' + kc' ≤ kc) (hs : ms' + ks' ≤ ks) (k : aw_W G M' d (aw_K (fun v J' => aw_W G M (d + 1) Q (pc + 3) L (v.toList ++ st) J' kc' ks') (fun _ _ => False)) 0 (aw_ent [.ref b, v1, v2, v3, v4, v5] M'.2.2.1) [] J mc' ms') : aw_W G M (d + 1) Q pc L (v5 :: v4 :: v3 :: v2 :: v1 :: .ref b :: st) J kc ks := aw_callI (vs := [v1, v2, v3, v4, v5]) hd hS rfl hcat hlen hc hs k
theorem aw_callIN0 (hd : decode M.2.1 pc = .ok (.invokespecial idx, 3)) (hS : aw_CIN M.1.cls idx M' 0) (hcat : (st.map fun v => v.category).sum ≤ 8) (hlen : (lg_sl [.ref b]).length ≤ M'.2.2.1) (hc : mc' + kc' ≤ kc) (hs : ms' + ks' ≤ ks) (k : aw_W G M' d (aw_K (fun v J' => aw_W G M (d + 1) Q (pc + 3) L (v.toList ++ st) J' kc' ks') (fun _ _ => False)) 0 (aw_ent [.ref b] M'.2.2.1) [] J mc' ms') : aw_W G M (d + 1) Q pc L (.ref b :: st) J kc ks := aw_callIN (vs := []) hd hS rfl hcat hlen hc hs k
theorem aw_callIN1 {v1 : Value} (hd : decode M.2.1 pc = .ok (.invokespecial idx, 3)) (hS : aw_CIN M.1.cls idx M' 1) (hcat : (st.map fun v => v.category).sum ≤ 8) (hlen : (lg_sl [.ref b, v1]).length ≤ M'.2.2.1) (hc : mc' + kc' ≤ kc) (hs : ms' + ks' ≤ ks) (k : aw_W G M' d (aw_K (fun v J' => aw_W G M (d + 1) Q (pc + 3) L (v.toList ++ st) J' kc' ks') (fun _ _ => False)) 0 (aw_ent [.ref b, v1] M'.2.2.1) [] J mc' ms') : aw_W G M (d + 1) Q pc L (v1 :: .ref b :: st) J kc ks := aw_callIN (vs := [v1]) hd hS rfl hcat hlen hc hs k
theorem aw_callIN2 {v1 v2 : Value} (hd : decode M.2.1 pc = .ok (.invokespecial idx, 3)) (hS : aw_CIN M.1.cls idx M' 2) (hcat : (st.map fun v => v.category).sum ≤ 8) (hlen : (lg_sl [.ref b, v1, v2]).length ≤ M'.2.2.1) (hc : mc' + kc' ≤ kc) (hs : ms' + ks' ≤ ks) (k : aw_W G M' d (aw_K (fun v J' => aw_W G M (d + 1) Q (pc + 3) L (v.toList ++ st) J' kc' ks') (fun _ _ => False)) 0 (aw_ent [.ref b, v1, v2] M'.2.2.1) [] J mc' ms') : aw_W G M (d + 1) Q pc L (v2 :: v1 :: .ref b :: st) J kc ks := aw_callIN (vs := [v1, v2]) hd hS rfl hcat hlen hc hs k
theorem aw_callIN3 {v1 v2 v3 : Value} (hd : decode M.2.1 pc = .ok (.invokespecial idx, 3)) (hS : aw_CIN M.1.cls idx M' 3) (hcat : (st.map fun v => v.category).sum ≤ 8) (hlen : (lg_sl [.ref b, v1, v2, v3]).length ≤ M'.2.2.1) (hc : mc' + kc' ≤ kc) (hs : ms' + ks' ≤ ks) (k : aw_W G M' d (aw_K (fun v J' => aw_W G M (d + 1) Q (pc + 3) L (v.toList ++ st) J' kc' ks') (fun _ _ => False)) 0 (aw_ent [.ref b, v1, v2, v3] M'.2.2.1) [] J mc' ms') : aw_W G M (d + 1) Q pc L (v3 :: v2 :: v1 :: .ref b :: st) J kc ks := aw_callIN (vs := [v1, v2, v3]) hd hS rfl hcat hlen hc hs k
theorem aw_callIN4 {v1 v2 v3 v4 : Value} (hd : decode M.2.1 pc = .ok (.invokespecial idx, 3)) (hS : aw_CIN M.1.cls idx M' 4) (hcat : (st.map fun v => v.category).sum ≤ 8) (hlen : (lg_sl [.ref b, v1, v2, v3, v4]).length ≤ M'.2.2.1) (hc : mc' + kc' ≤ kc) (hs : ms' + ks' ≤ ks) (k : aw_W G M' d (aw_K (fun v J' => aw_W G M (d + 1) Q (pc + 3) L (v.toList ++ st) J' kc' ks') (fun _ _ => False)) 0 (aw_ent [.ref b, v1, v2, v3, v4] M'.2.2.1) [] J mc' ms') : aw_W G M (d + 1) Q pc L (v4 :: v3 :: v2 :: v1 :: .ref b :: st) J kc ks := aw_callIN (vs := [v1, v2, v3, v4]) hd hS rfl hcat hlen hc hs k
theorem aw_callIN5 {v1 v2 v3 v4 v5 : Value} (hd : decode M.2.1 pc = .ok (.invokespecial idx, 3)) (hS : aw_CIN M.1.cls idx M' 5) (hcat : (st.map fun v => v.category).sum ≤ 8) (hlen : (lg_sl [.ref b, v1, v2, v3, v4, v5]).length ≤ M'.2.2.1) (hc : mc' + kc' ≤ kc) (hs : ms' + ks' ≤ ks) (k : aw_W G M' d (aw_K (fun v J' => aw_W G M (d + 1) Q (pc + 3) L (v.toList ++ st) J' kc' ks') (fun _ _ => False)) 0 (aw_ent [.ref b, v1, v2, v3, v4, v5] M'.2.2.1) [] J mc' ms') : aw_W G M (d + 1) Q pc L (v5 :: v4 :: v3 :: v2 :: v1 :: .ref b :: st) J kc ks := aw_callIN (vs := [v1, v2, v3, v4, v5]) hd hS rfl hcat hlen hc hs k
end AWN
theorem aw_catrf (r : Option Nat) : (va_rf r).category = 1 := by
  cases r <;> rfl
theorem aw_ent_rf (r : Option Nat) (t : List Value) (n : Nat) : aw_ent (va_rf r :: t) n = some (va_rf r) :: aw_ent t (n - 1) := by
  cases r <;> rfl
end
section
/-! words of the tables, methods, sites: printed by program -/
theorem wT_1_0 : (Cond.initialized "ScopeTreeLaw") ∈ aw_TB := aw_tb (List.mem_append_right _ (List.mem_append_left _ (List.mem_of_getElem? (i := 0) rfl))) rfl
theorem wT_1_1 : (Cond.initialized "ScopeTree") ∈ aw_TB := aw_tb (List.mem_append_right _ (List.mem_append_left _ (List.mem_of_getElem? (i := 1) rfl))) rfl
theorem wT_1_2 : (Cond.initialized "ScopeTree$Archive") ∈ aw_TB := aw_tb (List.mem_append_right _ (List.mem_append_left _ (List.mem_of_getElem? (i := 2) rfl))) rfl
theorem wT_1_3 : (Cond.initialized "ScopeTree$Loader") ∈ aw_TB := aw_tb (List.mem_append_right _ (List.mem_append_left _ (List.mem_of_getElem? (i := 3) rfl))) rfl
theorem wT_1_4 : (Cond.initialized "ScopeTree$Type") ∈ aw_TB := aw_tb (List.mem_append_right _ (List.mem_append_left _ (List.mem_of_getElem? (i := 4) rfl))) rfl
theorem wT_1_5 : (Cond.initialized "ScopeTree$Scope") ∈ aw_TB := aw_tb (List.mem_append_right _ (List.mem_append_left _ (List.mem_of_getElem? (i := 5) rfl))) rfl
theorem wT_1_6 : (Cond.initialized "ScopeTree$Path") ∈ aw_TB := aw_tb (List.mem_append_right _ (List.mem_append_left _ (List.mem_of_getElem? (i := 6) rfl))) rfl
theorem wT_1_7 : (Cond.initialized "java/lang/Enum") ∈ aw_TB := aw_tb (List.mem_append_right _ (List.mem_append_left _ (List.mem_of_getElem? (i := 7) rfl))) rfl
theorem wT_1_8 : (Cond.initialized "ScopeTree$State") ∈ aw_TB := aw_tb (List.mem_append_right _ (List.mem_append_left _ (List.mem_of_getElem? (i := 8) rfl))) rfl
theorem wT_1_9 : (Cond.initialized "ScopeTreeModel") ∈ aw_TB := aw_tb (List.mem_append_right _ (List.mem_append_left _ (List.mem_of_getElem? (i := 9) rfl))) rfl
theorem wT_1_10 : (Cond.initialized "java/lang/Throwable") ∈ aw_TB := aw_tb (List.mem_append_right _ (List.mem_append_left _ (List.mem_of_getElem? (i := 10) rfl))) rfl
theorem wT_1_11 : (Cond.initialized "java/lang/Exception") ∈ aw_TB := aw_tb (List.mem_append_right _ (List.mem_append_left _ (List.mem_of_getElem? (i := 11) rfl))) rfl
theorem wT_1_12 : (Cond.initialized "java/lang/RuntimeException") ∈ aw_TB := aw_tb (List.mem_append_right _ (List.mem_append_left _ (List.mem_of_getElem? (i := 12) rfl))) rfl
theorem wT_1_13 : (Cond.initialized "java/lang/IllegalArgumentException") ∈ aw_TB := aw_tb (List.mem_append_right _ (List.mem_append_left _ (List.mem_of_getElem? (i := 13) rfl))) rfl
theorem wT_1_14 : (Cond.initialized "java/lang/Record") ∈ aw_TB := aw_tb (List.mem_append_right _ (List.mem_append_left _ (List.mem_of_getElem? (i := 14) rfl))) rfl
theorem wT_1_15 : (Cond.initialized "ScopeTree$ClassFile") ∈ aw_TB := aw_tb (List.mem_append_right _ (List.mem_append_left _ (List.mem_of_getElem? (i := 15) rfl))) rfl
theorem wT_1_16 : (Cond.initialized "java/lang/Math") ∈ aw_TB := aw_tb (List.mem_append_right _ (List.mem_append_left _ (List.mem_of_getElem? (i := 16) rfl))) rfl
theorem wT_1_17 : (Cond.initialized "java/lang/IllegalStateException") ∈ aw_TB := aw_tb (List.mem_append_right _ (List.mem_append_left _ (List.mem_of_getElem? (i := 17) rfl))) rfl
theorem wT_1_18 : (Cond.initialized "ScopeTree$Descriptor") ∈ aw_TB := aw_tb (List.mem_append_right _ (List.mem_append_left _ (List.mem_of_getElem? (i := 18) rfl))) rfl
theorem wT_1_19 : (Cond.initialized "ScopeTree$Filter") ∈ aw_TB := aw_tb (List.mem_append_right _ (List.mem_append_left _ (List.mem_of_getElem? (i := 19) rfl))) rfl
theorem wT_1_20 : (Cond.initialized "java/lang/UnsupportedOperationException") ∈ aw_TB := aw_tb (List.mem_append_right _ (List.mem_append_left _ (List.mem_of_getElem? (i := 20) rfl))) rfl
theorem wT_1_21 : (Cond.initialized "java/util/NoSuchElementException") ∈ aw_TB := aw_tb (List.mem_append_right _ (List.mem_append_left _ (List.mem_of_getElem? (i := 21) rfl))) rfl
theorem wT_1_22 : (Cond.classLink "ScopeTreeLaw" 8 "ScopeTree") ∈ aw_TB := aw_tb (List.mem_append_right _ (List.mem_append_left _ (List.mem_of_getElem? (i := 22) rfl))) rfl
theorem wT_1_23 : (Cond.instantiable "ScopeTree" 8) ∈ aw_TB := aw_tb (List.mem_append_right _ (List.mem_append_left _ (List.mem_of_getElem? (i := 23) rfl))) rfl
theorem wT_1_24 : (Cond.methodLink "ScopeTreeLaw" 68 ⟨"ScopeTree", "<init>", "()V"⟩) ∈ aw_TB := aw_tb (List.mem_append_right _ (List.mem_append_left _ (List.mem_of_getElem? (i := 24) rfl))) rfl
theorem wT_1_25 : (Cond.instanceMethod ⟨"ScopeTree", "<init>", "()V"⟩) ∈ aw_TB := aw_tb (List.mem_append_right _ (List.mem_append_left _ (List.mem_of_getElem? (i := 25) rfl))) rfl
theorem wT_1_26 : (Cond.code ⟨"ScopeTree", "<init>", "()V"⟩ prog_1_method_1_code 3 none) ∈ aw_TB := aw_tb (List.mem_append_right _ (List.mem_append_left _ (List.mem_of_getElem? (i := 26) rfl))) rfl
theorem wT_1_27 : (Cond.methodLink "ScopeTree" 1 ⟨"java/lang/Object", "<init>", "()V"⟩) ∈ aw_TB := aw_tb (List.mem_append_right _ (List.mem_append_left _ (List.mem_of_getElem? (i := 27) rfl))) rfl
theorem wT_1_28 : (Cond.instanceMethod ⟨"java/lang/Object", "<init>", "()V"⟩) ∈ aw_TB := aw_tb (List.mem_append_right _ (List.mem_append_left _ (List.mem_of_getElem? (i := 28) rfl))) rfl
theorem wT_1_29 : (Cond.code ⟨"java/lang/Object", "<init>", "()V"⟩ object_method_1_code 1 none) ∈ aw_TB := aw_tb (List.mem_append_right _ (List.mem_append_left _ (List.mem_of_getElem? (i := 29) rfl))) rfl
theorem wT_1_30 : (Cond.classLink "ScopeTree" 9 "ScopeTree$Archive") ∈ aw_TB := aw_tb (List.mem_append_right _ (List.mem_append_left _ (List.mem_of_getElem? (i := 30) rfl))) rfl
theorem wT_1_32 : (Cond.classLink "ScopeTree" 15 "ScopeTree$Scope") ∈ aw_TB := aw_tb (List.mem_append_right _ (List.mem_append_left _ (List.mem_of_getElem? (i := 32) rfl))) rfl
theorem wT_1_34 : (Cond.classLink "ScopeTree" 21 "ScopeTree$Loader") ∈ aw_TB := aw_tb (List.mem_append_right _ (List.mem_append_left _ (List.mem_of_getElem? (i := 34) rfl))) rfl
theorem wT_1_36 : (Cond.classLink "ScopeTree" 27 "ScopeTree$Type") ∈ aw_TB := aw_tb (List.mem_append_right _ (List.mem_append_left _ (List.mem_of_getElem? (i := 36) rfl))) rfl
theorem wT_1_38 : (Cond.instantiable "ScopeTree$Archive" 4) ∈ aw_TB := aw_tb (List.mem_append_right _ (List.mem_append_left _ (List.mem_of_getElem? (i := 38) rfl))) rfl
theorem wN_1_39 : (Cond.methodLinkNest "ScopeTree" 40 ⟨"ScopeTree$Archive", "<init>", "()V"⟩ "ScopeTree") ∈ aw_NB := aw_nb (List.mem_append_right _ (List.mem_append_left _ (List.mem_of_getElem? (i := 39) rfl))) rfl
theorem wT_1_40 : (Cond.instanceMethod ⟨"ScopeTree$Archive", "<init>", "()V"⟩) ∈ aw_TB := aw_tb (List.mem_append_right _ (List.mem_append_left _ (List.mem_of_getElem? (i := 40) rfl))) rfl
theorem wT_1_41 : (Cond.code ⟨"ScopeTree$Archive", "<init>", "()V"⟩ prog_2_method_1_code 1 none) ∈ aw_TB := aw_tb (List.mem_append_right _ (List.mem_append_left _ (List.mem_of_getElem? (i := 41) rfl))) rfl
theorem wT_1_42 : (Cond.methodLink "ScopeTree$Archive" 3 ⟨"java/lang/Object", "<init>", "()V"⟩) ∈ aw_TB := aw_tb (List.mem_append_right _ (List.mem_append_left _ (List.mem_of_getElem? (i := 42) rfl))) rfl
theorem wT_1_43 : (Cond.classLink "ScopeTree$Archive" 9 "ScopeTree$ClassFile") ∈ aw_TB := aw_tb (List.mem_append_right _ (List.mem_append_left _ (List.mem_of_getElem? (i := 43) rfl))) rfl
theorem wT_1_45 : (Cond.classLink "ScopeTree$Archive" 17 "ScopeTree$Descriptor") ∈ aw_TB := aw_tb (List.mem_append_right _ (List.mem_append_left _ (List.mem_of_getElem? (i := 45) rfl))) rfl
theorem wT_1_47 : (Cond.fieldLink "ScopeTree$Archive" 11 "ScopeTree$Archive" "files" "[LScopeTree$ClassFile;") ∈ aw_TB := aw_tb (List.mem_append_right _ (List.mem_append_left _ (List.mem_of_getElem? (i := 47) rfl))) rfl
theorem wT_1_48 : (Cond.fieldLink "ScopeTree$Archive" 27 "ScopeTree$Archive" "fileCount" "I") ∈ aw_TB := aw_tb (List.mem_append_right _ (List.mem_append_left _ (List.mem_of_getElem? (i := 48) rfl))) rfl
theorem wN_1_49 : (Cond.fieldLinkNest "ScopeTree" 107 "ScopeTree$Archive" "fileCount" "I" "ScopeTree") ∈ aw_NB := aw_nb (List.mem_append_right _ (List.mem_append_left _ (List.mem_of_getElem? (i := 49) rfl))) rfl
theorem wT_1_50 : (Cond.fieldLink "ScopeTree$Archive" 19 "ScopeTree$Archive" "descriptors" "[LScopeTree$Descriptor;") ∈ aw_TB := aw_tb (List.mem_append_right _ (List.mem_append_left _ (List.mem_of_getElem? (i := 50) rfl))) rfl
theorem wT_1_51 : (Cond.fieldLink "ScopeTree$Archive" 34 "ScopeTree$Archive" "descriptorCount" "I") ∈ aw_TB := aw_tb (List.mem_append_right _ (List.mem_append_left _ (List.mem_of_getElem? (i := 51) rfl))) rfl
theorem wN_1_52 : (Cond.fieldLinkNest "ScopeTree" 123 "ScopeTree$Archive" "descriptorCount" "I" "ScopeTree") ∈ aw_NB := aw_nb (List.mem_append_right _ (List.mem_append_left _ (List.mem_of_getElem? (i := 52) rfl))) rfl
theorem wT_1_53 : (Cond.laysFinal "ScopeTree$Archive" "ScopeTree$Archive" "files" "[LScopeTree$ClassFile;") ∈ aw_TB := aw_tb (List.mem_append_right _ (List.mem_append_left _ (List.mem_of_getElem? (i := 53) rfl))) rfl
theorem wT_1_54 : (Cond.soleField "ScopeTree$Archive" "files") ∈ aw_TB := aw_tb (List.mem_append_right _ (List.mem_append_left _ (List.mem_of_getElem? (i := 54) rfl))) rfl
theorem wT_1_55 : (Cond.lays "ScopeTree$Archive" "ScopeTree$Archive" "fileCount" "I") ∈ aw_TB := aw_tb (List.mem_append_right _ (List.mem_append_left _ (List.mem_of_getElem? (i := 55) rfl))) rfl
theorem wT_1_56 : (Cond.soleField "ScopeTree$Archive" "fileCount") ∈ aw_TB := aw_tb (List.mem_append_right _ (List.mem_append_left _ (List.mem_of_getElem? (i := 56) rfl))) rfl
theorem wT_1_57 : (Cond.laysFinal "ScopeTree$Archive" "ScopeTree$Archive" "descriptors" "[LScopeTree$Descriptor;") ∈ aw_TB := aw_tb (List.mem_append_right _ (List.mem_append_left _ (List.mem_of_getElem? (i := 57) rfl))) rfl
theorem wT_1_58 : (Cond.soleField "ScopeTree$Archive" "descriptors") ∈ aw_TB := aw_tb (List.mem_append_right _ (List.mem_append_left _ (List.mem_of_getElem? (i := 58) rfl))) rfl
theorem wT_1_59 : (Cond.lays "ScopeTree$Archive" "ScopeTree$Archive" "descriptorCount" "I") ∈ aw_TB := aw_tb (List.mem_append_right _ (List.mem_append_left _ (List.mem_of_getElem? (i := 59) rfl))) rfl
theorem wT_1_60 : (Cond.soleField "ScopeTree$Archive" "descriptorCount") ∈ aw_TB := aw_tb (List.mem_append_right _ (List.mem_append_left _ (List.mem_of_getElem? (i := 60) rfl))) rfl
theorem wT_1_61 : (Cond.superclass "ScopeTree$Archive" "java/lang/Object") ∈ aw_TB := aw_tb (List.mem_append_right _ (List.mem_append_left _ (List.mem_of_getElem? (i := 61) rfl))) rfl
theorem wT_1_62 : (Cond.arrayClass .int) ∈ aw_TB := aw_tb (List.mem_append_right _ (List.mem_append_left _ (List.mem_of_getElem? (i := 62) rfl))) rfl
theorem wT_1_63 : (Cond.instantiable "ScopeTree$Loader" 8) ∈ aw_TB := aw_tb (List.mem_append_right _ (List.mem_append_left _ (List.mem_of_getElem? (i := 63) rfl))) rfl
theorem wN_1_64 : (Cond.methodLinkNest "ScopeTree" 41 ⟨"ScopeTree$Loader", "<init>", "(IILScopeTree$Loader;[LScopeTree$Archive;LScopeTree$Filter;)V"⟩ "ScopeTree") ∈ aw_NB := aw_nb (List.mem_append_right _ (List.mem_append_left _ (List.mem_of_getElem? (i := 64) rfl))) rfl
theorem wT_1_65 : (Cond.instanceMethod ⟨"ScopeTree$Loader", "<init>", "(IILScopeTree$Loader;[LScopeTree$Archive;LScopeTree$Filter;)V"⟩) ∈ aw_TB := aw_tb (List.mem_append_right _ (List.mem_append_left _ (List.mem_of_getElem? (i := 65) rfl))) rfl
theorem wT_1_66 : (Cond.code ⟨"ScopeTree$Loader", "<init>", "(IILScopeTree$Loader;[LScopeTree$Archive;LScopeTree$Filter;)V"⟩ prog_6_method_1_code 6 none) ∈ aw_TB := aw_tb (List.mem_append_right _ (List.mem_append_left _ (List.mem_of_getElem? (i := 66) rfl))) rfl
theorem wT_1_67 : (Cond.methodLink "ScopeTree$Loader" 1 ⟨"java/lang/Object", "<init>", "()V"⟩) ∈ aw_TB := aw_tb (List.mem_append_right _ (List.mem_append_left _ (List.mem_of_getElem? (i := 67) rfl))) rfl
theorem wT_1_68 : (Cond.fieldLink "ScopeTree$Loader" 7 "ScopeTree$Loader" "number" "I") ∈ aw_TB := aw_tb (List.mem_append_right _ (List.mem_append_left _ (List.mem_of_getElem? (i := 68) rfl))) rfl
theorem wN_1_69 : (Cond.fieldLinkNest "ScopeTree" 192 "ScopeTree$Loader" "number" "I" "ScopeTree") ∈ aw_NB := aw_nb (List.mem_append_right _ (List.mem_append_left _ (List.mem_of_getElem? (i := 69) rfl))) rfl
theorem wT_1_70 : (Cond.fieldLink "ScopeTree$Loader" 13 "ScopeTree$Loader" "kind" "I") ∈ aw_TB := aw_tb (List.mem_append_right _ (List.mem_append_left _ (List.mem_of_getElem? (i := 70) rfl))) rfl
theorem wN_1_71 : (Cond.fieldLinkNest "ScopeTree" 207 "ScopeTree$Loader" "kind" "I" "ScopeTree") ∈ aw_NB := aw_nb (List.mem_append_right _ (List.mem_append_left _ (List.mem_of_getElem? (i := 71) rfl))) rfl
theorem wT_1_72 : (Cond.fieldLink "ScopeTree$Loader" 16 "ScopeTree$Loader" "parent" "LScopeTree$Loader;") ∈ aw_TB := aw_tb (List.mem_append_right _ (List.mem_append_left _ (List.mem_of_getElem? (i := 72) rfl))) rfl
theorem wN_1_73 : (Cond.fieldLinkNest "ScopeTree" 210 "ScopeTree$Loader" "parent" "LScopeTree$Loader;" "ScopeTree") ∈ aw_NB := aw_nb (List.mem_append_right _ (List.mem_append_left _ (List.mem_of_getElem? (i := 73) rfl))) rfl
theorem wT_1_74 : (Cond.fieldLink "ScopeTree$Loader" 20 "ScopeTree$Loader" "contents" "[LScopeTree$Archive;") ∈ aw_TB := aw_tb (List.mem_append_right _ (List.mem_append_left _ (List.mem_of_getElem? (i := 74) rfl))) rfl
theorem wT_1_75 : (Cond.fieldLink "ScopeTree$Loader" 24 "ScopeTree$Loader" "filter" "LScopeTree$Filter;") ∈ aw_TB := aw_tb (List.mem_append_right _ (List.mem_append_left _ (List.mem_of_getElem? (i := 75) rfl))) rfl
theorem wN_1_76 : (Cond.fieldLinkNest "ScopeTree" 301 "ScopeTree$Loader" "filter" "LScopeTree$Filter;" "ScopeTree") ∈ aw_NB := aw_nb (List.mem_append_right _ (List.mem_append_left _ (List.mem_of_getElem? (i := 76) rfl))) rfl
theorem wN_1_77 : (Cond.fieldLinkNest "ScopeTree" 70 "ScopeTree$Loader" "holders" "I" "ScopeTree") ∈ aw_NB := aw_nb (List.mem_append_right _ (List.mem_append_left _ (List.mem_of_getElem? (i := 77) rfl))) rfl
theorem wN_1_78 : (Cond.fieldLinkNest "ScopeTree" 212 "ScopeTree$Loader" "definedCount" "I" "ScopeTree") ∈ aw_NB := aw_nb (List.mem_append_right _ (List.mem_append_left _ (List.mem_of_getElem? (i := 78) rfl))) rfl
theorem wN_1_79 : (Cond.fieldLinkNest "ScopeTree" 235 "ScopeTree$Loader" "isGone" "Z" "ScopeTree") ∈ aw_NB := aw_nb (List.mem_append_right _ (List.mem_append_left _ (List.mem_of_getElem? (i := 79) rfl))) rfl
theorem wT_1_80 : (Cond.laysFinal "ScopeTree$Loader" "ScopeTree$Loader" "number" "I") ∈ aw_TB := aw_tb (List.mem_append_right _ (List.mem_append_left _ (List.mem_of_getElem? (i := 80) rfl))) rfl
theorem wT_1_81 : (Cond.soleField "ScopeTree$Loader" "number") ∈ aw_TB := aw_tb (List.mem_append_right _ (List.mem_append_left _ (List.mem_of_getElem? (i := 81) rfl))) rfl
theorem wT_1_82 : (Cond.laysFinal "ScopeTree$Loader" "ScopeTree$Loader" "kind" "I") ∈ aw_TB := aw_tb (List.mem_append_right _ (List.mem_append_left _ (List.mem_of_getElem? (i := 82) rfl))) rfl
theorem wT_1_83 : (Cond.soleField "ScopeTree$Loader" "kind") ∈ aw_TB := aw_tb (List.mem_append_right _ (List.mem_append_left _ (List.mem_of_getElem? (i := 83) rfl))) rfl
theorem wT_1_84 : (Cond.laysFinal "ScopeTree$Loader" "ScopeTree$Loader" "parent" "LScopeTree$Loader;") ∈ aw_TB := aw_tb (List.mem_append_right _ (List.mem_append_left _ (List.mem_of_getElem? (i := 84) rfl))) rfl
theorem wT_1_85 : (Cond.soleField "ScopeTree$Loader" "parent") ∈ aw_TB := aw_tb (List.mem_append_right _ (List.mem_append_left _ (List.mem_of_getElem? (i := 85) rfl))) rfl
theorem wT_1_86 : (Cond.laysFinal "ScopeTree$Loader" "ScopeTree$Loader" "contents" "[LScopeTree$Archive;") ∈ aw_TB := aw_tb (List.mem_append_right _ (List.mem_append_left _ (List.mem_of_getElem? (i := 86) rfl))) rfl
theorem wT_1_87 : (Cond.soleField "ScopeTree$Loader" "contents") ∈ aw_TB := aw_tb (List.mem_append_right _ (List.mem_append_left _ (List.mem_of_getElem? (i := 87) rfl))) rfl
theorem wT_1_88 : (Cond.laysFinal "ScopeTree$Loader" "ScopeTree$Loader" "filter" "LScopeTree$Filter;") ∈ aw_TB := aw_tb (List.mem_append_right _ (List.mem_append_left _ (List.mem_of_getElem? (i := 88) rfl))) rfl
theorem wT_1_89 : (Cond.soleField "ScopeTree$Loader" "filter") ∈ aw_TB := aw_tb (List.mem_append_right _ (List.mem_append_left _ (List.mem_of_getElem? (i := 89) rfl))) rfl
theorem wT_1_90 : (Cond.lays "ScopeTree$Loader" "ScopeTree$Loader" "holders" "I") ∈ aw_TB := aw_tb (List.mem_append_right _ (List.mem_append_left _ (List.mem_of_getElem? (i := 90) rfl))) rfl
theorem wT_1_91 : (Cond.soleField "ScopeTree$Loader" "holders") ∈ aw_TB := aw_tb (List.mem_append_right _ (List.mem_append_left _ (List.mem_of_getElem? (i := 91) rfl))) rfl
theorem wT_1_92 : (Cond.lays "ScopeTree$Loader" "ScopeTree$Loader" "definedCount" "I") ∈ aw_TB := aw_tb (List.mem_append_right _ (List.mem_append_left _ (List.mem_of_getElem? (i := 92) rfl))) rfl
theorem wT_1_93 : (Cond.soleField "ScopeTree$Loader" "definedCount") ∈ aw_TB := aw_tb (List.mem_append_right _ (List.mem_append_left _ (List.mem_of_getElem? (i := 93) rfl))) rfl
theorem wT_1_94 : (Cond.lays "ScopeTree$Loader" "ScopeTree$Loader" "isGone" "Z") ∈ aw_TB := aw_tb (List.mem_append_right _ (List.mem_append_left _ (List.mem_of_getElem? (i := 94) rfl))) rfl
theorem wT_1_95 : (Cond.soleField "ScopeTree$Loader" "isGone") ∈ aw_TB := aw_tb (List.mem_append_right _ (List.mem_append_left _ (List.mem_of_getElem? (i := 95) rfl))) rfl
theorem wT_1_96 : (Cond.superclass "ScopeTree$Loader" "java/lang/Object") ∈ aw_TB := aw_tb (List.mem_append_right _ (List.mem_append_left _ (List.mem_of_getElem? (i := 96) rfl))) rfl
theorem wT_1_97 : (Cond.instantiable "ScopeTree$Type" 5) ∈ aw_TB := aw_tb (List.mem_append_right _ (List.mem_append_left _ (List.mem_of_getElem? (i := 97) rfl))) rfl
theorem wN_1_98 : (Cond.methodLinkNest "ScopeTree" 44 ⟨"ScopeTree$Type", "<init>", "(IIILScopeTree$Loader;LScopeTree$Type;)V"⟩ "ScopeTree") ∈ aw_NB := aw_nb (List.mem_append_right _ (List.mem_append_left _ (List.mem_of_getElem? (i := 98) rfl))) rfl
theorem wT_1_99 : (Cond.instanceMethod ⟨"ScopeTree$Type", "<init>", "(IIILScopeTree$Loader;LScopeTree$Type;)V"⟩) ∈ aw_TB := aw_tb (List.mem_append_right _ (List.mem_append_left _ (List.mem_of_getElem? (i := 99) rfl))) rfl
theorem wT_1_100 : (Cond.code ⟨"ScopeTree$Type", "<init>", "(IIILScopeTree$Loader;LScopeTree$Type;)V"⟩ prog_10_method_1_code 6 none) ∈ aw_TB := aw_tb (List.mem_append_right _ (List.mem_append_left _ (List.mem_of_getElem? (i := 100) rfl))) rfl
theorem wT_1_101 : (Cond.methodLink "ScopeTree$Type" 1 ⟨"java/lang/Object", "<init>", "()V"⟩) ∈ aw_TB := aw_tb (List.mem_append_right _ (List.mem_append_left _ (List.mem_of_getElem? (i := 101) rfl))) rfl
theorem wT_1_102 : (Cond.fieldLink "ScopeTree$Type" 7 "ScopeTree$Type" "number" "I") ∈ aw_TB := aw_tb (List.mem_append_right _ (List.mem_append_left _ (List.mem_of_getElem? (i := 102) rfl))) rfl
theorem wN_1_103 : (Cond.fieldLinkNest "ScopeTree" 224 "ScopeTree$Type" "number" "I" "ScopeTree") ∈ aw_NB := aw_nb (List.mem_append_right _ (List.mem_append_left _ (List.mem_of_getElem? (i := 103) rfl))) rfl
theorem wT_1_104 : (Cond.fieldLink "ScopeTree$Type" 13 "ScopeTree$Type" "name" "I") ∈ aw_TB := aw_tb (List.mem_append_right _ (List.mem_append_left _ (List.mem_of_getElem? (i := 104) rfl))) rfl
theorem wN_1_105 : (Cond.fieldLinkNest "ScopeTree" 229 "ScopeTree$Type" "name" "I" "ScopeTree") ∈ aw_NB := aw_nb (List.mem_append_right _ (List.mem_append_left _ (List.mem_of_getElem? (i := 105) rfl))) rfl
theorem wT_1_106 : (Cond.fieldLink "ScopeTree$Type" 16 "ScopeTree$Type" "version" "I") ∈ aw_TB := aw_tb (List.mem_append_right _ (List.mem_append_left _ (List.mem_of_getElem? (i := 106) rfl))) rfl
theorem wN_1_107 : (Cond.fieldLinkNest "ScopeTree" 239 "ScopeTree$Type" "version" "I" "ScopeTree") ∈ aw_NB := aw_nb (List.mem_append_right _ (List.mem_append_left _ (List.mem_of_getElem? (i := 107) rfl))) rfl
theorem wT_1_108 : (Cond.fieldLink "ScopeTree$Type" 19 "ScopeTree$Type" "definer" "LScopeTree$Loader;") ∈ aw_TB := aw_tb (List.mem_append_right _ (List.mem_append_left _ (List.mem_of_getElem? (i := 108) rfl))) rfl
theorem wN_1_109 : (Cond.fieldLinkNest "ScopeTree" 232 "ScopeTree$Type" "definer" "LScopeTree$Loader;" "ScopeTree") ∈ aw_NB := aw_nb (List.mem_append_right _ (List.mem_append_left _ (List.mem_of_getElem? (i := 109) rfl))) rfl
theorem wT_1_110 : (Cond.fieldLink "ScopeTree$Type" 23 "ScopeTree$Type" "superType" "LScopeTree$Type;") ∈ aw_TB := aw_tb (List.mem_append_right _ (List.mem_append_left _ (List.mem_of_getElem? (i := 110) rfl))) rfl
theorem wN_1_111 : (Cond.fieldLinkNest "ScopeTree" 242 "ScopeTree$Type" "superType" "LScopeTree$Type;" "ScopeTree") ∈ aw_NB := aw_nb (List.mem_append_right _ (List.mem_append_left _ (List.mem_of_getElem? (i := 111) rfl))) rfl
theorem wT_1_112 : (Cond.laysFinal "ScopeTree$Type" "ScopeTree$Type" "number" "I") ∈ aw_TB := aw_tb (List.mem_append_right _ (List.mem_append_left _ (List.mem_of_getElem? (i := 112) rfl))) rfl
theorem wT_1_113 : (Cond.soleField "ScopeTree$Type" "number") ∈ aw_TB := aw_tb (List.mem_append_right _ (List.mem_append_left _ (List.mem_of_getElem? (i := 113) rfl))) rfl
theorem wT_1_114 : (Cond.laysFinal "ScopeTree$Type" "ScopeTree$Type" "name" "I") ∈ aw_TB := aw_tb (List.mem_append_right _ (List.mem_append_left _ (List.mem_of_getElem? (i := 114) rfl))) rfl
theorem wT_1_115 : (Cond.soleField "ScopeTree$Type" "name") ∈ aw_TB := aw_tb (List.mem_append_right _ (List.mem_append_left _ (List.mem_of_getElem? (i := 115) rfl))) rfl
theorem wT_1_116 : (Cond.laysFinal "ScopeTree$Type" "ScopeTree$Type" "version" "I") ∈ aw_TB := aw_tb (List.mem_append_right _ (List.mem_append_left _ (List.mem_of_getElem? (i := 116) rfl))) rfl
theorem wT_1_117 : (Cond.soleField "ScopeTree$Type" "version") ∈ aw_TB := aw_tb (List.mem_append_right _ (List.mem_append_left _ (List.mem_of_getElem? (i := 117) rfl))) rfl
theorem wT_1_118 : (Cond.laysFinal "ScopeTree$Type" "ScopeTree$Type" "definer" "LScopeTree$Loader;") ∈ aw_TB := aw_tb (List.mem_append_right _ (List.mem_append_left _ (List.mem_of_getElem? (i := 118) rfl))) rfl
theorem wT_1_119 : (Cond.soleField "ScopeTree$Type" "definer") ∈ aw_TB := aw_tb (List.mem_append_right _ (List.mem_append_left _ (List.mem_of_getElem? (i := 119) rfl))) rfl
theorem wT_1_120 : (Cond.laysFinal "ScopeTree$Type" "ScopeTree$Type" "superType" "LScopeTree$Type;") ∈ aw_TB := aw_tb (List.mem_append_right _ (List.mem_append_left _ (List.mem_of_getElem? (i := 120) rfl))) rfl
theorem wT_1_121 : (Cond.soleField "ScopeTree$Type" "superType") ∈ aw_TB := aw_tb (List.mem_append_right _ (List.mem_append_left _ (List.mem_of_getElem? (i := 121) rfl))) rfl
theorem wT_1_122 : (Cond.superclass "ScopeTree$Type" "java/lang/Object") ∈ aw_TB := aw_tb (List.mem_append_right _ (List.mem_append_left _ (List.mem_of_getElem? (i := 122) rfl))) rfl
theorem wT_1_123 : (Cond.instantiable "ScopeTree$Scope" 10) ∈ aw_TB := aw_tb (List.mem_append_right _ (List.mem_append_left _ (List.mem_of_getElem? (i := 123) rfl))) rfl
theorem wN_1_124 : (Cond.methodLinkNest "ScopeTree" 51 ⟨"ScopeTree$Scope", "<init>", "(LScopeTree$Scope;)V"⟩ "ScopeTree") ∈ aw_NB := aw_nb (List.mem_append_right _ (List.mem_append_left _ (List.mem_of_getElem? (i := 124) rfl))) rfl
theorem wT_1_125 : (Cond.instanceMethod ⟨"ScopeTree$Scope", "<init>", "(LScopeTree$Scope;)V"⟩) ∈ aw_TB := aw_tb (List.mem_append_right _ (List.mem_append_left _ (List.mem_of_getElem? (i := 125) rfl))) rfl
theorem wT_1_126 : (Cond.code ⟨"ScopeTree$Scope", "<init>", "(LScopeTree$Scope;)V"⟩ prog_8_method_1_code 2 none) ∈ aw_TB := aw_tb (List.mem_append_right _ (List.mem_append_left _ (List.mem_of_getElem? (i := 126) rfl))) rfl
theorem wT_1_127 : (Cond.methodLink "ScopeTree$Scope" 3 ⟨"java/lang/Object", "<init>", "()V"⟩) ∈ aw_TB := aw_tb (List.mem_append_right _ (List.mem_append_left _ (List.mem_of_getElem? (i := 127) rfl))) rfl
theorem wT_1_128 : (Cond.classLink "ScopeTree$Scope" 9 "ScopeTree$Path") ∈ aw_TB := aw_tb (List.mem_append_right _ (List.mem_append_left _ (List.mem_of_getElem? (i := 128) rfl))) rfl
theorem wT_1_129 : (Cond.instantiable "ScopeTree$Path" 2) ∈ aw_TB := aw_tb (List.mem_append_right _ (List.mem_append_left _ (List.mem_of_getElem? (i := 129) rfl))) rfl
theorem wN_1_130 : (Cond.methodLinkNest "ScopeTree$Scope" 11 ⟨"ScopeTree$Path", "<init>", "()V"⟩ "ScopeTree") ∈ aw_NB := aw_nb (List.mem_append_right _ (List.mem_append_left _ (List.mem_of_getElem? (i := 130) rfl))) rfl
theorem wT_1_131 : (Cond.instanceMethod ⟨"ScopeTree$Path", "<init>", "()V"⟩) ∈ aw_TB := aw_tb (List.mem_append_right _ (List.mem_append_left _ (List.mem_of_getElem? (i := 131) rfl))) rfl
theorem wT_1_132 : (Cond.code ⟨"ScopeTree$Path", "<init>", "()V"⟩ prog_7_method_1_code 1 none) ∈ aw_TB := aw_tb (List.mem_append_right _ (List.mem_append_left _ (List.mem_of_getElem? (i := 132) rfl))) rfl
theorem wT_1_133 : (Cond.methodLink "ScopeTree$Path" 3 ⟨"java/lang/Object", "<init>", "()V"⟩) ∈ aw_TB := aw_tb (List.mem_append_right _ (List.mem_append_left _ (List.mem_of_getElem? (i := 133) rfl))) rfl
theorem wT_1_134 : (Cond.fieldLink "ScopeTree$Path" 9 "ScopeTree$Path" "archives" "[I") ∈ aw_TB := aw_tb (List.mem_append_right _ (List.mem_append_left _ (List.mem_of_getElem? (i := 134) rfl))) rfl
theorem wN_1_135 : (Cond.fieldLinkNest "ScopeTree" 306 "ScopeTree$Path" "archives" "[I" "ScopeTree") ∈ aw_NB := aw_nb (List.mem_append_right _ (List.mem_append_left _ (List.mem_of_getElem? (i := 135) rfl))) rfl
theorem wT_1_136 : (Cond.fieldLink "ScopeTree$Path" 15 "ScopeTree$Path" "length" "I") ∈ aw_TB := aw_tb (List.mem_append_right _ (List.mem_append_left _ (List.mem_of_getElem? (i := 136) rfl))) rfl
theorem wN_1_137 : (Cond.fieldLinkNest "ScopeTree" 286 "ScopeTree$Path" "length" "I" "ScopeTree") ∈ aw_NB := aw_nb (List.mem_append_right _ (List.mem_append_left _ (List.mem_of_getElem? (i := 137) rfl))) rfl
theorem wT_1_138 : (Cond.laysFinal "ScopeTree$Path" "ScopeTree$Path" "archives" "[I") ∈ aw_TB := aw_tb (List.mem_append_right _ (List.mem_append_left _ (List.mem_of_getElem? (i := 138) rfl))) rfl
theorem wT_1_139 : (Cond.soleField "ScopeTree$Path" "archives") ∈ aw_TB := aw_tb (List.mem_append_right _ (List.mem_append_left _ (List.mem_of_getElem? (i := 139) rfl))) rfl
theorem wT_1_140 : (Cond.lays "ScopeTree$Path" "ScopeTree$Path" "length" "I") ∈ aw_TB := aw_tb (List.mem_append_right _ (List.mem_append_left _ (List.mem_of_getElem? (i := 140) rfl))) rfl
theorem wT_1_141 : (Cond.soleField "ScopeTree$Path" "length") ∈ aw_TB := aw_tb (List.mem_append_right _ (List.mem_append_left _ (List.mem_of_getElem? (i := 141) rfl))) rfl
theorem wT_1_142 : (Cond.superclass "ScopeTree$Path" "java/lang/Object") ∈ aw_TB := aw_tb (List.mem_append_right _ (List.mem_append_left _ (List.mem_of_getElem? (i := 142) rfl))) rfl
theorem wT_1_143 : (Cond.fieldLink "ScopeTree$Scope" 21 "ScopeTree$State" "OPEN" "LScopeTree$State;") ∈ aw_TB := aw_tb (List.mem_append_right _ (List.mem_append_left _ (List.mem_of_getElem? (i := 143) rfl))) rfl
theorem wT_1_145 : (Cond.classLink "ScopeTree$Scope" 30 "ScopeTree$Type") ∈ aw_TB := aw_tb (List.mem_append_right _ (List.mem_append_left _ (List.mem_of_getElem? (i := 145) rfl))) rfl
theorem wT_1_146 : (Cond.fieldLink "ScopeTree$Scope" 36 "ScopeTree$Scope" "parent" "LScopeTree$Scope;") ∈ aw_TB := aw_tb (List.mem_append_right _ (List.mem_append_left _ (List.mem_of_getElem? (i := 146) rfl))) rfl
theorem wN_1_147 : (Cond.fieldLinkNest "ScopeTree" 166 "ScopeTree$Scope" "parent" "LScopeTree$Scope;" "ScopeTree") ∈ aw_NB := aw_nb (List.mem_append_right _ (List.mem_append_left _ (List.mem_of_getElem? (i := 147) rfl))) rfl
theorem wT_1_148 : (Cond.fieldLink "ScopeTree$Scope" 12 "ScopeTree$Scope" "localPath" "LScopeTree$Path;") ∈ aw_TB := aw_tb (List.mem_append_right _ (List.mem_append_left _ (List.mem_of_getElem? (i := 148) rfl))) rfl
theorem wN_1_149 : (Cond.fieldLinkNest "ScopeTree" 152 "ScopeTree$Scope" "localPath" "LScopeTree$Path;" "ScopeTree") ∈ aw_NB := aw_nb (List.mem_append_right _ (List.mem_append_left _ (List.mem_of_getElem? (i := 149) rfl))) rfl
theorem wT_1_150 : (Cond.fieldLink "ScopeTree$Scope" 18 "ScopeTree$Scope" "exportPath" "LScopeTree$Path;") ∈ aw_TB := aw_tb (List.mem_append_right _ (List.mem_append_left _ (List.mem_of_getElem? (i := 150) rfl))) rfl
theorem wN_1_151 : (Cond.fieldLinkNest "ScopeTree" 142 "ScopeTree$Scope" "exportPath" "LScopeTree$Path;" "ScopeTree") ∈ aw_NB := aw_nb (List.mem_append_right _ (List.mem_append_left _ (List.mem_of_getElem? (i := 151) rfl))) rfl
theorem wN_1_152 : (Cond.fieldLinkNest "ScopeTree" 162 "ScopeTree$Scope" "filter" "LScopeTree$Filter;" "ScopeTree") ∈ aw_NB := aw_nb (List.mem_append_right _ (List.mem_append_left _ (List.mem_of_getElem? (i := 152) rfl))) rfl
theorem wT_1_153 : (Cond.fieldLink "ScopeTree$Scope" 27 "ScopeTree$Scope" "state" "LScopeTree$State;") ∈ aw_TB := aw_tb (List.mem_append_right _ (List.mem_append_left _ (List.mem_of_getElem? (i := 153) rfl))) rfl
theorem wN_1_154 : (Cond.fieldLinkNest "ScopeTree" 60 "ScopeTree$Scope" "state" "LScopeTree$State;" "ScopeTree") ∈ aw_NB := aw_nb (List.mem_append_right _ (List.mem_append_left _ (List.mem_of_getElem? (i := 154) rfl))) rfl
theorem wN_1_155 : (Cond.fieldLinkNest "ScopeTree" 185 "ScopeTree$Scope" "baseLoader" "LScopeTree$Loader;" "ScopeTree") ∈ aw_NB := aw_nb (List.mem_append_right _ (List.mem_append_left _ (List.mem_of_getElem? (i := 155) rfl))) rfl
theorem wN_1_156 : (Cond.fieldLinkNest "ScopeTree" 63 "ScopeTree$Scope" "exportLoader" "LScopeTree$Loader;" "ScopeTree") ∈ aw_NB := aw_nb (List.mem_append_right _ (List.mem_append_left _ (List.mem_of_getElem? (i := 156) rfl))) rfl
theorem wN_1_157 : (Cond.fieldLinkNest "ScopeTree" 67 "ScopeTree$Scope" "localLoader" "LScopeTree$Loader;" "ScopeTree") ∈ aw_NB := aw_nb (List.mem_append_right _ (List.mem_append_left _ (List.mem_of_getElem? (i := 157) rfl))) rfl
theorem wT_1_158 : (Cond.fieldLink "ScopeTree$Scope" 32 "ScopeTree$Scope" "applied" "[LScopeTree$Type;") ∈ aw_TB := aw_tb (List.mem_append_right _ (List.mem_append_left _ (List.mem_of_getElem? (i := 158) rfl))) rfl
theorem wN_1_159 : (Cond.fieldLinkNest "ScopeTree" 272 "ScopeTree$Scope" "applied" "[LScopeTree$Type;" "ScopeTree") ∈ aw_NB := aw_nb (List.mem_append_right _ (List.mem_append_left _ (List.mem_of_getElem? (i := 159) rfl))) rfl
theorem wT_1_160 : (Cond.fieldLink "ScopeTree$Scope" 40 "ScopeTree$Scope" "appliedCount" "I") ∈ aw_TB := aw_tb (List.mem_append_right _ (List.mem_append_left _ (List.mem_of_getElem? (i := 160) rfl))) rfl
theorem wN_1_161 : (Cond.fieldLinkNest "ScopeTree" 269 "ScopeTree$Scope" "appliedCount" "I" "ScopeTree") ∈ aw_NB := aw_nb (List.mem_append_right _ (List.mem_append_left _ (List.mem_of_getElem? (i := 161) rfl))) rfl
theorem wT_1_162 : (Cond.laysFinal "ScopeTree$Scope" "ScopeTree$Scope" "parent" "LScopeTree$Scope;") ∈ aw_TB := aw_tb (List.mem_append_right _ (List.mem_append_left _ (List.mem_of_getElem? (i := 162) rfl))) rfl
theorem wT_1_163 : (Cond.soleField "ScopeTree$Scope" "parent") ∈ aw_TB := aw_tb (List.mem_append_right _ (List.mem_append_left _ (List.mem_of_getElem? (i := 163) rfl))) rfl
theorem wT_1_164 : (Cond.laysFinal "ScopeTree$Scope" "ScopeTree$Scope" "localPath" "LScopeTree$Path;") ∈ aw_TB := aw_tb (List.mem_append_right _ (List.mem_append_left _ (List.mem_of_getElem? (i := 164) rfl))) rfl
theorem wT_1_165 : (Cond.soleField "ScopeTree$Scope" "localPath") ∈ aw_TB := aw_tb (List.mem_append_right _ (List.mem_append_left _ (List.mem_of_getElem? (i := 165) rfl))) rfl
theorem wT_1_166 : (Cond.laysFinal "ScopeTree$Scope" "ScopeTree$Scope" "exportPath" "LScopeTree$Path;") ∈ aw_TB := aw_tb (List.mem_append_right _ (List.mem_append_left _ (List.mem_of_getElem? (i := 166) rfl))) rfl
theorem wT_1_167 : (Cond.soleField "ScopeTree$Scope" "exportPath") ∈ aw_TB := aw_tb (List.mem_append_right _ (List.mem_append_left _ (List.mem_of_getElem? (i := 167) rfl))) rfl
theorem wT_1_168 : (Cond.lays "ScopeTree$Scope" "ScopeTree$Scope" "filter" "LScopeTree$Filter;") ∈ aw_TB := aw_tb (List.mem_append_right _ (List.mem_append_left _ (List.mem_of_getElem? (i := 168) rfl))) rfl
theorem wT_1_169 : (Cond.soleField "ScopeTree$Scope" "filter") ∈ aw_TB := aw_tb (List.mem_append_right _ (List.mem_append_left _ (List.mem_of_getElem? (i := 169) rfl))) rfl
theorem wT_1_170 : (Cond.lays "ScopeTree$Scope" "ScopeTree$Scope" "state" "LScopeTree$State;") ∈ aw_TB := aw_tb (List.mem_append_right _ (List.mem_append_left _ (List.mem_of_getElem? (i := 170) rfl))) rfl
theorem wT_1_171 : (Cond.soleField "ScopeTree$Scope" "state") ∈ aw_TB := aw_tb (List.mem_append_right _ (List.mem_append_left _ (List.mem_of_getElem? (i := 171) rfl))) rfl
theorem wT_1_172 : (Cond.lays "ScopeTree$Scope" "ScopeTree$Scope" "baseLoader" "LScopeTree$Loader;") ∈ aw_TB := aw_tb (List.mem_append_right _ (List.mem_append_left _ (List.mem_of_getElem? (i := 172) rfl))) rfl
theorem wT_1_173 : (Cond.soleField "ScopeTree$Scope" "baseLoader") ∈ aw_TB := aw_tb (List.mem_append_right _ (List.mem_append_left _ (List.mem_of_getElem? (i := 173) rfl))) rfl
theorem wT_1_174 : (Cond.lays "ScopeTree$Scope" "ScopeTree$Scope" "exportLoader" "LScopeTree$Loader;") ∈ aw_TB := aw_tb (List.mem_append_right _ (List.mem_append_left _ (List.mem_of_getElem? (i := 174) rfl))) rfl
theorem wT_1_175 : (Cond.soleField "ScopeTree$Scope" "exportLoader") ∈ aw_TB := aw_tb (List.mem_append_right _ (List.mem_append_left _ (List.mem_of_getElem? (i := 175) rfl))) rfl
theorem wT_1_176 : (Cond.lays "ScopeTree$Scope" "ScopeTree$Scope" "localLoader" "LScopeTree$Loader;") ∈ aw_TB := aw_tb (List.mem_append_right _ (List.mem_append_left _ (List.mem_of_getElem? (i := 176) rfl))) rfl
theorem wT_1_177 : (Cond.soleField "ScopeTree$Scope" "localLoader") ∈ aw_TB := aw_tb (List.mem_append_right _ (List.mem_append_left _ (List.mem_of_getElem? (i := 177) rfl))) rfl
theorem wT_1_178 : (Cond.laysFinal "ScopeTree$Scope" "ScopeTree$Scope" "applied" "[LScopeTree$Type;") ∈ aw_TB := aw_tb (List.mem_append_right _ (List.mem_append_left _ (List.mem_of_getElem? (i := 178) rfl))) rfl
theorem wT_1_179 : (Cond.soleField "ScopeTree$Scope" "applied") ∈ aw_TB := aw_tb (List.mem_append_right _ (List.mem_append_left _ (List.mem_of_getElem? (i := 179) rfl))) rfl
theorem wT_1_180 : (Cond.lays "ScopeTree$Scope" "ScopeTree$Scope" "appliedCount" "I") ∈ aw_TB := aw_tb (List.mem_append_right _ (List.mem_append_left _ (List.mem_of_getElem? (i := 180) rfl))) rfl
theorem wT_1_181 : (Cond.soleField "ScopeTree$Scope" "appliedCount") ∈ aw_TB := aw_tb (List.mem_append_right _ (List.mem_append_left _ (List.mem_of_getElem? (i := 181) rfl))) rfl
theorem wT_1_182 : (Cond.superclass "ScopeTree$Scope" "java/lang/Object") ∈ aw_TB := aw_tb (List.mem_append_right _ (List.mem_append_left _ (List.mem_of_getElem? (i := 182) rfl))) rfl
theorem wT_1_183 : (Cond.fieldLink "ScopeTree" 54 "ScopeTree$State" "LOCKED" "LScopeTree$State;") ∈ aw_TB := aw_tb (List.mem_append_right _ (List.mem_append_left _ (List.mem_of_getElem? (i := 183) rfl))) rfl
theorem wT_1_185 : (Cond.fieldLink "ScopeTree" 11 "ScopeTree" "archives" "[LScopeTree$Archive;") ∈ aw_TB := aw_tb (List.mem_append_right _ (List.mem_append_left _ (List.mem_of_getElem? (i := 185) rfl))) rfl
theorem wT_1_186 : (Cond.fieldLink "ScopeTree" 17 "ScopeTree" "scopes" "[LScopeTree$Scope;") ∈ aw_TB := aw_tb (List.mem_append_right _ (List.mem_append_left _ (List.mem_of_getElem? (i := 186) rfl))) rfl
theorem wT_1_187 : (Cond.fieldLink "ScopeTree" 73 "ScopeTree" "scopeCount" "I") ∈ aw_TB := aw_tb (List.mem_append_right _ (List.mem_append_left _ (List.mem_of_getElem? (i := 187) rfl))) rfl
theorem wT_1_188 : (Cond.fieldLink "ScopeTree" 23 "ScopeTree" "loaders" "[LScopeTree$Loader;") ∈ aw_TB := aw_tb (List.mem_append_right _ (List.mem_append_left _ (List.mem_of_getElem? (i := 188) rfl))) rfl
theorem wT_1_189 : (Cond.fieldLink "ScopeTree" 29 "ScopeTree" "types" "[LScopeTree$Type;") ∈ aw_TB := aw_tb (List.mem_append_right _ (List.mem_append_left _ (List.mem_of_getElem? (i := 189) rfl))) rfl
theorem wT_1_190 : (Cond.fieldLink "ScopeTree" 47 "ScopeTree" "typeCount" "I") ∈ aw_TB := aw_tb (List.mem_append_right _ (List.mem_append_left _ (List.mem_of_getElem? (i := 190) rfl))) rfl
theorem wT_1_191 : (Cond.fieldLink "ScopeTree" 33 "ScopeTree" "openLoaders" "[LScopeTree$Loader;") ∈ aw_TB := aw_tb (List.mem_append_right _ (List.mem_append_left _ (List.mem_of_getElem? (i := 191) rfl))) rfl
theorem wT_1_192 : (Cond.fieldLink "ScopeTree" 36 "ScopeTree" "openNames" "[I") ∈ aw_TB := aw_tb (List.mem_append_right _ (List.mem_append_left _ (List.mem_of_getElem? (i := 192) rfl))) rfl
theorem wT_1_193 : (Cond.laysFinal "ScopeTree" "ScopeTree" "archives" "[LScopeTree$Archive;") ∈ aw_TB := aw_tb (List.mem_append_right _ (List.mem_append_left _ (List.mem_of_getElem? (i := 193) rfl))) rfl
theorem wT_1_194 : (Cond.soleField "ScopeTree" "archives") ∈ aw_TB := aw_tb (List.mem_append_right _ (List.mem_append_left _ (List.mem_of_getElem? (i := 194) rfl))) rfl
theorem wT_1_195 : (Cond.laysFinal "ScopeTree" "ScopeTree" "scopes" "[LScopeTree$Scope;") ∈ aw_TB := aw_tb (List.mem_append_right _ (List.mem_append_left _ (List.mem_of_getElem? (i := 195) rfl))) rfl
theorem wT_1_196 : (Cond.soleField "ScopeTree" "scopes") ∈ aw_TB := aw_tb (List.mem_append_right _ (List.mem_append_left _ (List.mem_of_getElem? (i := 196) rfl))) rfl
theorem wT_1_197 : (Cond.lays "ScopeTree" "ScopeTree" "scopeCount" "I") ∈ aw_TB := aw_tb (List.mem_append_right _ (List.mem_append_left _ (List.mem_of_getElem? (i := 197) rfl))) rfl
theorem wT_1_198 : (Cond.soleField "ScopeTree" "scopeCount") ∈ aw_TB := aw_tb (List.mem_append_right _ (List.mem_append_left _ (List.mem_of_getElem? (i := 198) rfl))) rfl
theorem wT_1_199 : (Cond.laysFinal "ScopeTree" "ScopeTree" "loaders" "[LScopeTree$Loader;") ∈ aw_TB := aw_tb (List.mem_append_right _ (List.mem_append_left _ (List.mem_of_getElem? (i := 199) rfl))) rfl
theorem wT_1_200 : (Cond.soleField "ScopeTree" "loaders") ∈ aw_TB := aw_tb (List.mem_append_right _ (List.mem_append_left _ (List.mem_of_getElem? (i := 200) rfl))) rfl
theorem wT_1_201 : (Cond.laysFinal "ScopeTree" "ScopeTree" "types" "[LScopeTree$Type;") ∈ aw_TB := aw_tb (List.mem_append_right _ (List.mem_append_left _ (List.mem_of_getElem? (i := 201) rfl))) rfl
theorem wT_1_202 : (Cond.soleField "ScopeTree" "types") ∈ aw_TB := aw_tb (List.mem_append_right _ (List.mem_append_left _ (List.mem_of_getElem? (i := 202) rfl))) rfl
theorem wT_1_203 : (Cond.lays "ScopeTree" "ScopeTree" "typeCount" "I") ∈ aw_TB := aw_tb (List.mem_append_right _ (List.mem_append_left _ (List.mem_of_getElem? (i := 203) rfl))) rfl
theorem wT_1_204 : (Cond.soleField "ScopeTree" "typeCount") ∈ aw_TB := aw_tb (List.mem_append_right _ (List.mem_append_left _ (List.mem_of_getElem? (i := 204) rfl))) rfl
theorem wT_1_205 : (Cond.laysFinal "ScopeTree" "ScopeTree" "openLoaders" "[LScopeTree$Loader;") ∈ aw_TB := aw_tb (List.mem_append_right _ (List.mem_append_left _ (List.mem_of_getElem? (i := 205) rfl))) rfl
theorem wT_1_206 : (Cond.soleField "ScopeTree" "openLoaders") ∈ aw_TB := aw_tb (List.mem_append_right _ (List.mem_append_left _ (List.mem_of_getElem? (i := 206) rfl))) rfl
theorem wT_1_207 : (Cond.laysFinal "ScopeTree" "ScopeTree" "openNames" "[I") ∈ aw_TB := aw_tb (List.mem_append_right _ (List.mem_append_left _ (List.mem_of_getElem? (i := 207) rfl))) rfl
theorem wT_1_208 : (Cond.soleField "ScopeTree" "openNames") ∈ aw_TB := aw_tb (List.mem_append_right _ (List.mem_append_left _ (List.mem_of_getElem? (i := 208) rfl))) rfl
theorem wT_1_209 : (Cond.superclass "ScopeTree" "java/lang/Object") ∈ aw_TB := aw_tb (List.mem_append_right _ (List.mem_append_left _ (List.mem_of_getElem? (i := 209) rfl))) rfl
theorem wT_1_210 : (Cond.methodLink "ScopeTreeLaw" 114 ⟨"ScopeTree", "look", "(II)I"⟩) ∈ aw_TB := aw_tb (List.mem_append_right _ (List.mem_append_left _ (List.mem_of_getElem? (i := 210) rfl))) rfl
theorem wT_1_211 : (Cond.instanceMethod ⟨"ScopeTree", "look", "(II)I"⟩) ∈ aw_TB := aw_tb (List.mem_append_right _ (List.mem_append_left _ (List.mem_of_getElem? (i := 211) rfl))) rfl
theorem wT_1_212 : (Cond.selects "ScopeTree" ⟨"ScopeTree", "look", "(II)I"⟩ ⟨"ScopeTree", "look", "(II)I"⟩) ∈ aw_TB := aw_tb (List.mem_append_right _ (List.mem_append_left _ (List.mem_of_getElem? (i := 212) rfl))) rfl
theorem wT_1_213 : (Cond.code ⟨"ScopeTree", "look", "(II)I"⟩ prog_1_method_11_code 4 (some .int)) ∈ aw_TB := aw_tb (List.mem_append_right _ (List.mem_append_left _ (List.mem_of_getElem? (i := 213) rfl))) rfl
theorem wT_1_214 : (Cond.methodLink "ScopeTree" 80 ⟨"ScopeTree", "isBelow", "(II)Z"⟩) ∈ aw_TB := aw_tb (List.mem_append_right _ (List.mem_append_left _ (List.mem_of_getElem? (i := 214) rfl))) rfl
theorem wT_1_215 : (Cond.static ⟨"ScopeTree", "isBelow", "(II)Z"⟩) ∈ aw_TB := aw_tb (List.mem_append_right _ (List.mem_append_left _ (List.mem_of_getElem? (i := 215) rfl))) rfl
theorem wT_1_216 : (Cond.code ⟨"ScopeTree", "isBelow", "(II)Z"⟩ prog_1_method_17_code 2 (some .boolean)) ∈ aw_TB := aw_tb (List.mem_append_right _ (List.mem_append_left _ (List.mem_of_getElem? (i := 216) rfl))) rfl
theorem wT_1_217 : (Cond.methodLink "ScopeTreeLaw" 72 ⟨"ScopeTreeLaw", "file", "(LScopeTree;IIII[J)I"⟩) ∈ aw_TB := aw_tb (List.mem_append_right _ (List.mem_append_left _ (List.mem_of_getElem? (i := 217) rfl))) rfl
theorem wT_1_218 : (Cond.static ⟨"ScopeTreeLaw", "file", "(LScopeTree;IIII[J)I"⟩) ∈ aw_TB := aw_tb (List.mem_append_right _ (List.mem_append_left _ (List.mem_of_getElem? (i := 218) rfl))) rfl
theorem wT_1_219 : (Cond.codeWith ⟨"ScopeTreeLaw", "file", "(LScopeTree;IIII[J)I"⟩ method_3_code 7 (some .int) [(0, 14, 17, 13), (0, 14, 21, 15)]) ∈ aw_TB := aw_tb (List.mem_append_right _ (List.mem_append_left _ (List.mem_of_getElem? (i := 219) rfl))) rfl
theorem wT_1_220 : (Cond.classLink "ScopeTreeLaw" 13 "java/lang/IllegalArgumentException") ∈ aw_TB := aw_tb (List.mem_append_right _ (List.mem_append_left _ (List.mem_of_getElem? (i := 220) rfl))) rfl
theorem wT_1_221 : (Cond.classLink "ScopeTreeLaw" 15 "java/lang/IllegalStateException") ∈ aw_TB := aw_tb (List.mem_append_right _ (List.mem_append_left _ (List.mem_of_getElem? (i := 221) rfl))) rfl
theorem wT_1_222 : (Cond.methodLink "ScopeTreeLaw" 7 ⟨"ScopeTree", "file", "(IIII)I"⟩) ∈ aw_TB := aw_tb (List.mem_append_right _ (List.mem_append_left _ (List.mem_of_getElem? (i := 222) rfl))) rfl
theorem wT_1_223 : (Cond.instanceMethod ⟨"ScopeTree", "file", "(IIII)I"⟩) ∈ aw_TB := aw_tb (List.mem_append_right _ (List.mem_append_left _ (List.mem_of_getElem? (i := 223) rfl))) rfl
theorem wT_1_224 : (Cond.selects "ScopeTree" ⟨"ScopeTree", "file", "(IIII)I"⟩ ⟨"ScopeTree", "file", "(IIII)I"⟩) ∈ aw_TB := aw_tb (List.mem_append_right _ (List.mem_append_left _ (List.mem_of_getElem? (i := 224) rfl))) rfl
theorem wT_1_225 : (Cond.code ⟨"ScopeTree", "file", "(IIII)I"⟩ prog_1_method_2_code 6 (some .int)) ∈ aw_TB := aw_tb (List.mem_append_right _ (List.mem_append_left _ (List.mem_of_getElem? (i := 225) rfl))) rfl
theorem wT_1_226 : (Cond.methodLink "ScopeTree" 76 ⟨"ScopeTree", "archiveAt", "(I)LScopeTree$Archive;"⟩) ∈ aw_TB := aw_tb (List.mem_append_right _ (List.mem_append_left _ (List.mem_of_getElem? (i := 226) rfl))) rfl
theorem wT_1_228 : (Cond.instanceMethod ⟨"ScopeTree", "archiveAt", "(I)LScopeTree$Archive;"⟩) ∈ aw_TB := aw_tb (List.mem_append_right _ (List.mem_append_left _ (List.mem_of_getElem? (i := 228) rfl))) rfl
theorem wT_1_229 : (Cond.code ⟨"ScopeTree", "archiveAt", "(I)LScopeTree$Archive;"⟩ prog_1_method_18_code 2 (some (.object "ScopeTree$Archive"))) ∈ aw_TB := aw_tb (List.mem_append_right _ (List.mem_append_left _ (List.mem_of_getElem? (i := 229) rfl))) rfl
theorem wT_1_230 : (Cond.classLink "ScopeTree" 84 "java/lang/IllegalArgumentException") ∈ aw_TB := aw_tb (List.mem_append_right _ (List.mem_append_left _ (List.mem_of_getElem? (i := 230) rfl))) rfl
theorem wT_1_231 : (Cond.instantiable "java/lang/IllegalArgumentException" 6) ∈ aw_TB := aw_tb (List.mem_append_right _ (List.mem_append_left _ (List.mem_of_getElem? (i := 231) rfl))) rfl
theorem wN_1_232 : (Cond.castable "java/lang/IllegalArgumentException" "java/lang/IllegalArgumentException") ∈ aw_NB := aw_nb (List.mem_append_right _ (List.mem_append_left _ (List.mem_of_getElem? (i := 232) rfl))) rfl
theorem wN_1_233 : (Cond.declares ⟨"java/lang/RuntimeException", "<init>", "()V"⟩) ∈ aw_NB := aw_nb (List.mem_append_right _ (List.mem_append_left _ (List.mem_of_getElem? (i := 233) rfl))) rfl
theorem wN_1_234 : (Cond.declares ⟨"java/lang/RuntimeException", "<init>", "(Ljava/lang/String;)V"⟩) ∈ aw_NB := aw_nb (List.mem_append_right _ (List.mem_append_left _ (List.mem_of_getElem? (i := 234) rfl))) rfl
theorem wN_1_235 : (Cond.declares ⟨"java/lang/Exception", "<init>", "()V"⟩) ∈ aw_NB := aw_nb (List.mem_append_right _ (List.mem_append_left _ (List.mem_of_getElem? (i := 235) rfl))) rfl
theorem wN_1_236 : (Cond.declares ⟨"java/lang/Exception", "<init>", "(Ljava/lang/String;)V"⟩) ∈ aw_NB := aw_nb (List.mem_append_right _ (List.mem_append_left _ (List.mem_of_getElem? (i := 236) rfl))) rfl
theorem wN_1_237 : (Cond.declares ⟨"java/lang/Throwable", "<init>", "()V"⟩) ∈ aw_NB := aw_nb (List.mem_append_right _ (List.mem_append_left _ (List.mem_of_getElem? (i := 237) rfl))) rfl
theorem wN_1_238 : (Cond.declares ⟨"java/lang/Throwable", "<init>", "(Ljava/lang/String;)V"⟩) ∈ aw_NB := aw_nb (List.mem_append_right _ (List.mem_append_left _ (List.mem_of_getElem? (i := 238) rfl))) rfl
theorem wT_1_239 : (Cond.selects "java/lang/IllegalArgumentException" ⟨"java/lang/Throwable", "fillInStackTrace", "(I)Ljava/lang/Throwable;"⟩ ⟨"java/lang/Throwable", "fillInStackTrace", "(I)Ljava/lang/Throwable;"⟩) ∈ aw_TB := aw_tb (List.mem_append_right _ (List.mem_append_left _ (List.mem_of_getElem? (i := 239) rfl))) rfl
theorem wT_2_0 : (Cond.selects "java/lang/IllegalArgumentException" ⟨"java/lang/Throwable", "fillInStackTrace", "()Ljava/lang/Throwable;"⟩ ⟨"java/lang/Throwable", "fillInStackTrace", "()Ljava/lang/Throwable;"⟩) ∈ aw_TB := aw_tb (List.mem_append_right _ (List.mem_append_right _ (List.mem_append_left _ (List.mem_of_getElem? (i := 0) rfl)))) rfl
theorem wT_2_1 : (Cond.lays "java/lang/IllegalArgumentException" "java/lang/Throwable" "cause" "Ljava/lang/Throwable;") ∈ aw_TB := aw_tb (List.mem_append_right _ (List.mem_append_right _ (List.mem_append_left _ (List.mem_of_getElem? (i := 1) rfl)))) rfl
theorem wT_2_2 : (Cond.lays "java/lang/Throwable" "java/lang/Throwable" "cause" "Ljava/lang/Throwable;") ∈ aw_TB := aw_tb (List.mem_append_right _ (List.mem_append_right _ (List.mem_append_left _ (List.mem_of_getElem? (i := 2) rfl)))) rfl
theorem wT_2_3 : (Cond.lays "java/lang/IllegalArgumentException" "java/lang/Throwable" "stackTrace" "[Ljava/lang/StackTraceElement;") ∈ aw_TB := aw_tb (List.mem_append_right _ (List.mem_append_right _ (List.mem_append_left _ (List.mem_of_getElem? (i := 3) rfl)))) rfl
theorem wT_2_4 : (Cond.lays "java/lang/Throwable" "java/lang/Throwable" "stackTrace" "[Ljava/lang/StackTraceElement;") ∈ aw_TB := aw_tb (List.mem_append_right _ (List.mem_append_right _ (List.mem_append_left _ (List.mem_of_getElem? (i := 4) rfl)))) rfl
theorem wT_2_5 : (Cond.lays "java/lang/IllegalArgumentException" "java/lang/Throwable" "suppressedExceptions" "Ljava/util/List;") ∈ aw_TB := aw_tb (List.mem_append_right _ (List.mem_append_right _ (List.mem_append_left _ (List.mem_of_getElem? (i := 5) rfl)))) rfl
theorem wT_2_6 : (Cond.lays "java/lang/Throwable" "java/lang/Throwable" "suppressedExceptions" "Ljava/util/List;") ∈ aw_TB := aw_tb (List.mem_append_right _ (List.mem_append_right _ (List.mem_append_left _ (List.mem_of_getElem? (i := 6) rfl)))) rfl
theorem wT_2_7 : (Cond.lays "java/lang/IllegalArgumentException" "java/lang/Throwable" "detailMessage" "Ljava/lang/String;") ∈ aw_TB := aw_tb (List.mem_append_right _ (List.mem_append_right _ (List.mem_append_left _ (List.mem_of_getElem? (i := 7) rfl)))) rfl
theorem wT_2_8 : (Cond.lays "java/lang/Throwable" "java/lang/Throwable" "detailMessage" "Ljava/lang/String;") ∈ aw_TB := aw_tb (List.mem_append_right _ (List.mem_append_right _ (List.mem_append_left _ (List.mem_of_getElem? (i := 8) rfl)))) rfl
theorem wT_2_9 : (Cond.lays "java/lang/IllegalArgumentException" "java/lang/Throwable" "backtrace" "Ljava/lang/Object;") ∈ aw_TB := aw_tb (List.mem_append_right _ (List.mem_append_right _ (List.mem_append_left _ (List.mem_of_getElem? (i := 9) rfl)))) rfl
theorem wT_2_10 : (Cond.lays "java/lang/Throwable" "java/lang/Throwable" "backtrace" "Ljava/lang/Object;") ∈ aw_TB := aw_tb (List.mem_append_right _ (List.mem_append_right _ (List.mem_append_left _ (List.mem_of_getElem? (i := 10) rfl)))) rfl
theorem wT_2_11 : (Cond.fieldLink "java/lang/Throwable" 198 "java/lang/Throwable" "backtrace" "Ljava/lang/Object;") ∈ aw_TB := aw_tb (List.mem_append_right _ (List.mem_append_right _ (List.mem_append_left _ (List.mem_of_getElem? (i := 11) rfl)))) rfl
theorem wT_2_12 : (Cond.superclass "java/lang/Throwable" "java/lang/Object") ∈ aw_TB := aw_tb (List.mem_append_right _ (List.mem_append_right _ (List.mem_append_left _ (List.mem_of_getElem? (i := 12) rfl)))) rfl
theorem wT_2_13 : (Cond.instanceMethod ⟨"java/lang/Throwable", "<init>", "()V"⟩) ∈ aw_TB := aw_tb (List.mem_append_right _ (List.mem_append_right _ (List.mem_append_left _ (List.mem_of_getElem? (i := 13) rfl)))) rfl
theorem wT_2_14 : (Cond.code ⟨"java/lang/Throwable", "<init>", "()V"⟩ prog_21_method_1_code 1 none) ∈ aw_TB := aw_tb (List.mem_append_right _ (List.mem_append_right _ (List.mem_append_left _ (List.mem_of_getElem? (i := 14) rfl)))) rfl
theorem wT_2_15 : (Cond.methodLink "java/lang/Throwable" 1 ⟨"java/lang/Object", "<init>", "()V"⟩) ∈ aw_TB := aw_tb (List.mem_append_right _ (List.mem_append_right _ (List.mem_append_left _ (List.mem_of_getElem? (i := 15) rfl)))) rfl
theorem wT_2_16 : (Cond.fieldLink "java/lang/Throwable" 13 "java/lang/Throwable" "UNASSIGNED_STACK" "[Ljava/lang/StackTraceElement;") ∈ aw_TB := aw_tb (List.mem_append_right _ (List.mem_append_right _ (List.mem_append_left _ (List.mem_of_getElem? (i := 16) rfl)))) rfl
theorem wT_2_18 : (Cond.fieldLink "java/lang/Throwable" 20 "java/lang/Throwable" "SUPPRESSED_SENTINEL" "Ljava/util/List;") ∈ aw_TB := aw_tb (List.mem_append_right _ (List.mem_append_right _ (List.mem_append_left _ (List.mem_of_getElem? (i := 18) rfl)))) rfl
theorem wT_2_20 : (Cond.methodLink "java/lang/Throwable" 27 ⟨"java/lang/Throwable", "fillInStackTrace", "()Ljava/lang/Throwable;"⟩) ∈ aw_TB := aw_tb (List.mem_append_right _ (List.mem_append_right _ (List.mem_append_left _ (List.mem_of_getElem? (i := 20) rfl)))) rfl
theorem wT_2_21 : (Cond.instanceMethod ⟨"java/lang/Throwable", "fillInStackTrace", "()Ljava/lang/Throwable;"⟩) ∈ aw_TB := aw_tb (List.mem_append_right _ (List.mem_append_right _ (List.mem_append_left _ (List.mem_of_getElem? (i := 21) rfl)))) rfl
theorem wT_2_22 : (Cond.sameMethod "java/lang/Throwable" "java/lang/Throwable" "fillInStackTrace" "()Ljava/lang/Throwable;") ∈ aw_TB := aw_tb (List.mem_append_right _ (List.mem_append_right _ (List.mem_append_left _ (List.mem_of_getElem? (i := 22) rfl)))) rfl
theorem wT_2_23 : (Cond.selects "java/lang/IllegalStateException" ⟨"java/lang/Throwable", "fillInStackTrace", "()Ljava/lang/Throwable;"⟩ ⟨"java/lang/Throwable", "fillInStackTrace", "()Ljava/lang/Throwable;"⟩) ∈ aw_TB := aw_tb (List.mem_append_right _ (List.mem_append_right _ (List.mem_append_left _ (List.mem_of_getElem? (i := 23) rfl)))) rfl
theorem wT_2_24 : (Cond.selects "java/lang/UnsupportedOperationException" ⟨"java/lang/Throwable", "fillInStackTrace", "()Ljava/lang/Throwable;"⟩ ⟨"java/lang/Throwable", "fillInStackTrace", "()Ljava/lang/Throwable;"⟩) ∈ aw_TB := aw_tb (List.mem_append_right _ (List.mem_append_right _ (List.mem_append_left _ (List.mem_of_getElem? (i := 24) rfl)))) rfl
theorem wT_2_25 : (Cond.selects "java/util/NoSuchElementException" ⟨"java/lang/Throwable", "fillInStackTrace", "()Ljava/lang/Throwable;"⟩ ⟨"java/lang/Throwable", "fillInStackTrace", "()Ljava/lang/Throwable;"⟩) ∈ aw_TB := aw_tb (List.mem_append_right _ (List.mem_append_right _ (List.mem_append_left _ (List.mem_of_getElem? (i := 25) rfl)))) rfl
theorem wT_2_26 : (Cond.codeSync ⟨"java/lang/Throwable", "fillInStackTrace", "()Ljava/lang/Throwable;"⟩ prog_21_method_18_code 1 (some (.object "java/lang/Throwable"))) ∈ aw_TB := aw_tb (List.mem_append_right _ (List.mem_append_right _ (List.mem_append_left _ (List.mem_of_getElem? (i := 26) rfl)))) rfl
theorem wT_2_27 : (Cond.methodLink "java/lang/Throwable" 202 ⟨"java/lang/Throwable", "fillInStackTrace", "(I)Ljava/lang/Throwable;"⟩) ∈ aw_TB := aw_tb (List.mem_append_right _ (List.mem_append_right _ (List.mem_append_left _ (List.mem_of_getElem? (i := 27) rfl)))) rfl
theorem wT_2_29 : (Cond.instanceMethod ⟨"java/lang/Throwable", "fillInStackTrace", "(I)Ljava/lang/Throwable;"⟩) ∈ aw_TB := aw_tb (List.mem_append_right _ (List.mem_append_right _ (List.mem_append_left _ (List.mem_of_getElem? (i := 29) rfl)))) rfl
theorem wT_2_30 : (Cond.instantiable "java/lang/Throwable" 6) ∈ aw_TB := aw_tb (List.mem_append_right _ (List.mem_append_right _ (List.mem_append_left _ (List.mem_of_getElem? (i := 30) rfl)))) rfl
theorem wT_2_31 : (Cond.native ⟨"java/lang/Throwable", "fillInStackTrace", "(I)Ljava/lang/Throwable;"⟩) ∈ aw_TB := aw_tb (List.mem_append_right _ (List.mem_append_right _ (List.mem_append_left _ (List.mem_of_getElem? (i := 31) rfl)))) rfl
theorem wT_2_33 : (Cond.methodLink "ScopeTree" 88 ⟨"java/lang/IllegalArgumentException", "<init>", "(Ljava/lang/String;)V"⟩) ∈ aw_TB := aw_tb (List.mem_append_right _ (List.mem_append_right _ (List.mem_append_left _ (List.mem_of_getElem? (i := 33) rfl)))) rfl
theorem wT_2_34 : (Cond.instanceMethod ⟨"java/lang/IllegalArgumentException", "<init>", "(Ljava/lang/String;)V"⟩) ∈ aw_TB := aw_tb (List.mem_append_right _ (List.mem_append_right _ (List.mem_append_left _ (List.mem_of_getElem? (i := 34) rfl)))) rfl
theorem wT_2_35 : (Cond.code ⟨"java/lang/IllegalArgumentException", "<init>", "(Ljava/lang/String;)V"⟩ prog_15_method_2_code 2 none) ∈ aw_TB := aw_tb (List.mem_append_right _ (List.mem_append_right _ (List.mem_append_left _ (List.mem_of_getElem? (i := 35) rfl)))) rfl
theorem wT_2_36 : (Cond.methodLink "java/lang/IllegalArgumentException" 7 ⟨"java/lang/RuntimeException", "<init>", "(Ljava/lang/String;)V"⟩) ∈ aw_TB := aw_tb (List.mem_append_right _ (List.mem_append_right _ (List.mem_append_left _ (List.mem_of_getElem? (i := 36) rfl)))) rfl
theorem wT_2_37 : (Cond.instanceMethod ⟨"java/lang/RuntimeException", "<init>", "(Ljava/lang/String;)V"⟩) ∈ aw_TB := aw_tb (List.mem_append_right _ (List.mem_append_right _ (List.mem_append_left _ (List.mem_of_getElem? (i := 37) rfl)))) rfl
theorem wT_2_38 : (Cond.code ⟨"java/lang/RuntimeException", "<init>", "(Ljava/lang/String;)V"⟩ prog_19_method_2_code 2 none) ∈ aw_TB := aw_tb (List.mem_append_right _ (List.mem_append_right _ (List.mem_append_left _ (List.mem_of_getElem? (i := 38) rfl)))) rfl
theorem wT_2_39 : (Cond.methodLink "java/lang/RuntimeException" 7 ⟨"java/lang/Exception", "<init>", "(Ljava/lang/String;)V"⟩) ∈ aw_TB := aw_tb (List.mem_append_right _ (List.mem_append_right _ (List.mem_append_left _ (List.mem_of_getElem? (i := 39) rfl)))) rfl
theorem wT_2_40 : (Cond.instanceMethod ⟨"java/lang/Exception", "<init>", "(Ljava/lang/String;)V"⟩) ∈ aw_TB := aw_tb (List.mem_append_right _ (List.mem_append_right _ (List.mem_append_left _ (List.mem_of_getElem? (i := 40) rfl)))) rfl
theorem wT_2_41 : (Cond.code ⟨"java/lang/Exception", "<init>", "(Ljava/lang/String;)V"⟩ prog_14_method_2_code 2 none) ∈ aw_TB := aw_tb (List.mem_append_right _ (List.mem_append_right _ (List.mem_append_left _ (List.mem_of_getElem? (i := 41) rfl)))) rfl
theorem wT_2_42 : (Cond.methodLink "java/lang/Exception" 7 ⟨"java/lang/Throwable", "<init>", "(Ljava/lang/String;)V"⟩) ∈ aw_TB := aw_tb (List.mem_append_right _ (List.mem_append_right _ (List.mem_append_left _ (List.mem_of_getElem? (i := 42) rfl)))) rfl
theorem wT_2_43 : (Cond.instanceMethod ⟨"java/lang/Throwable", "<init>", "(Ljava/lang/String;)V"⟩) ∈ aw_TB := aw_tb (List.mem_append_right _ (List.mem_append_right _ (List.mem_append_left _ (List.mem_of_getElem? (i := 43) rfl)))) rfl
theorem wT_2_44 : (Cond.code ⟨"java/lang/Throwable", "<init>", "(Ljava/lang/String;)V"⟩ prog_21_method_2_code 2 none) ∈ aw_TB := aw_tb (List.mem_append_right _ (List.mem_append_right _ (List.mem_append_left _ (List.mem_of_getElem? (i := 44) rfl)))) rfl
theorem wT_2_45 : (Cond.fieldLink "java/lang/Throwable" 198 "java/lang/Throwable" "backtrace" "Ljava/lang/Object;") ∈ aw_TB := aw_tb (List.mem_append_right _ (List.mem_append_right _ (List.mem_append_left _ (List.mem_of_getElem? (i := 45) rfl)))) rfl
theorem wT_2_46 : (Cond.fieldLink "java/lang/Throwable" 31 "java/lang/Throwable" "detailMessage" "Ljava/lang/String;") ∈ aw_TB := aw_tb (List.mem_append_right _ (List.mem_append_right _ (List.mem_append_left _ (List.mem_of_getElem? (i := 46) rfl)))) rfl
theorem wT_2_47 : (Cond.fieldLink "java/lang/Throwable" 7 "java/lang/Throwable" "cause" "Ljava/lang/Throwable;") ∈ aw_TB := aw_tb (List.mem_append_right _ (List.mem_append_right _ (List.mem_append_left _ (List.mem_of_getElem? (i := 47) rfl)))) rfl
theorem wT_2_48 : (Cond.fieldLink "java/lang/Throwable" 17 "java/lang/Throwable" "stackTrace" "[Ljava/lang/StackTraceElement;") ∈ aw_TB := aw_tb (List.mem_append_right _ (List.mem_append_right _ (List.mem_append_left _ (List.mem_of_getElem? (i := 48) rfl)))) rfl
theorem wT_2_49 : (Cond.fieldLink "java/lang/Throwable" 24 "java/lang/Throwable" "suppressedExceptions" "Ljava/util/List;") ∈ aw_TB := aw_tb (List.mem_append_right _ (List.mem_append_right _ (List.mem_append_left _ (List.mem_of_getElem? (i := 49) rfl)))) rfl
theorem wT_2_50 : (Cond.soleField "java/lang/Throwable" "backtrace") ∈ aw_TB := aw_tb (List.mem_append_right _ (List.mem_append_right _ (List.mem_append_left _ (List.mem_of_getElem? (i := 50) rfl)))) rfl
theorem wT_2_51 : (Cond.soleField "java/lang/Throwable" "detailMessage") ∈ aw_TB := aw_tb (List.mem_append_right _ (List.mem_append_right _ (List.mem_append_left _ (List.mem_of_getElem? (i := 51) rfl)))) rfl
theorem wT_2_52 : (Cond.soleField "java/lang/Throwable" "cause") ∈ aw_TB := aw_tb (List.mem_append_right _ (List.mem_append_right _ (List.mem_append_left _ (List.mem_of_getElem? (i := 52) rfl)))) rfl
theorem wT_2_53 : (Cond.soleField "java/lang/Throwable" "stackTrace") ∈ aw_TB := aw_tb (List.mem_append_right _ (List.mem_append_right _ (List.mem_append_left _ (List.mem_of_getElem? (i := 53) rfl)))) rfl
theorem wT_2_54 : (Cond.lays "java/lang/IllegalArgumentException" "java/lang/Throwable" "depth" "I") ∈ aw_TB := aw_tb (List.mem_append_right _ (List.mem_append_right _ (List.mem_append_left _ (List.mem_of_getElem? (i := 54) rfl)))) rfl
theorem wT_2_55 : (Cond.soleField "java/lang/Throwable" "depth") ∈ aw_TB := aw_tb (List.mem_append_right _ (List.mem_append_right _ (List.mem_append_left _ (List.mem_of_getElem? (i := 55) rfl)))) rfl
theorem wT_2_56 : (Cond.soleField "java/lang/Throwable" "suppressedExceptions") ∈ aw_TB := aw_tb (List.mem_append_right _ (List.mem_append_right _ (List.mem_append_left _ (List.mem_of_getElem? (i := 56) rfl)))) rfl
theorem wT_2_57 : (Cond.superclass "java/lang/IllegalArgumentException" "java/lang/RuntimeException") ∈ aw_TB := aw_tb (List.mem_append_right _ (List.mem_append_right _ (List.mem_append_left _ (List.mem_of_getElem? (i := 57) rfl)))) rfl
theorem wT_2_58 : (Cond.arrayClass .byte) ∈ aw_TB := aw_tb (List.mem_append_right _ (List.mem_append_right _ (List.mem_append_left _ (List.mem_of_getElem? (i := 58) rfl)))) rfl
theorem wT_2_61 : (Cond.classLink "ScopeTree" 93 "ScopeTree$ClassFile") ∈ aw_TB := aw_tb (List.mem_append_right _ (List.mem_append_right _ (List.mem_append_left _ (List.mem_of_getElem? (i := 61) rfl)))) rfl
theorem wT_2_62 : (Cond.instantiable "ScopeTree$ClassFile" 3) ∈ aw_TB := aw_tb (List.mem_append_right _ (List.mem_append_right _ (List.mem_append_left _ (List.mem_of_getElem? (i := 62) rfl)))) rfl
theorem wN_2_63 : (Cond.methodLinkNest "ScopeTree" 95 ⟨"ScopeTree$ClassFile", "<init>", "(III)V"⟩ "ScopeTree") ∈ aw_NB := aw_nb (List.mem_append_right _ (List.mem_append_right _ (List.mem_append_left _ (List.mem_of_getElem? (i := 63) rfl)))) rfl
theorem wT_2_64 : (Cond.instanceMethod ⟨"ScopeTree$ClassFile", "<init>", "(III)V"⟩) ∈ aw_TB := aw_tb (List.mem_append_right _ (List.mem_append_right _ (List.mem_append_left _ (List.mem_of_getElem? (i := 64) rfl)))) rfl
theorem wT_2_65 : (Cond.code ⟨"ScopeTree$ClassFile", "<init>", "(III)V"⟩ prog_3_method_1_code 4 none) ∈ aw_TB := aw_tb (List.mem_append_right _ (List.mem_append_right _ (List.mem_append_left _ (List.mem_of_getElem? (i := 65) rfl)))) rfl
theorem wT_2_66 : (Cond.methodLink "ScopeTree$ClassFile" 1 ⟨"java/lang/Record", "<init>", "()V"⟩) ∈ aw_TB := aw_tb (List.mem_append_right _ (List.mem_append_right _ (List.mem_append_left _ (List.mem_of_getElem? (i := 66) rfl)))) rfl
theorem wT_2_67 : (Cond.instanceMethod ⟨"java/lang/Record", "<init>", "()V"⟩) ∈ aw_TB := aw_tb (List.mem_append_right _ (List.mem_append_right _ (List.mem_append_left _ (List.mem_of_getElem? (i := 67) rfl)))) rfl
theorem wT_2_68 : (Cond.code ⟨"java/lang/Record", "<init>", "()V"⟩ prog_18_method_1_code 1 none) ∈ aw_TB := aw_tb (List.mem_append_right _ (List.mem_append_right _ (List.mem_append_left _ (List.mem_of_getElem? (i := 68) rfl)))) rfl
theorem wT_2_69 : (Cond.methodLink "java/lang/Record" 1 ⟨"java/lang/Object", "<init>", "()V"⟩) ∈ aw_TB := aw_tb (List.mem_append_right _ (List.mem_append_right _ (List.mem_append_left _ (List.mem_of_getElem? (i := 69) rfl)))) rfl
theorem wT_2_70 : (Cond.fieldLink "ScopeTree$ClassFile" 7 "ScopeTree$ClassFile" "name" "I") ∈ aw_TB := aw_tb (List.mem_append_right _ (List.mem_append_right _ (List.mem_append_left _ (List.mem_of_getElem? (i := 70) rfl)))) rfl
theorem wN_2_71 : (Cond.fieldLinkNest "ScopeTree$Archive" 37 "ScopeTree$ClassFile" "name" "I" "ScopeTree") ∈ aw_NB := aw_nb (List.mem_append_right _ (List.mem_append_right _ (List.mem_append_left _ (List.mem_of_getElem? (i := 71) rfl)))) rfl
theorem wN_2_72 : (Cond.fieldLinkNest "ScopeTree" 332 "ScopeTree$ClassFile" "name" "I" "ScopeTree") ∈ aw_NB := aw_nb (List.mem_append_right _ (List.mem_append_right _ (List.mem_append_left _ (List.mem_of_getElem? (i := 72) rfl)))) rfl
theorem wT_2_73 : (Cond.fieldLink "ScopeTree$ClassFile" 13 "ScopeTree$ClassFile" "superName" "I") ∈ aw_TB := aw_tb (List.mem_append_right _ (List.mem_append_right _ (List.mem_append_left _ (List.mem_of_getElem? (i := 73) rfl)))) rfl
theorem wN_2_74 : (Cond.fieldLinkNest "ScopeTree" 345 "ScopeTree$ClassFile" "superName" "I" "ScopeTree") ∈ aw_NB := aw_nb (List.mem_append_right _ (List.mem_append_right _ (List.mem_append_left _ (List.mem_of_getElem? (i := 74) rfl)))) rfl
theorem wT_2_75 : (Cond.fieldLink "ScopeTree$ClassFile" 16 "ScopeTree$ClassFile" "version" "I") ∈ aw_TB := aw_tb (List.mem_append_right _ (List.mem_append_right _ (List.mem_append_left _ (List.mem_of_getElem? (i := 75) rfl)))) rfl
theorem wN_2_76 : (Cond.fieldLinkNest "ScopeTree" 356 "ScopeTree$ClassFile" "version" "I" "ScopeTree") ∈ aw_NB := aw_nb (List.mem_append_right _ (List.mem_append_right _ (List.mem_append_left _ (List.mem_of_getElem? (i := 76) rfl)))) rfl
theorem wT_2_77 : (Cond.laysFinal "ScopeTree$ClassFile" "ScopeTree$ClassFile" "name" "I") ∈ aw_TB := aw_tb (List.mem_append_right _ (List.mem_append_right _ (List.mem_append_left _ (List.mem_of_getElem? (i := 77) rfl)))) rfl
theorem wT_2_78 : (Cond.soleField "ScopeTree$ClassFile" "name") ∈ aw_TB := aw_tb (List.mem_append_right _ (List.mem_append_right _ (List.mem_append_left _ (List.mem_of_getElem? (i := 78) rfl)))) rfl
theorem wT_2_79 : (Cond.laysFinal "ScopeTree$ClassFile" "ScopeTree$ClassFile" "superName" "I") ∈ aw_TB := aw_tb (List.mem_append_right _ (List.mem_append_right _ (List.mem_append_left _ (List.mem_of_getElem? (i := 79) rfl)))) rfl
theorem wT_2_80 : (Cond.soleField "ScopeTree$ClassFile" "superName") ∈ aw_TB := aw_tb (List.mem_append_right _ (List.mem_append_right _ (List.mem_append_left _ (List.mem_of_getElem? (i := 80) rfl)))) rfl
theorem wT_2_81 : (Cond.laysFinal "ScopeTree$ClassFile" "ScopeTree$ClassFile" "version" "I") ∈ aw_TB := aw_tb (List.mem_append_right _ (List.mem_append_right _ (List.mem_append_left _ (List.mem_of_getElem? (i := 81) rfl)))) rfl
theorem wT_2_82 : (Cond.soleField "ScopeTree$ClassFile" "version") ∈ aw_TB := aw_tb (List.mem_append_right _ (List.mem_append_right _ (List.mem_append_left _ (List.mem_of_getElem? (i := 82) rfl)))) rfl
theorem wT_2_83 : (Cond.superclass "ScopeTree$ClassFile" "java/lang/Record") ∈ aw_TB := aw_tb (List.mem_append_right _ (List.mem_append_right _ (List.mem_append_left _ (List.mem_of_getElem? (i := 83) rfl)))) rfl
theorem wN_2_84 : (Cond.methodLinkNest "ScopeTree" 98 ⟨"ScopeTree$Archive", "putFile", "(LScopeTree$ClassFile;)Z"⟩ "ScopeTree") ∈ aw_NB := aw_nb (List.mem_append_right _ (List.mem_append_right _ (List.mem_append_left _ (List.mem_of_getElem? (i := 84) rfl)))) rfl
theorem wT_2_86 : (Cond.instanceMethod ⟨"ScopeTree$Archive", "putFile", "(LScopeTree$ClassFile;)Z"⟩) ∈ aw_TB := aw_tb (List.mem_append_right _ (List.mem_append_right _ (List.mem_append_left _ (List.mem_of_getElem? (i := 86) rfl)))) rfl
theorem wT_2_87 : (Cond.code ⟨"ScopeTree$Archive", "putFile", "(LScopeTree$ClassFile;)Z"⟩ prog_2_method_4_code 3 (some .boolean)) ∈ aw_TB := aw_tb (List.mem_append_right _ (List.mem_append_right _ (List.mem_append_left _ (List.mem_of_getElem? (i := 87) rfl)))) rfl
theorem wT_2_88 : (Cond.methodLink "ScopeTree$Archive" 23 ⟨"ScopeTree$Archive", "placeOfFile", "(I)I"⟩) ∈ aw_TB := aw_tb (List.mem_append_right _ (List.mem_append_right _ (List.mem_append_left _ (List.mem_of_getElem? (i := 88) rfl)))) rfl
theorem wT_2_90 : (Cond.instanceMethod ⟨"ScopeTree$Archive", "placeOfFile", "(I)I"⟩) ∈ aw_TB := aw_tb (List.mem_append_right _ (List.mem_append_right _ (List.mem_append_left _ (List.mem_of_getElem? (i := 90) rfl)))) rfl
theorem wT_2_91 : (Cond.code ⟨"ScopeTree$Archive", "placeOfFile", "(I)I"⟩ prog_2_method_6_code 3 (some .int)) ∈ aw_TB := aw_tb (List.mem_append_right _ (List.mem_append_right _ (List.mem_append_left _ (List.mem_of_getElem? (i := 91) rfl)))) rfl
theorem wT_2_92 : (Cond.methodLink "ScopeTree$Archive" 40 ⟨"java/lang/Math", "max", "(II)I"⟩) ∈ aw_TB := aw_tb (List.mem_append_right _ (List.mem_append_right _ (List.mem_append_left _ (List.mem_of_getElem? (i := 92) rfl)))) rfl
theorem wT_2_93 : (Cond.static ⟨"java/lang/Math", "max", "(II)I"⟩) ∈ aw_TB := aw_tb (List.mem_append_right _ (List.mem_append_right _ (List.mem_append_left _ (List.mem_of_getElem? (i := 93) rfl)))) rfl
theorem wT_2_94 : (Cond.code ⟨"java/lang/Math", "max", "(II)I"⟩ prog_17_method_65_code 2 (some .int)) ∈ aw_TB := aw_tb (List.mem_append_right _ (List.mem_append_right _ (List.mem_append_left _ (List.mem_of_getElem? (i := 94) rfl)))) rfl
theorem wT_2_95 : (Cond.classLink "ScopeTree" 102 "java/lang/IllegalStateException") ∈ aw_TB := aw_tb (List.mem_append_right _ (List.mem_append_right _ (List.mem_append_left _ (List.mem_of_getElem? (i := 95) rfl)))) rfl
theorem wT_2_96 : (Cond.instantiable "java/lang/IllegalStateException" 6) ∈ aw_TB := aw_tb (List.mem_append_right _ (List.mem_append_right _ (List.mem_append_left _ (List.mem_of_getElem? (i := 96) rfl)))) rfl
theorem wN_2_97 : (Cond.castable "java/lang/IllegalStateException" "java/lang/IllegalStateException") ∈ aw_NB := aw_nb (List.mem_append_right _ (List.mem_append_right _ (List.mem_append_left _ (List.mem_of_getElem? (i := 97) rfl)))) rfl
theorem wT_2_98 : (Cond.selects "java/lang/IllegalStateException" ⟨"java/lang/Throwable", "fillInStackTrace", "(I)Ljava/lang/Throwable;"⟩ ⟨"java/lang/Throwable", "fillInStackTrace", "(I)Ljava/lang/Throwable;"⟩) ∈ aw_TB := aw_tb (List.mem_append_right _ (List.mem_append_right _ (List.mem_append_left _ (List.mem_of_getElem? (i := 98) rfl)))) rfl
theorem wT_2_99 : (Cond.lays "java/lang/IllegalStateException" "java/lang/Throwable" "cause" "Ljava/lang/Throwable;") ∈ aw_TB := aw_tb (List.mem_append_right _ (List.mem_append_right _ (List.mem_append_left _ (List.mem_of_getElem? (i := 99) rfl)))) rfl
theorem wT_2_100 : (Cond.lays "java/lang/IllegalStateException" "java/lang/Throwable" "stackTrace" "[Ljava/lang/StackTraceElement;") ∈ aw_TB := aw_tb (List.mem_append_right _ (List.mem_append_right _ (List.mem_append_left _ (List.mem_of_getElem? (i := 100) rfl)))) rfl
theorem wT_2_101 : (Cond.lays "java/lang/IllegalStateException" "java/lang/Throwable" "suppressedExceptions" "Ljava/util/List;") ∈ aw_TB := aw_tb (List.mem_append_right _ (List.mem_append_right _ (List.mem_append_left _ (List.mem_of_getElem? (i := 101) rfl)))) rfl
theorem wT_2_102 : (Cond.lays "java/lang/IllegalStateException" "java/lang/Throwable" "detailMessage" "Ljava/lang/String;") ∈ aw_TB := aw_tb (List.mem_append_right _ (List.mem_append_right _ (List.mem_append_left _ (List.mem_of_getElem? (i := 102) rfl)))) rfl
theorem wT_2_103 : (Cond.lays "java/lang/IllegalStateException" "java/lang/Throwable" "backtrace" "Ljava/lang/Object;") ∈ aw_TB := aw_tb (List.mem_append_right _ (List.mem_append_right _ (List.mem_append_left _ (List.mem_of_getElem? (i := 103) rfl)))) rfl
theorem wT_2_105 : (Cond.methodLink "ScopeTree" 106 ⟨"java/lang/IllegalStateException", "<init>", "(Ljava/lang/String;)V"⟩) ∈ aw_TB := aw_tb (List.mem_append_right _ (List.mem_append_right _ (List.mem_append_left _ (List.mem_of_getElem? (i := 105) rfl)))) rfl
theorem wT_2_106 : (Cond.instanceMethod ⟨"java/lang/IllegalStateException", "<init>", "(Ljava/lang/String;)V"⟩) ∈ aw_TB := aw_tb (List.mem_append_right _ (List.mem_append_right _ (List.mem_append_left _ (List.mem_of_getElem? (i := 106) rfl)))) rfl
theorem wT_2_107 : (Cond.code ⟨"java/lang/IllegalStateException", "<init>", "(Ljava/lang/String;)V"⟩ prog_16_method_2_code 2 none) ∈ aw_TB := aw_tb (List.mem_append_right _ (List.mem_append_right _ (List.mem_append_left _ (List.mem_of_getElem? (i := 107) rfl)))) rfl
theorem wT_2_108 : (Cond.methodLink "java/lang/IllegalStateException" 7 ⟨"java/lang/RuntimeException", "<init>", "(Ljava/lang/String;)V"⟩) ∈ aw_TB := aw_tb (List.mem_append_right _ (List.mem_append_right _ (List.mem_append_left _ (List.mem_of_getElem? (i := 108) rfl)))) rfl
theorem wT_2_109 : (Cond.lays "java/lang/IllegalStateException" "java/lang/Throwable" "depth" "I") ∈ aw_TB := aw_tb (List.mem_append_right _ (List.mem_append_right _ (List.mem_append_left _ (List.mem_of_getElem? (i := 109) rfl)))) rfl
theorem wT_2_110 : (Cond.superclass "java/lang/IllegalStateException" "java/lang/RuntimeException") ∈ aw_TB := aw_tb (List.mem_append_right _ (List.mem_append_right _ (List.mem_append_left _ (List.mem_of_getElem? (i := 110) rfl)))) rfl
theorem wT_2_111 : (Cond.methodLink "ScopeTreeLaw" 82 ⟨"ScopeTreeLaw", "descriptor", "(LScopeTree;III[J)I"⟩) ∈ aw_TB := aw_tb (List.mem_append_right _ (List.mem_append_right _ (List.mem_append_left _ (List.mem_of_getElem? (i := 111) rfl)))) rfl
theorem wT_2_112 : (Cond.static ⟨"ScopeTreeLaw", "descriptor", "(LScopeTree;III[J)I"⟩) ∈ aw_TB := aw_tb (List.mem_append_right _ (List.mem_append_right _ (List.mem_append_left _ (List.mem_of_getElem? (i := 112) rfl)))) rfl
theorem wT_2_113 : (Cond.codeWith ⟨"ScopeTreeLaw", "descriptor", "(LScopeTree;III[J)I"⟩ method_4_code 6 (some .int) [(0, 12, 15, 13), (0, 12, 19, 15)]) ∈ aw_TB := aw_tb (List.mem_append_right _ (List.mem_append_right _ (List.mem_append_left _ (List.mem_of_getElem? (i := 113) rfl)))) rfl
theorem wT_2_114 : (Cond.methodLink "ScopeTreeLaw" 17 ⟨"ScopeTree", "descriptor", "(III)I"⟩) ∈ aw_TB := aw_tb (List.mem_append_right _ (List.mem_append_right _ (List.mem_append_left _ (List.mem_of_getElem? (i := 114) rfl)))) rfl
theorem wT_2_115 : (Cond.instanceMethod ⟨"ScopeTree", "descriptor", "(III)I"⟩) ∈ aw_TB := aw_tb (List.mem_append_right _ (List.mem_append_right _ (List.mem_append_left _ (List.mem_of_getElem? (i := 115) rfl)))) rfl
theorem wT_2_116 : (Cond.selects "ScopeTree" ⟨"ScopeTree", "descriptor", "(III)I"⟩ ⟨"ScopeTree", "descriptor", "(III)I"⟩) ∈ aw_TB := aw_tb (List.mem_append_right _ (List.mem_append_right _ (List.mem_append_left _ (List.mem_of_getElem? (i := 116) rfl)))) rfl
theorem wT_2_117 : (Cond.code ⟨"ScopeTree", "descriptor", "(III)I"⟩ prog_1_method_3_code 5 (some .int)) ∈ aw_TB := aw_tb (List.mem_append_right _ (List.mem_append_right _ (List.mem_append_left _ (List.mem_of_getElem? (i := 117) rfl)))) rfl
theorem wT_2_119 : (Cond.classLink "ScopeTree" 112 "ScopeTree$Descriptor") ∈ aw_TB := aw_tb (List.mem_append_right _ (List.mem_append_right _ (List.mem_append_left _ (List.mem_of_getElem? (i := 119) rfl)))) rfl
theorem wT_2_120 : (Cond.instantiable "ScopeTree$Descriptor" 2) ∈ aw_TB := aw_tb (List.mem_append_right _ (List.mem_append_right _ (List.mem_append_left _ (List.mem_of_getElem? (i := 120) rfl)))) rfl
theorem wN_2_121 : (Cond.methodLinkNest "ScopeTree" 114 ⟨"ScopeTree$Descriptor", "<init>", "(II)V"⟩ "ScopeTree") ∈ aw_NB := aw_nb (List.mem_append_right _ (List.mem_append_right _ (List.mem_append_left _ (List.mem_of_getElem? (i := 121) rfl)))) rfl
theorem wT_2_122 : (Cond.instanceMethod ⟨"ScopeTree$Descriptor", "<init>", "(II)V"⟩) ∈ aw_TB := aw_tb (List.mem_append_right _ (List.mem_append_right _ (List.mem_append_left _ (List.mem_of_getElem? (i := 122) rfl)))) rfl
theorem wT_2_123 : (Cond.code ⟨"ScopeTree$Descriptor", "<init>", "(II)V"⟩ prog_4_method_1_code 3 none) ∈ aw_TB := aw_tb (List.mem_append_right _ (List.mem_append_right _ (List.mem_append_left _ (List.mem_of_getElem? (i := 123) rfl)))) rfl
theorem wT_2_124 : (Cond.methodLink "ScopeTree$Descriptor" 1 ⟨"java/lang/Record", "<init>", "()V"⟩) ∈ aw_TB := aw_tb (List.mem_append_right _ (List.mem_append_right _ (List.mem_append_left _ (List.mem_of_getElem? (i := 124) rfl)))) rfl
theorem wT_2_125 : (Cond.fieldLink "ScopeTree$Descriptor" 7 "ScopeTree$Descriptor" "plugin" "I") ∈ aw_TB := aw_tb (List.mem_append_right _ (List.mem_append_right _ (List.mem_append_left _ (List.mem_of_getElem? (i := 125) rfl)))) rfl
theorem wN_2_126 : (Cond.fieldLinkNest "ScopeTree$Archive" 46 "ScopeTree$Descriptor" "plugin" "I" "ScopeTree") ∈ aw_NB := aw_nb (List.mem_append_right _ (List.mem_append_right _ (List.mem_append_left _ (List.mem_of_getElem? (i := 126) rfl)))) rfl
theorem wT_2_127 : (Cond.fieldLink "ScopeTree$Descriptor" 13 "ScopeTree$Descriptor" "name" "I") ∈ aw_TB := aw_tb (List.mem_append_right _ (List.mem_append_right _ (List.mem_append_left _ (List.mem_of_getElem? (i := 127) rfl)))) rfl
theorem wN_2_128 : (Cond.fieldLinkNest "ScopeTree" 261 "ScopeTree$Descriptor" "name" "I" "ScopeTree") ∈ aw_NB := aw_nb (List.mem_append_right _ (List.mem_append_right _ (List.mem_append_left _ (List.mem_of_getElem? (i := 128) rfl)))) rfl
theorem wT_2_129 : (Cond.laysFinal "ScopeTree$Descriptor" "ScopeTree$Descriptor" "plugin" "I") ∈ aw_TB := aw_tb (List.mem_append_right _ (List.mem_append_right _ (List.mem_append_left _ (List.mem_of_getElem? (i := 129) rfl)))) rfl
theorem wT_2_130 : (Cond.soleField "ScopeTree$Descriptor" "plugin") ∈ aw_TB := aw_tb (List.mem_append_right _ (List.mem_append_right _ (List.mem_append_left _ (List.mem_of_getElem? (i := 130) rfl)))) rfl
theorem wT_2_131 : (Cond.laysFinal "ScopeTree$Descriptor" "ScopeTree$Descriptor" "name" "I") ∈ aw_TB := aw_tb (List.mem_append_right _ (List.mem_append_right _ (List.mem_append_left _ (List.mem_of_getElem? (i := 131) rfl)))) rfl
theorem wT_2_132 : (Cond.soleField "ScopeTree$Descriptor" "name") ∈ aw_TB := aw_tb (List.mem_append_right _ (List.mem_append_right _ (List.mem_append_left _ (List.mem_of_getElem? (i := 132) rfl)))) rfl
theorem wT_2_133 : (Cond.superclass "ScopeTree$Descriptor" "java/lang/Record") ∈ aw_TB := aw_tb (List.mem_append_right _ (List.mem_append_right _ (List.mem_append_left _ (List.mem_of_getElem? (i := 133) rfl)))) rfl
theorem wN_2_134 : (Cond.methodLinkNest "ScopeTree" 117 ⟨"ScopeTree$Archive", "putDescriptor", "(LScopeTree$Descriptor;)Z"⟩ "ScopeTree") ∈ aw_NB := aw_nb (List.mem_append_right _ (List.mem_append_right _ (List.mem_append_left _ (List.mem_of_getElem? (i := 134) rfl)))) rfl
theorem wT_2_136 : (Cond.instanceMethod ⟨"ScopeTree$Archive", "putDescriptor", "(LScopeTree$Descriptor;)Z"⟩) ∈ aw_TB := aw_tb (List.mem_append_right _ (List.mem_append_right _ (List.mem_append_left _ (List.mem_of_getElem? (i := 136) rfl)))) rfl
theorem wT_2_137 : (Cond.code ⟨"ScopeTree$Archive", "putDescriptor", "(LScopeTree$Descriptor;)Z"⟩ prog_2_method_5_code 3 (some .boolean)) ∈ aw_TB := aw_tb (List.mem_append_right _ (List.mem_append_right _ (List.mem_append_left _ (List.mem_of_getElem? (i := 137) rfl)))) rfl
theorem wT_2_138 : (Cond.methodLink "ScopeTree$Archive" 31 ⟨"ScopeTree$Archive", "placeOfDescriptor", "(I)I"⟩) ∈ aw_TB := aw_tb (List.mem_append_right _ (List.mem_append_right _ (List.mem_append_left _ (List.mem_of_getElem? (i := 138) rfl)))) rfl
theorem wT_2_140 : (Cond.instanceMethod ⟨"ScopeTree$Archive", "placeOfDescriptor", "(I)I"⟩) ∈ aw_TB := aw_tb (List.mem_append_right _ (List.mem_append_right _ (List.mem_append_left _ (List.mem_of_getElem? (i := 140) rfl)))) rfl
theorem wT_2_141 : (Cond.code ⟨"ScopeTree$Archive", "placeOfDescriptor", "(I)I"⟩ prog_2_method_7_code 3 (some .int)) ∈ aw_TB := aw_tb (List.mem_append_right _ (List.mem_append_right _ (List.mem_append_left _ (List.mem_of_getElem? (i := 141) rfl)))) rfl
theorem wT_2_143 : (Cond.methodLink "ScopeTreeLaw" 86 ⟨"ScopeTreeLaw", "wipe", "(LScopeTree;I)I"⟩) ∈ aw_TB := aw_tb (List.mem_append_right _ (List.mem_append_right _ (List.mem_append_left _ (List.mem_of_getElem? (i := 143) rfl)))) rfl
theorem wT_2_144 : (Cond.static ⟨"ScopeTreeLaw", "wipe", "(LScopeTree;I)I"⟩) ∈ aw_TB := aw_tb (List.mem_append_right _ (List.mem_append_right _ (List.mem_append_left _ (List.mem_of_getElem? (i := 144) rfl)))) rfl
theorem wT_2_145 : (Cond.codeWith ⟨"ScopeTreeLaw", "wipe", "(LScopeTree;I)I"⟩ method_5_code 3 (some .int) [(0, 5, 8, 13)]) ∈ aw_TB := aw_tb (List.mem_append_right _ (List.mem_append_right _ (List.mem_append_left _ (List.mem_of_getElem? (i := 145) rfl)))) rfl
theorem wT_2_146 : (Cond.methodLink "ScopeTreeLaw" 21 ⟨"ScopeTree", "wipe", "(I)V"⟩) ∈ aw_TB := aw_tb (List.mem_append_right _ (List.mem_append_right _ (List.mem_append_left _ (List.mem_of_getElem? (i := 146) rfl)))) rfl
theorem wT_2_147 : (Cond.instanceMethod ⟨"ScopeTree", "wipe", "(I)V"⟩) ∈ aw_TB := aw_tb (List.mem_append_right _ (List.mem_append_right _ (List.mem_append_left _ (List.mem_of_getElem? (i := 147) rfl)))) rfl
theorem wT_2_148 : (Cond.selects "ScopeTree" ⟨"ScopeTree", "wipe", "(I)V"⟩ ⟨"ScopeTree", "wipe", "(I)V"⟩) ∈ aw_TB := aw_tb (List.mem_append_right _ (List.mem_append_right _ (List.mem_append_left _ (List.mem_of_getElem? (i := 148) rfl)))) rfl
theorem wT_2_149 : (Cond.code ⟨"ScopeTree", "wipe", "(I)V"⟩ prog_1_method_4_code 3 none) ∈ aw_TB := aw_tb (List.mem_append_right _ (List.mem_append_right _ (List.mem_append_left _ (List.mem_of_getElem? (i := 149) rfl)))) rfl
theorem wT_2_150 : (Cond.methodLink "ScopeTreeLaw" 90 ⟨"ScopeTreeLaw", "child", "(LScopeTree;I[J)I"⟩) ∈ aw_TB := aw_tb (List.mem_append_right _ (List.mem_append_right _ (List.mem_append_left _ (List.mem_of_getElem? (i := 150) rfl)))) rfl
theorem wT_2_151 : (Cond.static ⟨"ScopeTreeLaw", "child", "(LScopeTree;I[J)I"⟩) ∈ aw_TB := aw_tb (List.mem_append_right _ (List.mem_append_right _ (List.mem_append_left _ (List.mem_of_getElem? (i := 151) rfl)))) rfl
theorem wT_2_152 : (Cond.codeWith ⟨"ScopeTreeLaw", "child", "(LScopeTree;I[J)I"⟩ method_6_code 4 (some .int) [(0, 9, 12, 13), (0, 9, 15, 15)]) ∈ aw_TB := aw_tb (List.mem_append_right _ (List.mem_append_right _ (List.mem_append_left _ (List.mem_of_getElem? (i := 152) rfl)))) rfl
theorem wT_2_153 : (Cond.methodLink "ScopeTreeLaw" 25 ⟨"ScopeTree", "child", "(I)I"⟩) ∈ aw_TB := aw_tb (List.mem_append_right _ (List.mem_append_right _ (List.mem_append_left _ (List.mem_of_getElem? (i := 153) rfl)))) rfl
theorem wT_2_154 : (Cond.instanceMethod ⟨"ScopeTree", "child", "(I)I"⟩) ∈ aw_TB := aw_tb (List.mem_append_right _ (List.mem_append_right _ (List.mem_append_left _ (List.mem_of_getElem? (i := 154) rfl)))) rfl
theorem wT_2_155 : (Cond.selects "ScopeTree" ⟨"ScopeTree", "child", "(I)I"⟩ ⟨"ScopeTree", "child", "(I)I"⟩) ∈ aw_TB := aw_tb (List.mem_append_right _ (List.mem_append_right _ (List.mem_append_left _ (List.mem_of_getElem? (i := 155) rfl)))) rfl
theorem wT_2_156 : (Cond.code ⟨"ScopeTree", "child", "(I)I"⟩ prog_1_method_5_code 3 (some .int)) ∈ aw_TB := aw_tb (List.mem_append_right _ (List.mem_append_right _ (List.mem_append_left _ (List.mem_of_getElem? (i := 156) rfl)))) rfl
theorem wT_2_157 : (Cond.methodLink "ScopeTree" 126 ⟨"ScopeTree", "scopeAt", "(I)LScopeTree$Scope;"⟩) ∈ aw_TB := aw_tb (List.mem_append_right _ (List.mem_append_right _ (List.mem_append_left _ (List.mem_of_getElem? (i := 157) rfl)))) rfl
theorem wT_2_159 : (Cond.instanceMethod ⟨"ScopeTree", "scopeAt", "(I)LScopeTree$Scope;"⟩) ∈ aw_TB := aw_tb (List.mem_append_right _ (List.mem_append_right _ (List.mem_append_left _ (List.mem_of_getElem? (i := 159) rfl)))) rfl
theorem wT_2_160 : (Cond.code ⟨"ScopeTree", "scopeAt", "(I)LScopeTree$Scope;"⟩ prog_1_method_19_code 2 (some (.object "ScopeTree$Scope"))) ∈ aw_TB := aw_tb (List.mem_append_right _ (List.mem_append_right _ (List.mem_append_left _ (List.mem_of_getElem? (i := 160) rfl)))) rfl
theorem wT_2_162 : (Cond.fieldLink "ScopeTree" 130 "ScopeTree$State" "RELEASED" "LScopeTree$State;") ∈ aw_TB := aw_tb (List.mem_append_right _ (List.mem_append_right _ (List.mem_append_left _ (List.mem_of_getElem? (i := 162) rfl)))) rfl
theorem wT_2_166 : (Cond.methodLink "ScopeTreeLaw" 94 ⟨"ScopeTreeLaw", "add", "(LScopeTree;IIZ[J)I"⟩) ∈ aw_TB := aw_tb (List.mem_append_right _ (List.mem_append_right _ (List.mem_append_left _ (List.mem_of_getElem? (i := 166) rfl)))) rfl
theorem wT_2_167 : (Cond.static ⟨"ScopeTreeLaw", "add", "(LScopeTree;IIZ[J)I"⟩) ∈ aw_TB := aw_tb (List.mem_append_right _ (List.mem_append_right _ (List.mem_append_left _ (List.mem_of_getElem? (i := 167) rfl)))) rfl
theorem wT_2_168 : (Cond.codeWith ⟨"ScopeTreeLaw", "add", "(LScopeTree;IIZ[J)I"⟩ method_7_code 6 (some .int) [(0, 19, 22, 13), (0, 19, 26, 15)]) ∈ aw_TB := aw_tb (List.mem_append_right _ (List.mem_append_right _ (List.mem_append_left _ (List.mem_of_getElem? (i := 168) rfl)))) rfl
theorem wT_2_169 : (Cond.methodLink "ScopeTreeLaw" 29 ⟨"ScopeTree", "add", "(IIZ)Z"⟩) ∈ aw_TB := aw_tb (List.mem_append_right _ (List.mem_append_right _ (List.mem_append_left _ (List.mem_of_getElem? (i := 169) rfl)))) rfl
theorem wT_2_170 : (Cond.instanceMethod ⟨"ScopeTree", "add", "(IIZ)Z"⟩) ∈ aw_TB := aw_tb (List.mem_append_right _ (List.mem_append_right _ (List.mem_append_left _ (List.mem_of_getElem? (i := 170) rfl)))) rfl
theorem wT_2_171 : (Cond.selects "ScopeTree" ⟨"ScopeTree", "add", "(IIZ)Z"⟩ ⟨"ScopeTree", "add", "(IIZ)Z"⟩) ∈ aw_TB := aw_tb (List.mem_append_right _ (List.mem_append_right _ (List.mem_append_left _ (List.mem_of_getElem? (i := 171) rfl)))) rfl
theorem wT_2_172 : (Cond.code ⟨"ScopeTree", "add", "(IIZ)Z"⟩ prog_1_method_6_code 5 (some .boolean)) ∈ aw_TB := aw_tb (List.mem_append_right _ (List.mem_append_right _ (List.mem_append_left _ (List.mem_of_getElem? (i := 172) rfl)))) rfl
theorem wT_2_173 : (Cond.methodLink "ScopeTree" 139 ⟨"ScopeTree", "requireOpen", "(LScopeTree$Scope;)V"⟩) ∈ aw_TB := aw_tb (List.mem_append_right _ (List.mem_append_right _ (List.mem_append_left _ (List.mem_of_getElem? (i := 173) rfl)))) rfl
theorem wT_2_174 : (Cond.static ⟨"ScopeTree", "requireOpen", "(LScopeTree$Scope;)V"⟩) ∈ aw_TB := aw_tb (List.mem_append_right _ (List.mem_append_right _ (List.mem_append_left _ (List.mem_of_getElem? (i := 174) rfl)))) rfl
theorem wT_2_175 : (Cond.code ⟨"ScopeTree", "requireOpen", "(LScopeTree$Scope;)V"⟩ prog_1_method_21_code 1 none) ∈ aw_TB := aw_tb (List.mem_append_right _ (List.mem_append_right _ (List.mem_append_left _ (List.mem_of_getElem? (i := 175) rfl)))) rfl
theorem wT_2_176 : (Cond.fieldLink "ScopeTree" 279 "ScopeTree$State" "OPEN" "LScopeTree$State;") ∈ aw_TB := aw_tb (List.mem_append_right _ (List.mem_append_right _ (List.mem_append_left _ (List.mem_of_getElem? (i := 176) rfl)))) rfl
theorem wN_2_178 : (Cond.methodLinkNest "ScopeTree" 146 ⟨"ScopeTree$Path", "append", "(I)Z"⟩ "ScopeTree") ∈ aw_NB := aw_nb (List.mem_append_right _ (List.mem_append_right _ (List.mem_append_left _ (List.mem_of_getElem? (i := 178) rfl)))) rfl
theorem wT_2_180 : (Cond.instanceMethod ⟨"ScopeTree$Path", "append", "(I)Z"⟩) ∈ aw_TB := aw_tb (List.mem_append_right _ (List.mem_append_right _ (List.mem_append_left _ (List.mem_of_getElem? (i := 180) rfl)))) rfl
theorem wT_2_181 : (Cond.code ⟨"ScopeTree$Path", "append", "(I)Z"⟩ prog_7_method_2_code 2 (some .boolean)) ∈ aw_TB := aw_tb (List.mem_append_right _ (List.mem_append_right _ (List.mem_append_left _ (List.mem_of_getElem? (i := 181) rfl)))) rfl
theorem wT_2_182 : (Cond.methodLink "ScopeTree$Path" 19 ⟨"ScopeTree$Path", "contains", "(I)Z"⟩) ∈ aw_TB := aw_tb (List.mem_append_right _ (List.mem_append_right _ (List.mem_append_left _ (List.mem_of_getElem? (i := 182) rfl)))) rfl
theorem wT_2_184 : (Cond.instanceMethod ⟨"ScopeTree$Path", "contains", "(I)Z"⟩) ∈ aw_TB := aw_tb (List.mem_append_right _ (List.mem_append_right _ (List.mem_append_left _ (List.mem_of_getElem? (i := 184) rfl)))) rfl
theorem wT_2_185 : (Cond.code ⟨"ScopeTree$Path", "contains", "(I)Z"⟩ prog_7_method_3_code 3 (some .boolean)) ∈ aw_TB := aw_tb (List.mem_append_right _ (List.mem_append_right _ (List.mem_append_left _ (List.mem_of_getElem? (i := 185) rfl)))) rfl
theorem wT_2_186 : (Cond.methodLink "ScopeTreeLaw" 100 ⟨"ScopeTreeLaw", "filter", "(LScopeTree;IIJJ)I"⟩) ∈ aw_TB := aw_tb (List.mem_append_right _ (List.mem_append_right _ (List.mem_append_left _ (List.mem_of_getElem? (i := 186) rfl)))) rfl
theorem wT_2_187 : (Cond.static ⟨"ScopeTreeLaw", "filter", "(LScopeTree;IIJJ)I"⟩) ∈ aw_TB := aw_tb (List.mem_append_right _ (List.mem_append_right _ (List.mem_append_left _ (List.mem_of_getElem? (i := 187) rfl)))) rfl
theorem wT_2_188 : (Cond.codeWith ⟨"ScopeTreeLaw", "filter", "(LScopeTree;IIJJ)I"⟩ method_8_code 8 (some .int) [(0, 9, 12, 13), (0, 9, 16, 15)]) ∈ aw_TB := aw_tb (List.mem_append_right _ (List.mem_append_right _ (List.mem_append_left _ (List.mem_of_getElem? (i := 188) rfl)))) rfl
theorem wT_2_189 : (Cond.methodLink "ScopeTreeLaw" 33 ⟨"ScopeTree", "filter", "(IIJJ)V"⟩) ∈ aw_TB := aw_tb (List.mem_append_right _ (List.mem_append_right _ (List.mem_append_left _ (List.mem_of_getElem? (i := 189) rfl)))) rfl
theorem wT_2_190 : (Cond.instanceMethod ⟨"ScopeTree", "filter", "(IIJJ)V"⟩) ∈ aw_TB := aw_tb (List.mem_append_right _ (List.mem_append_right _ (List.mem_append_left _ (List.mem_of_getElem? (i := 190) rfl)))) rfl
theorem wT_2_191 : (Cond.selects "ScopeTree" ⟨"ScopeTree", "filter", "(IIJJ)V"⟩ ⟨"ScopeTree", "filter", "(IIJJ)V"⟩) ∈ aw_TB := aw_tb (List.mem_append_right _ (List.mem_append_right _ (List.mem_append_left _ (List.mem_of_getElem? (i := 191) rfl)))) rfl
theorem wT_2_192 : (Cond.code ⟨"ScopeTree", "filter", "(IIJJ)V"⟩ prog_1_method_7_code 8 none) ∈ aw_TB := aw_tb (List.mem_append_right _ (List.mem_append_right _ (List.mem_append_left _ (List.mem_of_getElem? (i := 192) rfl)))) rfl
theorem wT_2_194 : (Cond.classLink "ScopeTree" 157 "ScopeTree$Filter") ∈ aw_TB := aw_tb (List.mem_append_right _ (List.mem_append_right _ (List.mem_append_left _ (List.mem_of_getElem? (i := 194) rfl)))) rfl
theorem wT_2_195 : (Cond.instantiable "ScopeTree$Filter" 3) ∈ aw_TB := aw_tb (List.mem_append_right _ (List.mem_append_right _ (List.mem_append_left _ (List.mem_of_getElem? (i := 195) rfl)))) rfl
theorem wN_2_196 : (Cond.methodLinkNest "ScopeTree" 159 ⟨"ScopeTree$Filter", "<init>", "(IJJ)V"⟩ "ScopeTree") ∈ aw_NB := aw_nb (List.mem_append_right _ (List.mem_append_right _ (List.mem_append_left _ (List.mem_of_getElem? (i := 196) rfl)))) rfl
theorem wT_2_197 : (Cond.instanceMethod ⟨"ScopeTree$Filter", "<init>", "(IJJ)V"⟩) ∈ aw_TB := aw_tb (List.mem_append_right _ (List.mem_append_right _ (List.mem_append_left _ (List.mem_of_getElem? (i := 197) rfl)))) rfl
theorem wT_2_198 : (Cond.code ⟨"ScopeTree$Filter", "<init>", "(IJJ)V"⟩ prog_5_method_1_code 6 none) ∈ aw_TB := aw_tb (List.mem_append_right _ (List.mem_append_right _ (List.mem_append_left _ (List.mem_of_getElem? (i := 198) rfl)))) rfl
theorem wT_2_199 : (Cond.methodLink "ScopeTree$Filter" 1 ⟨"java/lang/Record", "<init>", "()V"⟩) ∈ aw_TB := aw_tb (List.mem_append_right _ (List.mem_append_right _ (List.mem_append_left _ (List.mem_of_getElem? (i := 199) rfl)))) rfl
theorem wT_2_200 : (Cond.fieldLink "ScopeTree$Filter" 7 "ScopeTree$Filter" "packages" "I") ∈ aw_TB := aw_tb (List.mem_append_right _ (List.mem_append_right _ (List.mem_append_left _ (List.mem_of_getElem? (i := 200) rfl)))) rfl
theorem wT_2_201 : (Cond.fieldLink "ScopeTree$Filter" 13 "ScopeTree$Filter" "allowed" "J") ∈ aw_TB := aw_tb (List.mem_append_right _ (List.mem_append_right _ (List.mem_append_left _ (List.mem_of_getElem? (i := 201) rfl)))) rfl
theorem wT_2_202 : (Cond.fieldLink "ScopeTree$Filter" 17 "ScopeTree$Filter" "denied" "J") ∈ aw_TB := aw_tb (List.mem_append_right _ (List.mem_append_right _ (List.mem_append_left _ (List.mem_of_getElem? (i := 202) rfl)))) rfl
theorem wT_2_203 : (Cond.laysFinal "ScopeTree$Filter" "ScopeTree$Filter" "packages" "I") ∈ aw_TB := aw_tb (List.mem_append_right _ (List.mem_append_right _ (List.mem_append_left _ (List.mem_of_getElem? (i := 203) rfl)))) rfl
theorem wT_2_204 : (Cond.soleField "ScopeTree$Filter" "packages") ∈ aw_TB := aw_tb (List.mem_append_right _ (List.mem_append_right _ (List.mem_append_left _ (List.mem_of_getElem? (i := 204) rfl)))) rfl
theorem wT_2_205 : (Cond.laysFinal "ScopeTree$Filter" "ScopeTree$Filter" "allowed" "J") ∈ aw_TB := aw_tb (List.mem_append_right _ (List.mem_append_right _ (List.mem_append_left _ (List.mem_of_getElem? (i := 205) rfl)))) rfl
theorem wT_2_206 : (Cond.soleField "ScopeTree$Filter" "allowed") ∈ aw_TB := aw_tb (List.mem_append_right _ (List.mem_append_right _ (List.mem_append_left _ (List.mem_of_getElem? (i := 206) rfl)))) rfl
theorem wT_2_207 : (Cond.laysFinal "ScopeTree$Filter" "ScopeTree$Filter" "denied" "J") ∈ aw_TB := aw_tb (List.mem_append_right _ (List.mem_append_right _ (List.mem_append_left _ (List.mem_of_getElem? (i := 207) rfl)))) rfl
theorem wT_2_208 : (Cond.soleField "ScopeTree$Filter" "denied") ∈ aw_TB := aw_tb (List.mem_append_right _ (List.mem_append_right _ (List.mem_append_left _ (List.mem_of_getElem? (i := 208) rfl)))) rfl
theorem wT_2_209 : (Cond.superclass "ScopeTree$Filter" "java/lang/Record") ∈ aw_TB := aw_tb (List.mem_append_right _ (List.mem_append_right _ (List.mem_append_left _ (List.mem_of_getElem? (i := 209) rfl)))) rfl
theorem wT_2_210 : (Cond.methodLink "ScopeTreeLaw" 104 ⟨"ScopeTreeLaw", "lock", "(LScopeTree;I[J)I"⟩) ∈ aw_TB := aw_tb (List.mem_append_right _ (List.mem_append_right _ (List.mem_append_left _ (List.mem_of_getElem? (i := 210) rfl)))) rfl
theorem wT_2_211 : (Cond.static ⟨"ScopeTreeLaw", "lock", "(LScopeTree;I[J)I"⟩) ∈ aw_TB := aw_tb (List.mem_append_right _ (List.mem_append_right _ (List.mem_append_left _ (List.mem_of_getElem? (i := 211) rfl)))) rfl
theorem wT_2_212 : (Cond.codeWith ⟨"ScopeTreeLaw", "lock", "(LScopeTree;I[J)I"⟩ method_9_code 4 (some .int) [(0, 9, 12, 13), (0, 9, 15, 15), (0, 9, 18, 40)]) ∈ aw_TB := aw_tb (List.mem_append_right _ (List.mem_append_right _ (List.mem_append_left _ (List.mem_of_getElem? (i := 212) rfl)))) rfl
theorem wT_2_213 : (Cond.classLink "ScopeTreeLaw" 40 "java/lang/UnsupportedOperationException") ∈ aw_TB := aw_tb (List.mem_append_right _ (List.mem_append_right _ (List.mem_append_left _ (List.mem_of_getElem? (i := 213) rfl)))) rfl
theorem wT_2_214 : (Cond.methodLink "ScopeTreeLaw" 37 ⟨"ScopeTree", "lock", "(I)I"⟩) ∈ aw_TB := aw_tb (List.mem_append_right _ (List.mem_append_right _ (List.mem_append_left _ (List.mem_of_getElem? (i := 214) rfl)))) rfl
theorem wT_2_215 : (Cond.instanceMethod ⟨"ScopeTree", "lock", "(I)I"⟩) ∈ aw_TB := aw_tb (List.mem_append_right _ (List.mem_append_right _ (List.mem_append_left _ (List.mem_of_getElem? (i := 215) rfl)))) rfl
theorem wT_2_216 : (Cond.selects "ScopeTree" ⟨"ScopeTree", "lock", "(I)I"⟩ ⟨"ScopeTree", "lock", "(I)I"⟩) ∈ aw_TB := aw_tb (List.mem_append_right _ (List.mem_append_right _ (List.mem_append_left _ (List.mem_of_getElem? (i := 216) rfl)))) rfl
theorem wT_2_217 : (Cond.code ⟨"ScopeTree", "lock", "(I)I"⟩ prog_1_method_8_code 4 (some .int)) ∈ aw_TB := aw_tb (List.mem_append_right _ (List.mem_append_right _ (List.mem_append_left _ (List.mem_of_getElem? (i := 217) rfl)))) rfl
theorem wT_2_219 : (Cond.methodLink "ScopeTree" 172 ⟨"ScopeTree", "freeLoaderNumbers", "()I"⟩) ∈ aw_TB := aw_tb (List.mem_append_right _ (List.mem_append_right _ (List.mem_append_left _ (List.mem_of_getElem? (i := 219) rfl)))) rfl
theorem wT_2_221 : (Cond.instanceMethod ⟨"ScopeTree", "freeLoaderNumbers", "()I"⟩) ∈ aw_TB := aw_tb (List.mem_append_right _ (List.mem_append_right _ (List.mem_append_left _ (List.mem_of_getElem? (i := 221) rfl)))) rfl
theorem wT_2_222 : (Cond.code ⟨"ScopeTree", "freeLoaderNumbers", "()I"⟩ prog_1_method_24_code 3 (some .int)) ∈ aw_TB := aw_tb (List.mem_append_right _ (List.mem_append_right _ (List.mem_append_left _ (List.mem_of_getElem? (i := 222) rfl)))) rfl
theorem wT_2_223 : (Cond.classLink "ScopeTree" 176 "java/lang/UnsupportedOperationException") ∈ aw_TB := aw_tb (List.mem_append_right _ (List.mem_append_right _ (List.mem_append_left _ (List.mem_of_getElem? (i := 223) rfl)))) rfl
theorem wT_2_224 : (Cond.instantiable "java/lang/UnsupportedOperationException" 6) ∈ aw_TB := aw_tb (List.mem_append_right _ (List.mem_append_right _ (List.mem_append_left _ (List.mem_of_getElem? (i := 224) rfl)))) rfl
theorem wN_2_225 : (Cond.castable "java/lang/UnsupportedOperationException" "java/lang/UnsupportedOperationException") ∈ aw_NB := aw_nb (List.mem_append_right _ (List.mem_append_right _ (List.mem_append_left _ (List.mem_of_getElem? (i := 225) rfl)))) rfl
theorem wT_2_226 : (Cond.selects "java/lang/UnsupportedOperationException" ⟨"java/lang/Throwable", "fillInStackTrace", "(I)Ljava/lang/Throwable;"⟩ ⟨"java/lang/Throwable", "fillInStackTrace", "(I)Ljava/lang/Throwable;"⟩) ∈ aw_TB := aw_tb (List.mem_append_right _ (List.mem_append_right _ (List.mem_append_left _ (List.mem_of_getElem? (i := 226) rfl)))) rfl
theorem wT_2_227 : (Cond.lays "java/lang/UnsupportedOperationException" "java/lang/Throwable" "cause" "Ljava/lang/Throwable;") ∈ aw_TB := aw_tb (List.mem_append_right _ (List.mem_append_right _ (List.mem_append_left _ (List.mem_of_getElem? (i := 227) rfl)))) rfl
theorem wT_2_228 : (Cond.lays "java/lang/UnsupportedOperationException" "java/lang/Throwable" "stackTrace" "[Ljava/lang/StackTraceElement;") ∈ aw_TB := aw_tb (List.mem_append_right _ (List.mem_append_right _ (List.mem_append_left _ (List.mem_of_getElem? (i := 228) rfl)))) rfl
theorem wT_2_229 : (Cond.lays "java/lang/UnsupportedOperationException" "java/lang/Throwable" "suppressedExceptions" "Ljava/util/List;") ∈ aw_TB := aw_tb (List.mem_append_right _ (List.mem_append_right _ (List.mem_append_left _ (List.mem_of_getElem? (i := 229) rfl)))) rfl
theorem wT_2_230 : (Cond.lays "java/lang/UnsupportedOperationException" "java/lang/Throwable" "detailMessage" "Ljava/lang/String;") ∈ aw_TB := aw_tb (List.mem_append_right _ (List.mem_append_right _ (List.mem_append_left _ (List.mem_of_getElem? (i := 230) rfl)))) rfl
theorem wT_2_231 : (Cond.lays "java/lang/UnsupportedOperationException" "java/lang/Throwable" "backtrace" "Ljava/lang/Object;") ∈ aw_TB := aw_tb (List.mem_append_right _ (List.mem_append_right _ (List.mem_append_left _ (List.mem_of_getElem? (i := 231) rfl)))) rfl
theorem wT_2_233 : (Cond.methodLink "ScopeTree" 180 ⟨"java/lang/UnsupportedOperationException", "<init>", "(Ljava/lang/String;)V"⟩) ∈ aw_TB := aw_tb (List.mem_append_right _ (List.mem_append_right _ (List.mem_append_left _ (List.mem_of_getElem? (i := 233) rfl)))) rfl
theorem wT_2_234 : (Cond.instanceMethod ⟨"java/lang/UnsupportedOperationException", "<init>", "(Ljava/lang/String;)V"⟩) ∈ aw_TB := aw_tb (List.mem_append_right _ (List.mem_append_right _ (List.mem_append_left _ (List.mem_of_getElem? (i := 234) rfl)))) rfl
theorem wT_2_235 : (Cond.code ⟨"java/lang/UnsupportedOperationException", "<init>", "(Ljava/lang/String;)V"⟩ prog_22_method_2_code 2 none) ∈ aw_TB := aw_tb (List.mem_append_right _ (List.mem_append_right _ (List.mem_append_left _ (List.mem_of_getElem? (i := 235) rfl)))) rfl
theorem wT_2_236 : (Cond.methodLink "java/lang/UnsupportedOperationException" 7 ⟨"java/lang/RuntimeException", "<init>", "(Ljava/lang/String;)V"⟩) ∈ aw_TB := aw_tb (List.mem_append_right _ (List.mem_append_right _ (List.mem_append_left _ (List.mem_of_getElem? (i := 236) rfl)))) rfl
theorem wT_2_237 : (Cond.lays "java/lang/UnsupportedOperationException" "java/lang/Throwable" "depth" "I") ∈ aw_TB := aw_tb (List.mem_append_right _ (List.mem_append_right _ (List.mem_append_left _ (List.mem_of_getElem? (i := 237) rfl)))) rfl
theorem wT_2_238 : (Cond.superclass "java/lang/UnsupportedOperationException" "java/lang/RuntimeException") ∈ aw_TB := aw_tb (List.mem_append_right _ (List.mem_append_right _ (List.mem_append_left _ (List.mem_of_getElem? (i := 238) rfl)))) rfl
theorem wT_2_239 : (Cond.methodLink "ScopeTree" 181 ⟨"ScopeTree", "wantedDefining", "(LScopeTree$Path;LScopeTree$Loader;)LScopeTree$Loader;"⟩) ∈ aw_TB := aw_tb (List.mem_append_right _ (List.mem_append_right _ (List.mem_append_left _ (List.mem_of_getElem? (i := 239) rfl)))) rfl
theorem wT_3_1 : (Cond.instanceMethod ⟨"ScopeTree", "wantedDefining", "(LScopeTree$Path;LScopeTree$Loader;)LScopeTree$Loader;"⟩) ∈ aw_TB := aw_tb (List.mem_append_right _ (List.mem_append_right _ (List.mem_append_right _ (List.mem_append_left _ (List.mem_of_getElem? (i := 1) rfl))))) rfl
theorem wT_3_2 : (Cond.code ⟨"ScopeTree", "wantedDefining", "(LScopeTree$Path;LScopeTree$Loader;)LScopeTree$Loader;"⟩ prog_1_method_25_code 6 (some (.object "ScopeTree$Loader"))) ∈ aw_TB := aw_tb (List.mem_append_right _ (List.mem_append_right _ (List.mem_append_right _ (List.mem_append_left _ (List.mem_of_getElem? (i := 2) rfl))))) rfl
theorem wT_3_3 : (Cond.methodLink "ScopeTree" 289 ⟨"ScopeTree", "contentsOf", "(LScopeTree$Path;)[LScopeTree$Archive;"⟩) ∈ aw_TB := aw_tb (List.mem_append_right _ (List.mem_append_right _ (List.mem_append_right _ (List.mem_append_left _ (List.mem_of_getElem? (i := 3) rfl))))) rfl
theorem wT_3_5 : (Cond.instanceMethod ⟨"ScopeTree", "contentsOf", "(LScopeTree$Path;)[LScopeTree$Archive;"⟩) ∈ aw_TB := aw_tb (List.mem_append_right _ (List.mem_append_right _ (List.mem_append_right _ (List.mem_append_left _ (List.mem_of_getElem? (i := 5) rfl))))) rfl
theorem wT_3_6 : (Cond.code ⟨"ScopeTree", "contentsOf", "(LScopeTree$Path;)[LScopeTree$Archive;"⟩ prog_1_method_27_code 4 (some (.array (.object "ScopeTree$Archive")))) ∈ aw_TB := aw_tb (List.mem_append_right _ (List.mem_append_right _ (List.mem_append_right _ (List.mem_append_left _ (List.mem_of_getElem? (i := 6) rfl))))) rfl
theorem wN_3_7 : (Cond.methodLinkNest "ScopeTree" 308 ⟨"ScopeTree$Archive", "copy", "()LScopeTree$Archive;"⟩ "ScopeTree") ∈ aw_NB := aw_nb (List.mem_append_right _ (List.mem_append_right _ (List.mem_append_right _ (List.mem_append_left _ (List.mem_of_getElem? (i := 7) rfl))))) rfl
theorem wT_3_9 : (Cond.instanceMethod ⟨"ScopeTree$Archive", "copy", "()LScopeTree$Archive;"⟩) ∈ aw_TB := aw_tb (List.mem_append_right _ (List.mem_append_right _ (List.mem_append_right _ (List.mem_append_left _ (List.mem_of_getElem? (i := 9) rfl))))) rfl
theorem wT_3_10 : (Cond.code ⟨"ScopeTree$Archive", "copy", "()LScopeTree$Archive;"⟩ prog_2_method_8_code 3 (some (.object "ScopeTree$Archive"))) ∈ aw_TB := aw_tb (List.mem_append_right _ (List.mem_append_right _ (List.mem_append_right _ (List.mem_append_left _ (List.mem_of_getElem? (i := 10) rfl))))) rfl
theorem wT_3_11 : (Cond.classLink "ScopeTree$Archive" 12 "ScopeTree$Archive") ∈ aw_TB := aw_tb (List.mem_append_right _ (List.mem_append_right _ (List.mem_append_right _ (List.mem_append_left _ (List.mem_of_getElem? (i := 11) rfl))))) rfl
theorem wT_3_12 : (Cond.methodLink "ScopeTree$Archive" 49 ⟨"ScopeTree$Archive", "<init>", "()V"⟩) ∈ aw_TB := aw_tb (List.mem_append_right _ (List.mem_append_right _ (List.mem_append_right _ (List.mem_append_left _ (List.mem_of_getElem? (i := 12) rfl))))) rfl
theorem wN_3_13 : (Cond.methodLinkNest "ScopeTree" 293 ⟨"ScopeTree$Loader", "hasPathLike", "([LScopeTree$Archive;)Z"⟩ "ScopeTree") ∈ aw_NB := aw_nb (List.mem_append_right _ (List.mem_append_right _ (List.mem_append_right _ (List.mem_append_left _ (List.mem_of_getElem? (i := 13) rfl))))) rfl
theorem wT_3_15 : (Cond.instanceMethod ⟨"ScopeTree$Loader", "hasPathLike", "([LScopeTree$Archive;)Z"⟩) ∈ aw_TB := aw_tb (List.mem_append_right _ (List.mem_append_right _ (List.mem_append_right _ (List.mem_append_left _ (List.mem_of_getElem? (i := 15) rfl))))) rfl
theorem wT_3_16 : (Cond.code ⟨"ScopeTree$Loader", "hasPathLike", "([LScopeTree$Archive;)Z"⟩ prog_6_method_4_code 3 (some .boolean)) ∈ aw_TB := aw_tb (List.mem_append_right _ (List.mem_append_right _ (List.mem_append_right _ (List.mem_append_left _ (List.mem_of_getElem? (i := 16) rfl))))) rfl
theorem wN_3_17 : (Cond.methodLinkNest "ScopeTree$Loader" 38 ⟨"ScopeTree$Archive", "isLike", "(LScopeTree$Archive;)Z"⟩ "ScopeTree") ∈ aw_NB := aw_nb (List.mem_append_right _ (List.mem_append_right _ (List.mem_append_right _ (List.mem_append_left _ (List.mem_of_getElem? (i := 17) rfl))))) rfl
theorem wT_3_19 : (Cond.instanceMethod ⟨"ScopeTree$Archive", "isLike", "(LScopeTree$Archive;)Z"⟩) ∈ aw_TB := aw_tb (List.mem_append_right _ (List.mem_append_right _ (List.mem_append_right _ (List.mem_append_left _ (List.mem_of_getElem? (i := 19) rfl))))) rfl
theorem wT_3_20 : (Cond.code ⟨"ScopeTree$Archive", "isLike", "(LScopeTree$Archive;)Z"⟩ prog_2_method_9_code 3 (some .boolean)) ∈ aw_TB := aw_tb (List.mem_append_right _ (List.mem_append_right _ (List.mem_append_right _ (List.mem_append_left _ (List.mem_of_getElem? (i := 20) rfl))))) rfl
theorem wT_3_21 : (Cond.methodLink "ScopeTree$Archive" 50 ⟨"ScopeTree$Archive", "fileOf", "(I)LScopeTree$ClassFile;"⟩) ∈ aw_TB := aw_tb (List.mem_append_right _ (List.mem_append_right _ (List.mem_append_right _ (List.mem_append_left _ (List.mem_of_getElem? (i := 21) rfl))))) rfl
theorem wT_3_23 : (Cond.instanceMethod ⟨"ScopeTree$Archive", "fileOf", "(I)LScopeTree$ClassFile;"⟩) ∈ aw_TB := aw_tb (List.mem_append_right _ (List.mem_append_right _ (List.mem_append_right _ (List.mem_append_left _ (List.mem_of_getElem? (i := 23) rfl))))) rfl
theorem wT_3_24 : (Cond.code ⟨"ScopeTree$Archive", "fileOf", "(I)LScopeTree$ClassFile;"⟩ prog_2_method_2_code 3 (some (.object "ScopeTree$ClassFile"))) ∈ aw_TB := aw_tb (List.mem_append_right _ (List.mem_append_right _ (List.mem_append_right _ (List.mem_append_left _ (List.mem_of_getElem? (i := 24) rfl))))) rfl
theorem wN_3_25 : (Cond.methodLinkNest "ScopeTree$Archive" 54 ⟨"ScopeTree$ClassFile", "isSame", "(LScopeTree$ClassFile;)Z"⟩ "ScopeTree") ∈ aw_NB := aw_nb (List.mem_append_right _ (List.mem_append_right _ (List.mem_append_right _ (List.mem_append_left _ (List.mem_of_getElem? (i := 25) rfl))))) rfl
theorem wT_3_27 : (Cond.instanceMethod ⟨"ScopeTree$ClassFile", "isSame", "(LScopeTree$ClassFile;)Z"⟩) ∈ aw_TB := aw_tb (List.mem_append_right _ (List.mem_append_right _ (List.mem_append_right _ (List.mem_append_left _ (List.mem_of_getElem? (i := 27) rfl))))) rfl
theorem wT_3_28 : (Cond.code ⟨"ScopeTree$ClassFile", "isSame", "(LScopeTree$ClassFile;)Z"⟩ prog_3_method_2_code 2 (some .boolean)) ∈ aw_TB := aw_tb (List.mem_append_right _ (List.mem_append_right _ (List.mem_append_right _ (List.mem_append_left _ (List.mem_of_getElem? (i := 28) rfl))))) rfl
theorem wT_3_29 : (Cond.methodLink "ScopeTree$Archive" 58 ⟨"ScopeTree$Archive", "descriptorOf", "(I)LScopeTree$Descriptor;"⟩) ∈ aw_TB := aw_tb (List.mem_append_right _ (List.mem_append_right _ (List.mem_append_right _ (List.mem_append_left _ (List.mem_of_getElem? (i := 29) rfl))))) rfl
theorem wT_3_31 : (Cond.instanceMethod ⟨"ScopeTree$Archive", "descriptorOf", "(I)LScopeTree$Descriptor;"⟩) ∈ aw_TB := aw_tb (List.mem_append_right _ (List.mem_append_right _ (List.mem_append_right _ (List.mem_append_left _ (List.mem_of_getElem? (i := 31) rfl))))) rfl
theorem wT_3_32 : (Cond.code ⟨"ScopeTree$Archive", "descriptorOf", "(I)LScopeTree$Descriptor;"⟩ prog_2_method_3_code 3 (some (.object "ScopeTree$Descriptor"))) ∈ aw_TB := aw_tb (List.mem_append_right _ (List.mem_append_right _ (List.mem_append_right _ (List.mem_append_left _ (List.mem_of_getElem? (i := 32) rfl))))) rfl
theorem wN_3_33 : (Cond.methodLinkNest "ScopeTree$Archive" 62 ⟨"ScopeTree$Descriptor", "isSame", "(LScopeTree$Descriptor;)Z"⟩ "ScopeTree") ∈ aw_NB := aw_nb (List.mem_append_right _ (List.mem_append_right _ (List.mem_append_right _ (List.mem_append_left _ (List.mem_of_getElem? (i := 33) rfl))))) rfl
theorem wT_3_35 : (Cond.instanceMethod ⟨"ScopeTree$Descriptor", "isSame", "(LScopeTree$Descriptor;)Z"⟩) ∈ aw_TB := aw_tb (List.mem_append_right _ (List.mem_append_right _ (List.mem_append_right _ (List.mem_append_left _ (List.mem_of_getElem? (i := 35) rfl))))) rfl
theorem wT_3_36 : (Cond.code ⟨"ScopeTree$Descriptor", "isSame", "(LScopeTree$Descriptor;)Z"⟩ prog_4_method_2_code 2 (some .boolean)) ∈ aw_TB := aw_tb (List.mem_append_right _ (List.mem_append_right _ (List.mem_append_right _ (List.mem_append_left _ (List.mem_of_getElem? (i := 36) rfl))))) rfl
theorem wT_3_37 : (Cond.methodLink "ScopeTree" 297 ⟨"ScopeTree", "newLoader", "(ILScopeTree$Loader;[LScopeTree$Archive;LScopeTree$Filter;)LScopeTree$Loader;"⟩) ∈ aw_TB := aw_tb (List.mem_append_right _ (List.mem_append_right _ (List.mem_append_right _ (List.mem_append_left _ (List.mem_of_getElem? (i := 37) rfl))))) rfl
theorem wT_3_39 : (Cond.instanceMethod ⟨"ScopeTree", "newLoader", "(ILScopeTree$Loader;[LScopeTree$Archive;LScopeTree$Filter;)LScopeTree$Loader;"⟩) ∈ aw_TB := aw_tb (List.mem_append_right _ (List.mem_append_right _ (List.mem_append_right _ (List.mem_append_left _ (List.mem_of_getElem? (i := 39) rfl))))) rfl
theorem wT_3_40 : (Cond.code ⟨"ScopeTree", "newLoader", "(ILScopeTree$Loader;[LScopeTree$Archive;LScopeTree$Filter;)LScopeTree$Loader;"⟩ prog_1_method_28_code 7 (some (.object "ScopeTree$Loader"))) ∈ aw_TB := aw_tb (List.mem_append_right _ (List.mem_append_right _ (List.mem_append_right _ (List.mem_append_left _ (List.mem_of_getElem? (i := 40) rfl))))) rfl
theorem wT_3_41 : (Cond.methodLink "ScopeTree" 312 ⟨"ScopeTree", "leastFreeLoaderNumber", "()I"⟩) ∈ aw_TB := aw_tb (List.mem_append_right _ (List.mem_append_right _ (List.mem_append_right _ (List.mem_append_left _ (List.mem_of_getElem? (i := 41) rfl))))) rfl
theorem wT_3_43 : (Cond.instanceMethod ⟨"ScopeTree", "leastFreeLoaderNumber", "()I"⟩) ∈ aw_TB := aw_tb (List.mem_append_right _ (List.mem_append_right _ (List.mem_append_right _ (List.mem_append_left _ (List.mem_of_getElem? (i := 43) rfl))))) rfl
theorem wT_3_44 : (Cond.code ⟨"ScopeTree", "leastFreeLoaderNumber", "()I"⟩ prog_1_method_29_code 2 (some .int)) ∈ aw_TB := aw_tb (List.mem_append_right _ (List.mem_append_right _ (List.mem_append_right _ (List.mem_append_left _ (List.mem_of_getElem? (i := 44) rfl))))) rfl
theorem wT_3_45 : (Cond.methodLink "ScopeTree" 188 ⟨"ScopeTree", "wantedFiltering", "(LScopeTree$Filter;LScopeTree$Loader;)LScopeTree$Loader;"⟩) ∈ aw_TB := aw_tb (List.mem_append_right _ (List.mem_append_right _ (List.mem_append_right _ (List.mem_append_left _ (List.mem_of_getElem? (i := 45) rfl))))) rfl
theorem wT_3_47 : (Cond.instanceMethod ⟨"ScopeTree", "wantedFiltering", "(LScopeTree$Filter;LScopeTree$Loader;)LScopeTree$Loader;"⟩) ∈ aw_TB := aw_tb (List.mem_append_right _ (List.mem_append_right _ (List.mem_append_right _ (List.mem_append_left _ (List.mem_of_getElem? (i := 47) rfl))))) rfl
theorem wT_3_48 : (Cond.code ⟨"ScopeTree", "wantedFiltering", "(LScopeTree$Filter;LScopeTree$Loader;)LScopeTree$Loader;"⟩ prog_1_method_26_code 5 (some (.object "ScopeTree$Loader"))) ∈ aw_TB := aw_tb (List.mem_append_right _ (List.mem_append_right _ (List.mem_append_right _ (List.mem_append_left _ (List.mem_of_getElem? (i := 48) rfl))))) rfl
theorem wN_3_49 : (Cond.methodLinkNest "ScopeTree" 302 ⟨"ScopeTree$Filter", "isSame", "(LScopeTree$Filter;)Z"⟩ "ScopeTree") ∈ aw_NB := aw_nb (List.mem_append_right _ (List.mem_append_right _ (List.mem_append_right _ (List.mem_append_left _ (List.mem_of_getElem? (i := 49) rfl))))) rfl
theorem wT_3_51 : (Cond.instanceMethod ⟨"ScopeTree$Filter", "isSame", "(LScopeTree$Filter;)Z"⟩) ∈ aw_TB := aw_tb (List.mem_append_right _ (List.mem_append_right _ (List.mem_append_right _ (List.mem_append_left _ (List.mem_of_getElem? (i := 51) rfl))))) rfl
theorem wT_3_52 : (Cond.code ⟨"ScopeTree$Filter", "isSame", "(LScopeTree$Filter;)Z"⟩ prog_5_method_3_code 2 (some .boolean)) ∈ aw_TB := aw_tb (List.mem_append_right _ (List.mem_append_right _ (List.mem_append_right _ (List.mem_append_left _ (List.mem_of_getElem? (i := 52) rfl))))) rfl
theorem wT_3_53 : (Cond.methodLink "ScopeTreeLaw" 107 ⟨"ScopeTreeLaw", "release", "(LScopeTree;I[J)I"⟩) ∈ aw_TB := aw_tb (List.mem_append_right _ (List.mem_append_right _ (List.mem_append_right _ (List.mem_append_left _ (List.mem_of_getElem? (i := 53) rfl))))) rfl
theorem wT_3_54 : (Cond.static ⟨"ScopeTreeLaw", "release", "(LScopeTree;I[J)I"⟩) ∈ aw_TB := aw_tb (List.mem_append_right _ (List.mem_append_right _ (List.mem_append_right _ (List.mem_append_left _ (List.mem_of_getElem? (i := 54) rfl))))) rfl
theorem wT_3_55 : (Cond.codeWith ⟨"ScopeTreeLaw", "release", "(LScopeTree;I[J)I"⟩ method_10_code 4 (some .int) [(0, 9, 12, 13), (0, 9, 15, 15)]) ∈ aw_TB := aw_tb (List.mem_append_right _ (List.mem_append_right _ (List.mem_append_right _ (List.mem_append_left _ (List.mem_of_getElem? (i := 55) rfl))))) rfl
theorem wT_3_56 : (Cond.methodLink "ScopeTreeLaw" 42 ⟨"ScopeTree", "release", "(I)I"⟩) ∈ aw_TB := aw_tb (List.mem_append_right _ (List.mem_append_right _ (List.mem_append_right _ (List.mem_append_left _ (List.mem_of_getElem? (i := 56) rfl))))) rfl
theorem wT_3_57 : (Cond.instanceMethod ⟨"ScopeTree", "release", "(I)I"⟩) ∈ aw_TB := aw_tb (List.mem_append_right _ (List.mem_append_right _ (List.mem_append_right _ (List.mem_append_left _ (List.mem_of_getElem? (i := 57) rfl))))) rfl
theorem wT_3_58 : (Cond.selects "ScopeTree" ⟨"ScopeTree", "release", "(I)I"⟩ ⟨"ScopeTree", "release", "(I)I"⟩) ∈ aw_TB := aw_tb (List.mem_append_right _ (List.mem_append_right _ (List.mem_append_right _ (List.mem_append_left _ (List.mem_of_getElem? (i := 58) rfl))))) rfl
theorem wT_3_59 : (Cond.code ⟨"ScopeTree", "release", "(I)I"⟩ prog_1_method_9_code 4 (some .int)) ∈ aw_TB := aw_tb (List.mem_append_right _ (List.mem_append_right _ (List.mem_append_right _ (List.mem_append_left _ (List.mem_of_getElem? (i := 59) rfl))))) rfl
theorem wT_3_61 : (Cond.methodLink "ScopeTree" 197 ⟨"ScopeTree", "hasChildLeft", "(LScopeTree$Scope;)Z"⟩) ∈ aw_TB := aw_tb (List.mem_append_right _ (List.mem_append_right _ (List.mem_append_right _ (List.mem_append_left _ (List.mem_of_getElem? (i := 61) rfl))))) rfl
theorem wT_3_63 : (Cond.instanceMethod ⟨"ScopeTree", "hasChildLeft", "(LScopeTree$Scope;)Z"⟩) ∈ aw_TB := aw_tb (List.mem_append_right _ (List.mem_append_right _ (List.mem_append_right _ (List.mem_append_left _ (List.mem_of_getElem? (i := 63) rfl))))) rfl
theorem wT_3_64 : (Cond.code ⟨"ScopeTree", "hasChildLeft", "(LScopeTree$Scope;)Z"⟩ prog_1_method_23_code 3 (some .boolean)) ∈ aw_TB := aw_tb (List.mem_append_right _ (List.mem_append_right _ (List.mem_append_right _ (List.mem_append_left _ (List.mem_of_getElem? (i := 64) rfl))))) rfl
theorem wT_3_66 : (Cond.methodLink "ScopeTree" 203 ⟨"ScopeTree", "letGo", "(LScopeTree$Loader;)I"⟩) ∈ aw_TB := aw_tb (List.mem_append_right _ (List.mem_append_right _ (List.mem_append_right _ (List.mem_append_left _ (List.mem_of_getElem? (i := 66) rfl))))) rfl
theorem wT_3_68 : (Cond.instanceMethod ⟨"ScopeTree", "letGo", "(LScopeTree$Loader;)I"⟩) ∈ aw_TB := aw_tb (List.mem_append_right _ (List.mem_append_right _ (List.mem_append_right _ (List.mem_append_left _ (List.mem_of_getElem? (i := 68) rfl))))) rfl
theorem wT_3_69 : (Cond.code ⟨"ScopeTree", "letGo", "(LScopeTree$Loader;)I"⟩ prog_1_method_30_code 4 (some .int)) ∈ aw_TB := aw_tb (List.mem_append_right _ (List.mem_append_right _ (List.mem_append_right _ (List.mem_append_left _ (List.mem_of_getElem? (i := 69) rfl))))) rfl
theorem wT_3_70 : (Cond.methodLink "ScopeTreeLaw" 110 ⟨"ScopeTreeLaw", "loader", "(LScopeTree;IZ[J)I"⟩) ∈ aw_TB := aw_tb (List.mem_append_right _ (List.mem_append_right _ (List.mem_append_right _ (List.mem_append_left _ (List.mem_of_getElem? (i := 70) rfl))))) rfl
theorem wT_3_71 : (Cond.static ⟨"ScopeTreeLaw", "loader", "(LScopeTree;IZ[J)I"⟩) ∈ aw_TB := aw_tb (List.mem_append_right _ (List.mem_append_right _ (List.mem_append_right _ (List.mem_append_left _ (List.mem_of_getElem? (i := 71) rfl))))) rfl
theorem wT_3_72 : (Cond.codeWith ⟨"ScopeTreeLaw", "loader", "(LScopeTree;IZ[J)I"⟩ method_11_code 5 (some .int) [(0, 10, 13, 13)]) ∈ aw_TB := aw_tb (List.mem_append_right _ (List.mem_append_right _ (List.mem_append_right _ (List.mem_append_left _ (List.mem_of_getElem? (i := 72) rfl))))) rfl
theorem wT_3_73 : (Cond.methodLink "ScopeTreeLaw" 45 ⟨"ScopeTree", "loader", "(IZ)I"⟩) ∈ aw_TB := aw_tb (List.mem_append_right _ (List.mem_append_right _ (List.mem_append_right _ (List.mem_append_left _ (List.mem_of_getElem? (i := 73) rfl))))) rfl
theorem wT_3_74 : (Cond.instanceMethod ⟨"ScopeTree", "loader", "(IZ)I"⟩) ∈ aw_TB := aw_tb (List.mem_append_right _ (List.mem_append_right _ (List.mem_append_right _ (List.mem_append_left _ (List.mem_of_getElem? (i := 74) rfl))))) rfl
theorem wT_3_75 : (Cond.selects "ScopeTree" ⟨"ScopeTree", "loader", "(IZ)I"⟩ ⟨"ScopeTree", "loader", "(IZ)I"⟩) ∈ aw_TB := aw_tb (List.mem_append_right _ (List.mem_append_right _ (List.mem_append_right _ (List.mem_append_left _ (List.mem_of_getElem? (i := 75) rfl))))) rfl
theorem wT_3_76 : (Cond.code ⟨"ScopeTree", "loader", "(IZ)I"⟩ prog_1_method_10_code 4 (some .int)) ∈ aw_TB := aw_tb (List.mem_append_right _ (List.mem_append_right _ (List.mem_append_right _ (List.mem_append_left _ (List.mem_of_getElem? (i := 76) rfl))))) rfl
theorem wT_3_77 : (Cond.methodLink "ScopeTreeLaw" 118 ⟨"ScopeTreeLaw", "load", "(LScopeTree;II[J)I"⟩) ∈ aw_TB := aw_tb (List.mem_append_right _ (List.mem_append_right _ (List.mem_append_right _ (List.mem_append_left _ (List.mem_of_getElem? (i := 77) rfl))))) rfl
theorem wT_3_78 : (Cond.static ⟨"ScopeTreeLaw", "load", "(LScopeTree;II[J)I"⟩) ∈ aw_TB := aw_tb (List.mem_append_right _ (List.mem_append_right _ (List.mem_append_right _ (List.mem_append_left _ (List.mem_of_getElem? (i := 78) rfl))))) rfl
theorem wT_3_79 : (Cond.codeWith ⟨"ScopeTreeLaw", "load", "(LScopeTree;II[J)I"⟩ method_12_code 5 (some .int) [(0, 10, 13, 13), (0, 10, 17, 15), (0, 10, 21, 53), (0, 10, 25, 40)]) ∈ aw_TB := aw_tb (List.mem_append_right _ (List.mem_append_right _ (List.mem_append_right _ (List.mem_append_left _ (List.mem_of_getElem? (i := 79) rfl))))) rfl
theorem wT_3_80 : (Cond.classLink "ScopeTreeLaw" 53 "java/util/NoSuchElementException") ∈ aw_TB := aw_tb (List.mem_append_right _ (List.mem_append_right _ (List.mem_append_right _ (List.mem_append_left _ (List.mem_of_getElem? (i := 80) rfl))))) rfl
theorem wT_3_81 : (Cond.methodLink "ScopeTreeLaw" 49 ⟨"ScopeTree", "load", "(II)I"⟩) ∈ aw_TB := aw_tb (List.mem_append_right _ (List.mem_append_right _ (List.mem_append_right _ (List.mem_append_left _ (List.mem_of_getElem? (i := 81) rfl))))) rfl
theorem wT_3_82 : (Cond.instanceMethod ⟨"ScopeTree", "load", "(II)I"⟩) ∈ aw_TB := aw_tb (List.mem_append_right _ (List.mem_append_right _ (List.mem_append_right _ (List.mem_append_left _ (List.mem_of_getElem? (i := 82) rfl))))) rfl
theorem wT_3_83 : (Cond.selects "ScopeTree" ⟨"ScopeTree", "load", "(II)I"⟩ ⟨"ScopeTree", "load", "(II)I"⟩) ∈ aw_TB := aw_tb (List.mem_append_right _ (List.mem_append_right _ (List.mem_append_right _ (List.mem_append_left _ (List.mem_of_getElem? (i := 83) rfl))))) rfl
theorem wT_3_84 : (Cond.code ⟨"ScopeTree", "load", "(II)I"⟩ prog_1_method_12_code 4 (some .int)) ∈ aw_TB := aw_tb (List.mem_append_right _ (List.mem_append_right _ (List.mem_append_right _ (List.mem_append_left _ (List.mem_of_getElem? (i := 84) rfl))))) rfl
theorem wT_3_86 : (Cond.methodLink "ScopeTree" 217 ⟨"ScopeTree", "requireLocked", "(LScopeTree$Scope;)V"⟩) ∈ aw_TB := aw_tb (List.mem_append_right _ (List.mem_append_right _ (List.mem_append_right _ (List.mem_append_left _ (List.mem_of_getElem? (i := 86) rfl))))) rfl
theorem wT_3_87 : (Cond.static ⟨"ScopeTree", "requireLocked", "(LScopeTree$Scope;)V"⟩) ∈ aw_TB := aw_tb (List.mem_append_right _ (List.mem_append_right _ (List.mem_append_right _ (List.mem_append_left _ (List.mem_of_getElem? (i := 87) rfl))))) rfl
theorem wT_3_88 : (Cond.code ⟨"ScopeTree", "requireLocked", "(LScopeTree$Scope;)V"⟩ prog_1_method_22_code 1 none) ∈ aw_TB := aw_tb (List.mem_append_right _ (List.mem_append_right _ (List.mem_append_right _ (List.mem_append_left _ (List.mem_of_getElem? (i := 88) rfl))))) rfl
theorem wT_3_90 : (Cond.methodLink "ScopeTree" 220 ⟨"ScopeTree", "typeFromScope", "(LScopeTree$Scope;I)LScopeTree$Type;"⟩) ∈ aw_TB := aw_tb (List.mem_append_right _ (List.mem_append_right _ (List.mem_append_right _ (List.mem_append_left _ (List.mem_of_getElem? (i := 90) rfl))))) rfl
theorem wT_3_92 : (Cond.instanceMethod ⟨"ScopeTree", "typeFromScope", "(LScopeTree$Scope;I)LScopeTree$Type;"⟩) ∈ aw_TB := aw_tb (List.mem_append_right _ (List.mem_append_right _ (List.mem_append_right _ (List.mem_append_left _ (List.mem_of_getElem? (i := 92) rfl))))) rfl
theorem wT_3_93 : (Cond.code ⟨"ScopeTree", "typeFromScope", "(LScopeTree$Scope;I)LScopeTree$Type;"⟩ prog_1_method_31_code 4 (some (.object "ScopeTree$Type"))) ∈ aw_TB := aw_tb (List.mem_append_right _ (List.mem_append_right _ (List.mem_append_right _ (List.mem_append_left _ (List.mem_of_getElem? (i := 93) rfl))))) rfl
theorem wT_3_94 : (Cond.methodLink "ScopeTree" 315 ⟨"ScopeTree", "findFrom", "(LScopeTree$Loader;II)LScopeTree$Type;"⟩) ∈ aw_TB := aw_tb (List.mem_append_right _ (List.mem_append_right _ (List.mem_append_right _ (List.mem_append_left _ (List.mem_of_getElem? (i := 94) rfl))))) rfl
theorem wT_3_96 : (Cond.instanceMethod ⟨"ScopeTree", "findFrom", "(LScopeTree$Loader;II)LScopeTree$Type;"⟩) ∈ aw_TB := aw_tb (List.mem_append_right _ (List.mem_append_right _ (List.mem_append_right _ (List.mem_append_left _ (List.mem_of_getElem? (i := 96) rfl))))) rfl
theorem wT_3_97 : (Cond.code ⟨"ScopeTree", "findFrom", "(LScopeTree$Loader;II)LScopeTree$Type;"⟩ prog_1_method_32_code 6 (some (.object "ScopeTree$Type"))) ∈ aw_TB := aw_tb (List.mem_append_right _ (List.mem_append_right _ (List.mem_append_right _ (List.mem_append_left _ (List.mem_of_getElem? (i := 97) rfl))))) rfl
theorem wN_3_98 : (Cond.methodLinkNest "ScopeTree" 321 ⟨"ScopeTree$Filter", "admits", "(I)Z"⟩ "ScopeTree") ∈ aw_NB := aw_nb (List.mem_append_right _ (List.mem_append_right _ (List.mem_append_right _ (List.mem_append_left _ (List.mem_of_getElem? (i := 98) rfl))))) rfl
theorem wT_3_100 : (Cond.instanceMethod ⟨"ScopeTree$Filter", "admits", "(I)Z"⟩) ∈ aw_TB := aw_tb (List.mem_append_right _ (List.mem_append_right _ (List.mem_append_right _ (List.mem_append_left _ (List.mem_of_getElem? (i := 100) rfl))))) rfl
theorem wT_3_101 : (Cond.code ⟨"ScopeTree$Filter", "admits", "(I)Z"⟩ prog_5_method_2_code 2 (some .boolean)) ∈ aw_TB := aw_tb (List.mem_append_right _ (List.mem_append_right _ (List.mem_append_right _ (List.mem_append_left _ (List.mem_of_getElem? (i := 101) rfl))))) rfl
theorem wN_3_102 : (Cond.methodLinkNest "ScopeTree" 324 ⟨"ScopeTree$Loader", "fileOf", "(I)LScopeTree$ClassFile;"⟩ "ScopeTree") ∈ aw_NB := aw_nb (List.mem_append_right _ (List.mem_append_right _ (List.mem_append_right _ (List.mem_append_left _ (List.mem_of_getElem? (i := 102) rfl))))) rfl
theorem wT_3_104 : (Cond.instanceMethod ⟨"ScopeTree$Loader", "fileOf", "(I)LScopeTree$ClassFile;"⟩) ∈ aw_TB := aw_tb (List.mem_append_right _ (List.mem_append_right _ (List.mem_append_right _ (List.mem_append_left _ (List.mem_of_getElem? (i := 104) rfl))))) rfl
theorem wT_3_105 : (Cond.code ⟨"ScopeTree$Loader", "fileOf", "(I)LScopeTree$ClassFile;"⟩ prog_6_method_2_code 4 (some (.object "ScopeTree$ClassFile"))) ∈ aw_TB := aw_tb (List.mem_append_right _ (List.mem_append_right _ (List.mem_append_right _ (List.mem_append_left _ (List.mem_of_getElem? (i := 105) rfl))))) rfl
theorem wN_3_106 : (Cond.methodLinkNest "ScopeTree$Loader" 28 ⟨"ScopeTree$Archive", "fileOf", "(I)LScopeTree$ClassFile;"⟩ "ScopeTree") ∈ aw_NB := aw_nb (List.mem_append_right _ (List.mem_append_right _ (List.mem_append_right _ (List.mem_append_left _ (List.mem_of_getElem? (i := 106) rfl))))) rfl
theorem wT_3_107 : (Cond.methodLink "ScopeTree" 328 ⟨"ScopeTree", "typeDefinedBy", "(LScopeTree$Loader;LScopeTree$ClassFile;I)LScopeTree$Type;"⟩) ∈ aw_TB := aw_tb (List.mem_append_right _ (List.mem_append_right _ (List.mem_append_right _ (List.mem_append_left _ (List.mem_of_getElem? (i := 107) rfl))))) rfl
theorem wT_3_109 : (Cond.instanceMethod ⟨"ScopeTree", "typeDefinedBy", "(LScopeTree$Loader;LScopeTree$ClassFile;I)LScopeTree$Type;"⟩) ∈ aw_TB := aw_tb (List.mem_append_right _ (List.mem_append_right _ (List.mem_append_right _ (List.mem_append_left _ (List.mem_of_getElem? (i := 109) rfl))))) rfl
theorem wT_3_110 : (Cond.code ⟨"ScopeTree", "typeDefinedBy", "(LScopeTree$Loader;LScopeTree$ClassFile;I)LScopeTree$Type;"⟩ prog_1_method_33_code 6 (some (.object "ScopeTree$Type"))) ∈ aw_TB := aw_tb (List.mem_append_right _ (List.mem_append_right _ (List.mem_append_right _ (List.mem_append_left _ (List.mem_of_getElem? (i := 110) rfl))))) rfl
theorem wT_3_111 : (Cond.methodLink "ScopeTree" 333 ⟨"ScopeTree", "knownType", "(LScopeTree$Loader;I)LScopeTree$Type;"⟩) ∈ aw_TB := aw_tb (List.mem_append_right _ (List.mem_append_right _ (List.mem_append_right _ (List.mem_append_left _ (List.mem_of_getElem? (i := 111) rfl))))) rfl
theorem wT_3_113 : (Cond.instanceMethod ⟨"ScopeTree", "knownType", "(LScopeTree$Loader;I)LScopeTree$Type;"⟩) ∈ aw_TB := aw_tb (List.mem_append_right _ (List.mem_append_right _ (List.mem_append_right _ (List.mem_append_left _ (List.mem_of_getElem? (i := 113) rfl))))) rfl
theorem wT_3_114 : (Cond.code ⟨"ScopeTree", "knownType", "(LScopeTree$Loader;I)LScopeTree$Type;"⟩ prog_1_method_34_code 4 (some (.object "ScopeTree$Type"))) ∈ aw_TB := aw_tb (List.mem_append_right _ (List.mem_append_right _ (List.mem_append_right _ (List.mem_append_left _ (List.mem_of_getElem? (i := 114) rfl))))) rfl
theorem wT_3_115 : (Cond.methodLink "ScopeTree" 337 ⟨"ScopeTree", "isBeingDefined", "(LScopeTree$Loader;II)Z"⟩) ∈ aw_TB := aw_tb (List.mem_append_right _ (List.mem_append_right _ (List.mem_append_right _ (List.mem_append_left _ (List.mem_of_getElem? (i := 115) rfl))))) rfl
theorem wT_3_117 : (Cond.instanceMethod ⟨"ScopeTree", "isBeingDefined", "(LScopeTree$Loader;II)Z"⟩) ∈ aw_TB := aw_tb (List.mem_append_right _ (List.mem_append_right _ (List.mem_append_right _ (List.mem_append_left _ (List.mem_of_getElem? (i := 117) rfl))))) rfl
theorem wT_3_118 : (Cond.code ⟨"ScopeTree", "isBeingDefined", "(LScopeTree$Loader;II)Z"⟩ prog_1_method_35_code 5 (some .boolean)) ∈ aw_TB := aw_tb (List.mem_append_right _ (List.mem_append_right _ (List.mem_append_right _ (List.mem_append_left _ (List.mem_of_getElem? (i := 118) rfl))))) rfl
theorem wT_3_122 : (Cond.methodLink "ScopeTree" 350 ⟨"ScopeTree", "newType", "(LScopeTree$ClassFile;LScopeTree$Loader;LScopeTree$Type;)LScopeTree$Type;"⟩) ∈ aw_TB := aw_tb (List.mem_append_right _ (List.mem_append_right _ (List.mem_append_right _ (List.mem_append_left _ (List.mem_of_getElem? (i := 122) rfl))))) rfl
theorem wT_3_124 : (Cond.instanceMethod ⟨"ScopeTree", "newType", "(LScopeTree$ClassFile;LScopeTree$Loader;LScopeTree$Type;)LScopeTree$Type;"⟩) ∈ aw_TB := aw_tb (List.mem_append_right _ (List.mem_append_right _ (List.mem_append_right _ (List.mem_append_left _ (List.mem_of_getElem? (i := 124) rfl))))) rfl
theorem wT_3_125 : (Cond.code ⟨"ScopeTree", "newType", "(LScopeTree$ClassFile;LScopeTree$Loader;LScopeTree$Type;)LScopeTree$Type;"⟩ prog_1_method_36_code 5 (some (.object "ScopeTree$Type"))) ∈ aw_TB := aw_tb (List.mem_append_right _ (List.mem_append_right _ (List.mem_append_right _ (List.mem_append_left _ (List.mem_of_getElem? (i := 125) rfl))))) rfl
theorem wT_3_127 : (Cond.classLink "ScopeTree" 246 "java/util/NoSuchElementException") ∈ aw_TB := aw_tb (List.mem_append_right _ (List.mem_append_right _ (List.mem_append_right _ (List.mem_append_left _ (List.mem_of_getElem? (i := 127) rfl))))) rfl
theorem wT_3_128 : (Cond.instantiable "java/util/NoSuchElementException" 6) ∈ aw_TB := aw_tb (List.mem_append_right _ (List.mem_append_right _ (List.mem_append_right _ (List.mem_append_left _ (List.mem_of_getElem? (i := 128) rfl))))) rfl
theorem wN_3_129 : (Cond.castable "java/util/NoSuchElementException" "java/util/NoSuchElementException") ∈ aw_NB := aw_nb (List.mem_append_right _ (List.mem_append_right _ (List.mem_append_right _ (List.mem_append_left _ (List.mem_of_getElem? (i := 129) rfl))))) rfl
theorem wT_3_130 : (Cond.selects "java/util/NoSuchElementException" ⟨"java/lang/Throwable", "fillInStackTrace", "(I)Ljava/lang/Throwable;"⟩ ⟨"java/lang/Throwable", "fillInStackTrace", "(I)Ljava/lang/Throwable;"⟩) ∈ aw_TB := aw_tb (List.mem_append_right _ (List.mem_append_right _ (List.mem_append_right _ (List.mem_append_left _ (List.mem_of_getElem? (i := 130) rfl))))) rfl
theorem wT_3_131 : (Cond.lays "java/util/NoSuchElementException" "java/lang/Throwable" "cause" "Ljava/lang/Throwable;") ∈ aw_TB := aw_tb (List.mem_append_right _ (List.mem_append_right _ (List.mem_append_right _ (List.mem_append_left _ (List.mem_of_getElem? (i := 131) rfl))))) rfl
theorem wT_3_132 : (Cond.lays "java/util/NoSuchElementException" "java/lang/Throwable" "stackTrace" "[Ljava/lang/StackTraceElement;") ∈ aw_TB := aw_tb (List.mem_append_right _ (List.mem_append_right _ (List.mem_append_right _ (List.mem_append_left _ (List.mem_of_getElem? (i := 132) rfl))))) rfl
theorem wT_3_133 : (Cond.lays "java/util/NoSuchElementException" "java/lang/Throwable" "suppressedExceptions" "Ljava/util/List;") ∈ aw_TB := aw_tb (List.mem_append_right _ (List.mem_append_right _ (List.mem_append_right _ (List.mem_append_left _ (List.mem_of_getElem? (i := 133) rfl))))) rfl
theorem wT_3_134 : (Cond.lays "java/util/NoSuchElementException" "java/lang/Throwable" "detailMessage" "Ljava/lang/String;") ∈ aw_TB := aw_tb (List.mem_append_right _ (List.mem_append_right _ (List.mem_append_right _ (List.mem_append_left _ (List.mem_of_getElem? (i := 134) rfl))))) rfl
theorem wT_3_135 : (Cond.lays "java/util/NoSuchElementException" "java/lang/Throwable" "backtrace" "Ljava/lang/Object;") ∈ aw_TB := aw_tb (List.mem_append_right _ (List.mem_append_right _ (List.mem_append_right _ (List.mem_append_left _ (List.mem_of_getElem? (i := 135) rfl))))) rfl
theorem wT_3_137 : (Cond.methodLink "ScopeTree" 250 ⟨"java/util/NoSuchElementException", "<init>", "(Ljava/lang/String;)V"⟩) ∈ aw_TB := aw_tb (List.mem_append_right _ (List.mem_append_right _ (List.mem_append_right _ (List.mem_append_left _ (List.mem_of_getElem? (i := 137) rfl))))) rfl
theorem wT_3_138 : (Cond.instanceMethod ⟨"java/util/NoSuchElementException", "<init>", "(Ljava/lang/String;)V"⟩) ∈ aw_TB := aw_tb (List.mem_append_right _ (List.mem_append_right _ (List.mem_append_right _ (List.mem_append_left _ (List.mem_of_getElem? (i := 138) rfl))))) rfl
theorem wT_3_139 : (Cond.code ⟨"java/util/NoSuchElementException", "<init>", "(Ljava/lang/String;)V"⟩ prog_23_method_4_code 2 none) ∈ aw_TB := aw_tb (List.mem_append_right _ (List.mem_append_right _ (List.mem_append_right _ (List.mem_append_left _ (List.mem_of_getElem? (i := 139) rfl))))) rfl
theorem wT_3_140 : (Cond.methodLink "java/util/NoSuchElementException" 13 ⟨"java/lang/RuntimeException", "<init>", "(Ljava/lang/String;)V"⟩) ∈ aw_TB := aw_tb (List.mem_append_right _ (List.mem_append_right _ (List.mem_append_right _ (List.mem_append_left _ (List.mem_of_getElem? (i := 140) rfl))))) rfl
theorem wT_3_141 : (Cond.lays "java/util/NoSuchElementException" "java/lang/Throwable" "depth" "I") ∈ aw_TB := aw_tb (List.mem_append_right _ (List.mem_append_right _ (List.mem_append_right _ (List.mem_append_left _ (List.mem_of_getElem? (i := 141) rfl))))) rfl
theorem wT_3_142 : (Cond.superclass "java/util/NoSuchElementException" "java/lang/RuntimeException") ∈ aw_TB := aw_tb (List.mem_append_right _ (List.mem_append_right _ (List.mem_append_right _ (List.mem_append_left _ (List.mem_of_getElem? (i := 142) rfl))))) rfl
theorem wT_3_143 : (Cond.methodLink "ScopeTreeLaw" 122 ⟨"ScopeTreeLaw", "info", "(LScopeTree;II[J)I"⟩) ∈ aw_TB := aw_tb (List.mem_append_right _ (List.mem_append_right _ (List.mem_append_right _ (List.mem_append_left _ (List.mem_of_getElem? (i := 143) rfl))))) rfl
theorem wT_3_144 : (Cond.static ⟨"ScopeTreeLaw", "info", "(LScopeTree;II[J)I"⟩) ∈ aw_TB := aw_tb (List.mem_append_right _ (List.mem_append_right _ (List.mem_append_right _ (List.mem_append_left _ (List.mem_of_getElem? (i := 144) rfl))))) rfl
theorem wT_3_145 : (Cond.codeWith ⟨"ScopeTreeLaw", "info", "(LScopeTree;II[J)I"⟩ method_13_code 5 (some .int) [(0, 10, 13, 53)]) ∈ aw_TB := aw_tb (List.mem_append_right _ (List.mem_append_right _ (List.mem_append_right _ (List.mem_append_left _ (List.mem_of_getElem? (i := 145) rfl))))) rfl
theorem wT_3_146 : (Cond.methodLink "ScopeTreeLaw" 55 ⟨"ScopeTree", "info", "(II)I"⟩) ∈ aw_TB := aw_tb (List.mem_append_right _ (List.mem_append_right _ (List.mem_append_right _ (List.mem_append_left _ (List.mem_of_getElem? (i := 146) rfl))))) rfl
theorem wT_3_147 : (Cond.instanceMethod ⟨"ScopeTree", "info", "(II)I"⟩) ∈ aw_TB := aw_tb (List.mem_append_right _ (List.mem_append_right _ (List.mem_append_right _ (List.mem_append_left _ (List.mem_of_getElem? (i := 147) rfl))))) rfl
theorem wT_3_148 : (Cond.selects "ScopeTree" ⟨"ScopeTree", "info", "(II)I"⟩ ⟨"ScopeTree", "info", "(II)I"⟩) ∈ aw_TB := aw_tb (List.mem_append_right _ (List.mem_append_right _ (List.mem_append_right _ (List.mem_append_left _ (List.mem_of_getElem? (i := 148) rfl))))) rfl
theorem wT_3_149 : (Cond.code ⟨"ScopeTree", "info", "(II)I"⟩ prog_1_method_13_code 4 (some .int)) ∈ aw_TB := aw_tb (List.mem_append_right _ (List.mem_append_right _ (List.mem_append_right _ (List.mem_append_left _ (List.mem_of_getElem? (i := 149) rfl))))) rfl
theorem wT_3_150 : (Cond.methodLink "ScopeTree" 225 ⟨"ScopeTree", "typeAt", "(I)LScopeTree$Type;"⟩) ∈ aw_TB := aw_tb (List.mem_append_right _ (List.mem_append_right _ (List.mem_append_right _ (List.mem_append_left _ (List.mem_of_getElem? (i := 150) rfl))))) rfl
theorem wT_3_152 : (Cond.instanceMethod ⟨"ScopeTree", "typeAt", "(I)LScopeTree$Type;"⟩) ∈ aw_TB := aw_tb (List.mem_append_right _ (List.mem_append_right _ (List.mem_append_right _ (List.mem_append_left _ (List.mem_of_getElem? (i := 152) rfl))))) rfl
theorem wT_3_153 : (Cond.code ⟨"ScopeTree", "typeAt", "(I)LScopeTree$Type;"⟩ prog_1_method_20_code 2 (some (.object "ScopeTree$Type"))) ∈ aw_TB := aw_tb (List.mem_append_right _ (List.mem_append_right _ (List.mem_append_right _ (List.mem_append_left _ (List.mem_of_getElem? (i := 153) rfl))))) rfl
theorem wT_3_156 : (Cond.methodLink "ScopeTreeLaw" 125 ⟨"ScopeTreeLaw", "isA", "(LScopeTree;II[J)I"⟩) ∈ aw_TB := aw_tb (List.mem_append_right _ (List.mem_append_right _ (List.mem_append_right _ (List.mem_append_left _ (List.mem_of_getElem? (i := 156) rfl))))) rfl
theorem wT_3_157 : (Cond.static ⟨"ScopeTreeLaw", "isA", "(LScopeTree;II[J)I"⟩) ∈ aw_TB := aw_tb (List.mem_append_right _ (List.mem_append_right _ (List.mem_append_right _ (List.mem_append_left _ (List.mem_of_getElem? (i := 157) rfl))))) rfl
theorem wT_3_158 : (Cond.codeWith ⟨"ScopeTreeLaw", "isA", "(LScopeTree;II[J)I"⟩ method_14_code 5 (some .int) [(0, 17, 20, 53)]) ∈ aw_TB := aw_tb (List.mem_append_right _ (List.mem_append_right _ (List.mem_append_right _ (List.mem_append_left _ (List.mem_of_getElem? (i := 158) rfl))))) rfl
theorem wT_3_159 : (Cond.methodLink "ScopeTreeLaw" 58 ⟨"ScopeTree", "isA", "(II)Z"⟩) ∈ aw_TB := aw_tb (List.mem_append_right _ (List.mem_append_right _ (List.mem_append_right _ (List.mem_append_left _ (List.mem_of_getElem? (i := 159) rfl))))) rfl
theorem wT_3_160 : (Cond.instanceMethod ⟨"ScopeTree", "isA", "(II)Z"⟩) ∈ aw_TB := aw_tb (List.mem_append_right _ (List.mem_append_right _ (List.mem_append_right _ (List.mem_append_left _ (List.mem_of_getElem? (i := 160) rfl))))) rfl
theorem wT_3_161 : (Cond.selects "ScopeTree" ⟨"ScopeTree", "isA", "(II)Z"⟩ ⟨"ScopeTree", "isA", "(II)Z"⟩) ∈ aw_TB := aw_tb (List.mem_append_right _ (List.mem_append_right _ (List.mem_append_right _ (List.mem_append_left _ (List.mem_of_getElem? (i := 161) rfl))))) rfl
theorem wT_3_162 : (Cond.code ⟨"ScopeTree", "isA", "(II)Z"⟩ prog_1_method_14_code 3 (some .boolean)) ∈ aw_TB := aw_tb (List.mem_append_right _ (List.mem_append_right _ (List.mem_append_right _ (List.mem_append_left _ (List.mem_of_getElem? (i := 162) rfl))))) rfl
theorem wT_3_163 : (Cond.methodLink "ScopeTree" 251 ⟨"ScopeTree", "isSubtype", "(LScopeTree$Type;LScopeTree$Type;)Z"⟩) ∈ aw_TB := aw_tb (List.mem_append_right _ (List.mem_append_right _ (List.mem_append_right _ (List.mem_append_left _ (List.mem_of_getElem? (i := 163) rfl))))) rfl
theorem wT_3_164 : (Cond.static ⟨"ScopeTree", "isSubtype", "(LScopeTree$Type;LScopeTree$Type;)Z"⟩) ∈ aw_TB := aw_tb (List.mem_append_right _ (List.mem_append_right _ (List.mem_append_right _ (List.mem_append_left _ (List.mem_of_getElem? (i := 164) rfl))))) rfl
theorem wT_3_165 : (Cond.code ⟨"ScopeTree", "isSubtype", "(LScopeTree$Type;LScopeTree$Type;)Z"⟩ prog_1_method_37_code 3 (some .boolean)) ∈ aw_TB := aw_tb (List.mem_append_right _ (List.mem_append_right _ (List.mem_append_right _ (List.mem_append_left _ (List.mem_of_getElem? (i := 165) rfl))))) rfl
theorem wT_3_166 : (Cond.methodLink "ScopeTreeLaw" 128 ⟨"ScopeTreeLaw", "apply", "(LScopeTree;II[J)I"⟩) ∈ aw_TB := aw_tb (List.mem_append_right _ (List.mem_append_right _ (List.mem_append_right _ (List.mem_append_left _ (List.mem_of_getElem? (i := 166) rfl))))) rfl
theorem wT_3_167 : (Cond.static ⟨"ScopeTreeLaw", "apply", "(LScopeTree;II[J)I"⟩) ∈ aw_TB := aw_tb (List.mem_append_right _ (List.mem_append_right _ (List.mem_append_right _ (List.mem_append_left _ (List.mem_of_getElem? (i := 167) rfl))))) rfl
theorem wT_3_168 : (Cond.codeWith ⟨"ScopeTreeLaw", "apply", "(LScopeTree;II[J)I"⟩ method_15_code 5 (some .int) [(0, 10, 13, 13), (0, 10, 17, 15), (0, 10, 21, 53), (0, 10, 25, 40)]) ∈ aw_TB := aw_tb (List.mem_append_right _ (List.mem_append_right _ (List.mem_append_right _ (List.mem_append_left _ (List.mem_of_getElem? (i := 168) rfl))))) rfl
theorem wT_3_169 : (Cond.methodLink "ScopeTreeLaw" 62 ⟨"ScopeTree", "apply", "(II)I"⟩) ∈ aw_TB := aw_tb (List.mem_append_right _ (List.mem_append_right _ (List.mem_append_right _ (List.mem_append_left _ (List.mem_of_getElem? (i := 169) rfl))))) rfl
theorem wT_3_170 : (Cond.instanceMethod ⟨"ScopeTree", "apply", "(II)I"⟩) ∈ aw_TB := aw_tb (List.mem_append_right _ (List.mem_append_right _ (List.mem_append_right _ (List.mem_append_left _ (List.mem_of_getElem? (i := 170) rfl))))) rfl
theorem wT_3_171 : (Cond.selects "ScopeTree" ⟨"ScopeTree", "apply", "(II)I"⟩ ⟨"ScopeTree", "apply", "(II)I"⟩) ∈ aw_TB := aw_tb (List.mem_append_right _ (List.mem_append_right _ (List.mem_append_right _ (List.mem_append_left _ (List.mem_of_getElem? (i := 171) rfl))))) rfl
theorem wT_3_172 : (Cond.code ⟨"ScopeTree", "apply", "(II)I"⟩ prog_1_method_15_code 6 (some .int)) ∈ aw_TB := aw_tb (List.mem_append_right _ (List.mem_append_right _ (List.mem_append_right _ (List.mem_append_left _ (List.mem_of_getElem? (i := 172) rfl))))) rfl
theorem wT_3_174 : (Cond.methodLink "ScopeTree" 257 ⟨"ScopeTree", "visibleDescriptor", "(LScopeTree$Loader;I)LScopeTree$Descriptor;"⟩) ∈ aw_TB := aw_tb (List.mem_append_right _ (List.mem_append_right _ (List.mem_append_right _ (List.mem_append_left _ (List.mem_of_getElem? (i := 174) rfl))))) rfl
theorem wT_3_175 : (Cond.static ⟨"ScopeTree", "visibleDescriptor", "(LScopeTree$Loader;I)LScopeTree$Descriptor;"⟩) ∈ aw_TB := aw_tb (List.mem_append_right _ (List.mem_append_right _ (List.mem_append_right _ (List.mem_append_left _ (List.mem_of_getElem? (i := 175) rfl))))) rfl
theorem wT_3_176 : (Cond.code ⟨"ScopeTree", "visibleDescriptor", "(LScopeTree$Loader;I)LScopeTree$Descriptor;"⟩ prog_1_method_38_code 4 (some (.object "ScopeTree$Descriptor"))) ∈ aw_TB := aw_tb (List.mem_append_right _ (List.mem_append_right _ (List.mem_append_right _ (List.mem_append_left _ (List.mem_of_getElem? (i := 176) rfl))))) rfl
theorem wN_3_177 : (Cond.methodLinkNest "ScopeTree" 357 ⟨"ScopeTree$Loader", "descriptorOf", "(I)LScopeTree$Descriptor;"⟩ "ScopeTree") ∈ aw_NB := aw_nb (List.mem_append_right _ (List.mem_append_right _ (List.mem_append_right _ (List.mem_append_left _ (List.mem_of_getElem? (i := 177) rfl))))) rfl
theorem wT_3_179 : (Cond.instanceMethod ⟨"ScopeTree$Loader", "descriptorOf", "(I)LScopeTree$Descriptor;"⟩) ∈ aw_TB := aw_tb (List.mem_append_right _ (List.mem_append_right _ (List.mem_append_right _ (List.mem_append_left _ (List.mem_of_getElem? (i := 179) rfl))))) rfl
theorem wT_3_180 : (Cond.code ⟨"ScopeTree$Loader", "descriptorOf", "(I)LScopeTree$Descriptor;"⟩ prog_6_method_3_code 4 (some (.object "ScopeTree$Descriptor"))) ∈ aw_TB := aw_tb (List.mem_append_right _ (List.mem_append_right _ (List.mem_append_right _ (List.mem_append_left _ (List.mem_of_getElem? (i := 180) rfl))))) rfl
theorem wN_3_181 : (Cond.methodLinkNest "ScopeTree$Loader" 34 ⟨"ScopeTree$Archive", "descriptorOf", "(I)LScopeTree$Descriptor;"⟩ "ScopeTree") ∈ aw_NB := aw_nb (List.mem_append_right _ (List.mem_append_right _ (List.mem_append_right _ (List.mem_append_left _ (List.mem_of_getElem? (i := 181) rfl))))) rfl
theorem wT_3_182 : (Cond.methodLink "ScopeTree" 361 ⟨"ScopeTree", "isLetThrough", "(LScopeTree$Loader;LScopeTree$Loader;I)Z"⟩) ∈ aw_TB := aw_tb (List.mem_append_right _ (List.mem_append_right _ (List.mem_append_right _ (List.mem_append_left _ (List.mem_of_getElem? (i := 182) rfl))))) rfl
theorem wT_3_183 : (Cond.static ⟨"ScopeTree", "isLetThrough", "(LScopeTree$Loader;LScopeTree$Loader;I)Z"⟩) ∈ aw_TB := aw_tb (List.mem_append_right _ (List.mem_append_right _ (List.mem_append_right _ (List.mem_append_left _ (List.mem_of_getElem? (i := 183) rfl))))) rfl
theorem wT_3_184 : (Cond.code ⟨"ScopeTree", "isLetThrough", "(LScopeTree$Loader;LScopeTree$Loader;I)Z"⟩ prog_1_method_39_code 4 (some .boolean)) ∈ aw_TB := aw_tb (List.mem_append_right _ (List.mem_append_right _ (List.mem_append_right _ (List.mem_append_left _ (List.mem_of_getElem? (i := 184) rfl))))) rfl
theorem wN_3_185 : (Cond.methodLinkNest "ScopeTree" 262 ⟨"ScopeTree$Scope", "hasApplied", "(LScopeTree$Type;)Z"⟩ "ScopeTree") ∈ aw_NB := aw_nb (List.mem_append_right _ (List.mem_append_right _ (List.mem_append_right _ (List.mem_append_left _ (List.mem_of_getElem? (i := 185) rfl))))) rfl
theorem wT_3_187 : (Cond.instanceMethod ⟨"ScopeTree$Scope", "hasApplied", "(LScopeTree$Type;)Z"⟩) ∈ aw_TB := aw_tb (List.mem_append_right _ (List.mem_append_right _ (List.mem_append_right _ (List.mem_append_left _ (List.mem_of_getElem? (i := 187) rfl))))) rfl
theorem wT_3_188 : (Cond.code ⟨"ScopeTree$Scope", "hasApplied", "(LScopeTree$Type;)Z"⟩ prog_8_method_2_code 3 (some .boolean)) ∈ aw_TB := aw_tb (List.mem_append_right _ (List.mem_append_right _ (List.mem_append_right _ (List.mem_append_left _ (List.mem_of_getElem? (i := 188) rfl))))) rfl
theorem wN_3_189 : (Cond.methodLinkNest "ScopeTree" 266 ⟨"ScopeTree$Scope", "appendApplied", "(LScopeTree$Type;)Z"⟩ "ScopeTree") ∈ aw_NB := aw_nb (List.mem_append_right _ (List.mem_append_right _ (List.mem_append_right _ (List.mem_append_left _ (List.mem_of_getElem? (i := 189) rfl))))) rfl
theorem wT_3_191 : (Cond.instanceMethod ⟨"ScopeTree$Scope", "appendApplied", "(LScopeTree$Type;)Z"⟩) ∈ aw_TB := aw_tb (List.mem_append_right _ (List.mem_append_right _ (List.mem_append_right _ (List.mem_append_left _ (List.mem_of_getElem? (i := 191) rfl))))) rfl
theorem wT_3_192 : (Cond.code ⟨"ScopeTree$Scope", "appendApplied", "(LScopeTree$Type;)Z"⟩ prog_8_method_3_code 2 (some .boolean)) ∈ aw_TB := aw_tb (List.mem_append_right _ (List.mem_append_right _ (List.mem_append_right _ (List.mem_append_left _ (List.mem_of_getElem? (i := 192) rfl))))) rfl
theorem wT_3_193 : (Cond.methodLink "ScopeTreeLaw" 131 ⟨"ScopeTreeLaw", "applied", "(LScopeTree;II[J)I"⟩) ∈ aw_TB := aw_tb (List.mem_append_right _ (List.mem_append_right _ (List.mem_append_right _ (List.mem_append_left _ (List.mem_of_getElem? (i := 193) rfl))))) rfl
theorem wT_3_194 : (Cond.static ⟨"ScopeTreeLaw", "applied", "(LScopeTree;II[J)I"⟩) ∈ aw_TB := aw_tb (List.mem_append_right _ (List.mem_append_right _ (List.mem_append_right _ (List.mem_append_left _ (List.mem_of_getElem? (i := 194) rfl))))) rfl
theorem wT_3_195 : (Cond.codeWith ⟨"ScopeTreeLaw", "applied", "(LScopeTree;II[J)I"⟩ method_16_code 5 (some .int) [(0, 10, 13, 13)]) ∈ aw_TB := aw_tb (List.mem_append_right _ (List.mem_append_right _ (List.mem_append_right _ (List.mem_append_left _ (List.mem_of_getElem? (i := 195) rfl))))) rfl
theorem wT_3_196 : (Cond.methodLink "ScopeTreeLaw" 65 ⟨"ScopeTree", "applied", "(II)I"⟩) ∈ aw_TB := aw_tb (List.mem_append_right _ (List.mem_append_right _ (List.mem_append_right _ (List.mem_append_left _ (List.mem_of_getElem? (i := 196) rfl))))) rfl
theorem wT_3_197 : (Cond.instanceMethod ⟨"ScopeTree", "applied", "(II)I"⟩) ∈ aw_TB := aw_tb (List.mem_append_right _ (List.mem_append_right _ (List.mem_append_right _ (List.mem_append_left _ (List.mem_of_getElem? (i := 197) rfl))))) rfl
theorem wT_3_198 : (Cond.selects "ScopeTree" ⟨"ScopeTree", "applied", "(II)I"⟩ ⟨"ScopeTree", "applied", "(II)I"⟩) ∈ aw_TB := aw_tb (List.mem_append_right _ (List.mem_append_right _ (List.mem_append_right _ (List.mem_append_left _ (List.mem_of_getElem? (i := 198) rfl))))) rfl
theorem wT_3_199 : (Cond.code ⟨"ScopeTree", "applied", "(II)I"⟩ prog_1_method_16_code 4 (some .int)) ∈ aw_TB := aw_tb (List.mem_append_right _ (List.mem_append_right _ (List.mem_append_right _ (List.mem_append_left _ (List.mem_of_getElem? (i := 199) rfl))))) rfl
theorem wT_3_200 : (Cond.classLink "ScopeTreeLaw" 69 "ScopeTreeModel") ∈ aw_TB := aw_tb (List.mem_append_right _ (List.mem_append_right _ (List.mem_append_right _ (List.mem_append_left _ (List.mem_of_getElem? (i := 200) rfl))))) rfl
theorem wT_3_201 : (Cond.instantiable "ScopeTreeModel" 33) ∈ aw_TB := aw_tb (List.mem_append_right _ (List.mem_append_right _ (List.mem_append_right _ (List.mem_append_left _ (List.mem_of_getElem? (i := 201) rfl))))) rfl
theorem wT_3_202 : (Cond.methodLink "ScopeTreeLaw" 71 ⟨"ScopeTreeModel", "<init>", "()V"⟩) ∈ aw_TB := aw_tb (List.mem_append_right _ (List.mem_append_right _ (List.mem_append_right _ (List.mem_append_left _ (List.mem_of_getElem? (i := 202) rfl))))) rfl
theorem wT_3_203 : (Cond.instanceMethod ⟨"ScopeTreeModel", "<init>", "()V"⟩) ∈ aw_TB := aw_tb (List.mem_append_right _ (List.mem_append_right _ (List.mem_append_right _ (List.mem_append_left _ (List.mem_of_getElem? (i := 203) rfl))))) rfl
theorem wT_3_204 : (Cond.code ⟨"ScopeTreeModel", "<init>", "()V"⟩ prog_12_method_1_code 2 none) ∈ aw_TB := aw_tb (List.mem_append_right _ (List.mem_append_right _ (List.mem_append_right _ (List.mem_append_left _ (List.mem_of_getElem? (i := 204) rfl))))) rfl
theorem wT_3_205 : (Cond.methodLink "ScopeTreeModel" 1 ⟨"java/lang/Object", "<init>", "()V"⟩) ∈ aw_TB := aw_tb (List.mem_append_right _ (List.mem_append_right _ (List.mem_append_right _ (List.mem_append_left _ (List.mem_of_getElem? (i := 205) rfl))))) rfl
theorem wT_3_206 : (Cond.fieldLink "ScopeTreeModel" 103 "ScopeTreeModel" "thrown" "I") ∈ aw_TB := aw_tb (List.mem_append_right _ (List.mem_append_right _ (List.mem_append_right _ (List.mem_append_left _ (List.mem_of_getElem? (i := 206) rfl))))) rfl
theorem wT_3_207 : (Cond.fieldLink "ScopeTreeModel" 7 "ScopeTreeModel" "files" "[I") ∈ aw_TB := aw_tb (List.mem_append_right _ (List.mem_append_right _ (List.mem_append_right _ (List.mem_append_left _ (List.mem_of_getElem? (i := 207) rfl))))) rfl
theorem wT_3_208 : (Cond.fieldLink "ScopeTreeModel" 13 "ScopeTreeModel" "file" "[I") ∈ aw_TB := aw_tb (List.mem_append_right _ (List.mem_append_right _ (List.mem_append_right _ (List.mem_append_left _ (List.mem_of_getElem? (i := 208) rfl))))) rfl
theorem wT_3_209 : (Cond.fieldLink "ScopeTreeModel" 16 "ScopeTreeModel" "descriptors" "[I") ∈ aw_TB := aw_tb (List.mem_append_right _ (List.mem_append_right _ (List.mem_append_right _ (List.mem_append_left _ (List.mem_of_getElem? (i := 209) rfl))))) rfl
theorem wT_3_210 : (Cond.fieldLink "ScopeTreeModel" 19 "ScopeTreeModel" "descriptor" "[I") ∈ aw_TB := aw_tb (List.mem_append_right _ (List.mem_append_right _ (List.mem_append_right _ (List.mem_append_left _ (List.mem_of_getElem? (i := 210) rfl))))) rfl
theorem wT_3_211 : (Cond.fieldLink "ScopeTreeModel" 22 "ScopeTreeModel" "there" "[Z") ∈ aw_TB := aw_tb (List.mem_append_right _ (List.mem_append_right _ (List.mem_append_right _ (List.mem_append_left _ (List.mem_of_getElem? (i := 211) rfl))))) rfl
theorem wT_3_212 : (Cond.fieldLink "ScopeTreeModel" 26 "ScopeTreeModel" "kind" "[I") ∈ aw_TB := aw_tb (List.mem_append_right _ (List.mem_append_right _ (List.mem_append_right _ (List.mem_append_left _ (List.mem_of_getElem? (i := 212) rfl))))) rfl
theorem wT_3_213 : (Cond.fieldLink "ScopeTreeModel" 29 "ScopeTreeModel" "parent" "[I") ∈ aw_TB := aw_tb (List.mem_append_right _ (List.mem_append_right _ (List.mem_append_right _ (List.mem_append_left _ (List.mem_of_getElem? (i := 213) rfl))))) rfl
theorem wT_3_214 : (Cond.fieldLink "ScopeTreeModel" 32 "ScopeTreeModel" "pathLength" "[I") ∈ aw_TB := aw_tb (List.mem_append_right _ (List.mem_append_right _ (List.mem_append_right _ (List.mem_append_left _ (List.mem_of_getElem? (i := 214) rfl))))) rfl
theorem wT_3_215 : (Cond.fieldLink "ScopeTreeModel" 35 "ScopeTreeModel" "filterPackages" "[I") ∈ aw_TB := aw_tb (List.mem_append_right _ (List.mem_append_right _ (List.mem_append_right _ (List.mem_append_left _ (List.mem_of_getElem? (i := 215) rfl))))) rfl
theorem wT_3_216 : (Cond.fieldLink "ScopeTreeModel" 38 "ScopeTreeModel" "filterAllowed" "[J") ∈ aw_TB := aw_tb (List.mem_append_right _ (List.mem_append_right _ (List.mem_append_right _ (List.mem_append_left _ (List.mem_of_getElem? (i := 216) rfl))))) rfl
theorem wT_3_217 : (Cond.fieldLink "ScopeTreeModel" 42 "ScopeTreeModel" "filterDenied" "[J") ∈ aw_TB := aw_tb (List.mem_append_right _ (List.mem_append_right _ (List.mem_append_right _ (List.mem_append_left _ (List.mem_of_getElem? (i := 217) rfl))))) rfl
theorem wT_3_218 : (Cond.fieldLink "ScopeTreeModel" 45 "ScopeTreeModel" "scopes" "I") ∈ aw_TB := aw_tb (List.mem_append_right _ (List.mem_append_right _ (List.mem_append_right _ (List.mem_append_left _ (List.mem_of_getElem? (i := 218) rfl))))) rfl
theorem wT_3_219 : (Cond.fieldLink "ScopeTreeModel" 49 "ScopeTreeModel" "state" "[I") ∈ aw_TB := aw_tb (List.mem_append_right _ (List.mem_append_right _ (List.mem_append_right _ (List.mem_append_left _ (List.mem_of_getElem? (i := 219) rfl))))) rfl
theorem wT_3_220 : (Cond.fieldLink "ScopeTreeModel" 52 "ScopeTreeModel" "above" "[I") ∈ aw_TB := aw_tb (List.mem_append_right _ (List.mem_append_right _ (List.mem_append_right _ (List.mem_append_left _ (List.mem_of_getElem? (i := 220) rfl))))) rfl
theorem wT_3_221 : (Cond.fieldLink "ScopeTreeModel" 55 "ScopeTreeModel" "paths" "[I") ∈ aw_TB := aw_tb (List.mem_append_right _ (List.mem_append_right _ (List.mem_append_right _ (List.mem_append_left _ (List.mem_of_getElem? (i := 221) rfl))))) rfl
theorem wT_3_222 : (Cond.fieldLink "ScopeTreeModel" 58 "ScopeTreeModel" "lengths" "[I") ∈ aw_TB := aw_tb (List.mem_append_right _ (List.mem_append_right _ (List.mem_append_right _ (List.mem_append_left _ (List.mem_of_getElem? (i := 222) rfl))))) rfl
theorem wT_3_223 : (Cond.fieldLink "ScopeTreeModel" 61 "ScopeTreeModel" "filtered" "[Z") ∈ aw_TB := aw_tb (List.mem_append_right _ (List.mem_append_right _ (List.mem_append_right _ (List.mem_append_left _ (List.mem_of_getElem? (i := 223) rfl))))) rfl
theorem wT_3_224 : (Cond.fieldLink "ScopeTreeModel" 64 "ScopeTreeModel" "packages" "[I") ∈ aw_TB := aw_tb (List.mem_append_right _ (List.mem_append_right _ (List.mem_append_right _ (List.mem_append_left _ (List.mem_of_getElem? (i := 224) rfl))))) rfl
theorem wT_3_225 : (Cond.fieldLink "ScopeTreeModel" 67 "ScopeTreeModel" "allowed" "[J") ∈ aw_TB := aw_tb (List.mem_append_right _ (List.mem_append_right _ (List.mem_append_right _ (List.mem_append_left _ (List.mem_of_getElem? (i := 225) rfl))))) rfl
theorem wT_3_226 : (Cond.fieldLink "ScopeTreeModel" 70 "ScopeTreeModel" "denied" "[J") ∈ aw_TB := aw_tb (List.mem_append_right _ (List.mem_append_right _ (List.mem_append_right _ (List.mem_append_left _ (List.mem_of_getElem? (i := 226) rfl))))) rfl
theorem wT_3_227 : (Cond.fieldLink "ScopeTreeModel" 73 "ScopeTreeModel" "three" "[I") ∈ aw_TB := aw_tb (List.mem_append_right _ (List.mem_append_right _ (List.mem_append_right _ (List.mem_append_left _ (List.mem_of_getElem? (i := 227) rfl))))) rfl
theorem wT_3_228 : (Cond.fieldLink "ScopeTreeModel" 76 "ScopeTreeModel" "applied" "[I") ∈ aw_TB := aw_tb (List.mem_append_right _ (List.mem_append_right _ (List.mem_append_right _ (List.mem_append_left _ (List.mem_of_getElem? (i := 228) rfl))))) rfl
theorem wT_3_229 : (Cond.fieldLink "ScopeTreeModel" 79 "ScopeTreeModel" "appliedCount" "[I") ∈ aw_TB := aw_tb (List.mem_append_right _ (List.mem_append_right _ (List.mem_append_right _ (List.mem_append_left _ (List.mem_of_getElem? (i := 229) rfl))))) rfl
theorem wT_3_230 : (Cond.fieldLink "ScopeTreeModel" 82 "ScopeTreeModel" "classes" "I") ∈ aw_TB := aw_tb (List.mem_append_right _ (List.mem_append_right _ (List.mem_append_right _ (List.mem_append_left _ (List.mem_of_getElem? (i := 230) rfl))))) rfl
theorem wT_3_231 : (Cond.fieldLink "ScopeTreeModel" 85 "ScopeTreeModel" "nameOf" "[I") ∈ aw_TB := aw_tb (List.mem_append_right _ (List.mem_append_right _ (List.mem_append_right _ (List.mem_append_left _ (List.mem_of_getElem? (i := 231) rfl))))) rfl
theorem wT_3_232 : (Cond.fieldLink "ScopeTreeModel" 88 "ScopeTreeModel" "loaderOf" "[I") ∈ aw_TB := aw_tb (List.mem_append_right _ (List.mem_append_right _ (List.mem_append_right _ (List.mem_append_left _ (List.mem_of_getElem? (i := 232) rfl))))) rfl
theorem wT_3_233 : (Cond.fieldLink "ScopeTreeModel" 91 "ScopeTreeModel" "versionOf" "[I") ∈ aw_TB := aw_tb (List.mem_append_right _ (List.mem_append_right _ (List.mem_append_right _ (List.mem_append_left _ (List.mem_of_getElem? (i := 233) rfl))))) rfl
theorem wT_3_234 : (Cond.fieldLink "ScopeTreeModel" 94 "ScopeTreeModel" "superOf" "[I") ∈ aw_TB := aw_tb (List.mem_append_right _ (List.mem_append_right _ (List.mem_append_right _ (List.mem_append_left _ (List.mem_of_getElem? (i := 234) rfl))))) rfl
theorem wT_3_235 : (Cond.fieldLink "ScopeTreeModel" 163 "ScopeTreeModel" "foundLoader" "I") ∈ aw_TB := aw_tb (List.mem_append_right _ (List.mem_append_right _ (List.mem_append_right _ (List.mem_append_left _ (List.mem_of_getElem? (i := 235) rfl))))) rfl
theorem wT_3_236 : (Cond.fieldLink "ScopeTreeModel" 157 "ScopeTreeModel" "foundFile" "I") ∈ aw_TB := aw_tb (List.mem_append_right _ (List.mem_append_right _ (List.mem_append_right _ (List.mem_append_left _ (List.mem_of_getElem? (i := 236) rfl))))) rfl
theorem wT_3_237 : (Cond.fieldLink "ScopeTreeModel" 97 "ScopeTreeModel" "waitingLoader" "[I") ∈ aw_TB := aw_tb (List.mem_append_right _ (List.mem_append_right _ (List.mem_append_right _ (List.mem_append_left _ (List.mem_of_getElem? (i := 237) rfl))))) rfl
theorem wT_3_238 : (Cond.fieldLink "ScopeTreeModel" 100 "ScopeTreeModel" "waitingFile" "[I") ∈ aw_TB := aw_tb (List.mem_append_right _ (List.mem_append_right _ (List.mem_append_right _ (List.mem_append_left _ (List.mem_of_getElem? (i := 238) rfl))))) rfl
theorem wT_3_239 : (Cond.lays "ScopeTreeModel" "ScopeTreeModel" "thrown" "I") ∈ aw_TB := aw_tb (List.mem_append_right _ (List.mem_append_right _ (List.mem_append_right _ (List.mem_append_left _ (List.mem_of_getElem? (i := 239) rfl))))) rfl
theorem wT_4_0 : (Cond.soleField "ScopeTreeModel" "thrown") ∈ aw_TB := aw_tb (List.mem_append_right _ (List.mem_append_right _ (List.mem_append_right _ (List.mem_append_right _ (List.mem_of_getElem? (i := 0) rfl))))) rfl
theorem wT_4_1 : (Cond.laysFinal "ScopeTreeModel" "ScopeTreeModel" "files" "[I") ∈ aw_TB := aw_tb (List.mem_append_right _ (List.mem_append_right _ (List.mem_append_right _ (List.mem_append_right _ (List.mem_of_getElem? (i := 1) rfl))))) rfl
theorem wT_4_2 : (Cond.soleField "ScopeTreeModel" "files") ∈ aw_TB := aw_tb (List.mem_append_right _ (List.mem_append_right _ (List.mem_append_right _ (List.mem_append_right _ (List.mem_of_getElem? (i := 2) rfl))))) rfl
theorem wT_4_3 : (Cond.laysFinal "ScopeTreeModel" "ScopeTreeModel" "file" "[I") ∈ aw_TB := aw_tb (List.mem_append_right _ (List.mem_append_right _ (List.mem_append_right _ (List.mem_append_right _ (List.mem_of_getElem? (i := 3) rfl))))) rfl
theorem wT_4_4 : (Cond.soleField "ScopeTreeModel" "file") ∈ aw_TB := aw_tb (List.mem_append_right _ (List.mem_append_right _ (List.mem_append_right _ (List.mem_append_right _ (List.mem_of_getElem? (i := 4) rfl))))) rfl
theorem wT_4_5 : (Cond.laysFinal "ScopeTreeModel" "ScopeTreeModel" "descriptors" "[I") ∈ aw_TB := aw_tb (List.mem_append_right _ (List.mem_append_right _ (List.mem_append_right _ (List.mem_append_right _ (List.mem_of_getElem? (i := 5) rfl))))) rfl
theorem wT_4_6 : (Cond.soleField "ScopeTreeModel" "descriptors") ∈ aw_TB := aw_tb (List.mem_append_right _ (List.mem_append_right _ (List.mem_append_right _ (List.mem_append_right _ (List.mem_of_getElem? (i := 6) rfl))))) rfl
theorem wT_4_7 : (Cond.laysFinal "ScopeTreeModel" "ScopeTreeModel" "descriptor" "[I") ∈ aw_TB := aw_tb (List.mem_append_right _ (List.mem_append_right _ (List.mem_append_right _ (List.mem_append_right _ (List.mem_of_getElem? (i := 7) rfl))))) rfl
theorem wT_4_8 : (Cond.soleField "ScopeTreeModel" "descriptor") ∈ aw_TB := aw_tb (List.mem_append_right _ (List.mem_append_right _ (List.mem_append_right _ (List.mem_append_right _ (List.mem_of_getElem? (i := 8) rfl))))) rfl
theorem wT_4_9 : (Cond.laysFinal "ScopeTreeModel" "ScopeTreeModel" "there" "[Z") ∈ aw_TB := aw_tb (List.mem_append_right _ (List.mem_append_right _ (List.mem_append_right _ (List.mem_append_right _ (List.mem_of_getElem? (i := 9) rfl))))) rfl
theorem wT_4_10 : (Cond.soleField "ScopeTreeModel" "there") ∈ aw_TB := aw_tb (List.mem_append_right _ (List.mem_append_right _ (List.mem_append_right _ (List.mem_append_right _ (List.mem_of_getElem? (i := 10) rfl))))) rfl
theorem wT_4_11 : (Cond.laysFinal "ScopeTreeModel" "ScopeTreeModel" "kind" "[I") ∈ aw_TB := aw_tb (List.mem_append_right _ (List.mem_append_right _ (List.mem_append_right _ (List.mem_append_right _ (List.mem_of_getElem? (i := 11) rfl))))) rfl
theorem wT_4_12 : (Cond.soleField "ScopeTreeModel" "kind") ∈ aw_TB := aw_tb (List.mem_append_right _ (List.mem_append_right _ (List.mem_append_right _ (List.mem_append_right _ (List.mem_of_getElem? (i := 12) rfl))))) rfl
theorem wT_4_13 : (Cond.laysFinal "ScopeTreeModel" "ScopeTreeModel" "parent" "[I") ∈ aw_TB := aw_tb (List.mem_append_right _ (List.mem_append_right _ (List.mem_append_right _ (List.mem_append_right _ (List.mem_of_getElem? (i := 13) rfl))))) rfl
theorem wT_4_14 : (Cond.soleField "ScopeTreeModel" "parent") ∈ aw_TB := aw_tb (List.mem_append_right _ (List.mem_append_right _ (List.mem_append_right _ (List.mem_append_right _ (List.mem_of_getElem? (i := 14) rfl))))) rfl
theorem wT_4_15 : (Cond.laysFinal "ScopeTreeModel" "ScopeTreeModel" "pathLength" "[I") ∈ aw_TB := aw_tb (List.mem_append_right _ (List.mem_append_right _ (List.mem_append_right _ (List.mem_append_right _ (List.mem_of_getElem? (i := 15) rfl))))) rfl
theorem wT_4_16 : (Cond.soleField "ScopeTreeModel" "pathLength") ∈ aw_TB := aw_tb (List.mem_append_right _ (List.mem_append_right _ (List.mem_append_right _ (List.mem_append_right _ (List.mem_of_getElem? (i := 16) rfl))))) rfl
theorem wT_4_17 : (Cond.laysFinal "ScopeTreeModel" "ScopeTreeModel" "filterPackages" "[I") ∈ aw_TB := aw_tb (List.mem_append_right _ (List.mem_append_right _ (List.mem_append_right _ (List.mem_append_right _ (List.mem_of_getElem? (i := 17) rfl))))) rfl
theorem wT_4_18 : (Cond.soleField "ScopeTreeModel" "filterPackages") ∈ aw_TB := aw_tb (List.mem_append_right _ (List.mem_append_right _ (List.mem_append_right _ (List.mem_append_right _ (List.mem_of_getElem? (i := 18) rfl))))) rfl
theorem wT_4_19 : (Cond.laysFinal "ScopeTreeModel" "ScopeTreeModel" "filterAllowed" "[J") ∈ aw_TB := aw_tb (List.mem_append_right _ (List.mem_append_right _ (List.mem_append_right _ (List.mem_append_right _ (List.mem_of_getElem? (i := 19) rfl))))) rfl
theorem wT_4_20 : (Cond.soleField "ScopeTreeModel" "filterAllowed") ∈ aw_TB := aw_tb (List.mem_append_right _ (List.mem_append_right _ (List.mem_append_right _ (List.mem_append_right _ (List.mem_of_getElem? (i := 20) rfl))))) rfl
theorem wT_4_21 : (Cond.laysFinal "ScopeTreeModel" "ScopeTreeModel" "filterDenied" "[J") ∈ aw_TB := aw_tb (List.mem_append_right _ (List.mem_append_right _ (List.mem_append_right _ (List.mem_append_right _ (List.mem_of_getElem? (i := 21) rfl))))) rfl
theorem wT_4_22 : (Cond.soleField "ScopeTreeModel" "filterDenied") ∈ aw_TB := aw_tb (List.mem_append_right _ (List.mem_append_right _ (List.mem_append_right _ (List.mem_append_right _ (List.mem_of_getElem? (i := 22) rfl))))) rfl
theorem wT_4_23 : (Cond.lays "ScopeTreeModel" "ScopeTreeModel" "scopes" "I") ∈ aw_TB := aw_tb (List.mem_append_right _ (List.mem_append_right _ (List.mem_append_right _ (List.mem_append_right _ (List.mem_of_getElem? (i := 23) rfl))))) rfl
theorem wT_4_24 : (Cond.soleField "ScopeTreeModel" "scopes") ∈ aw_TB := aw_tb (List.mem_append_right _ (List.mem_append_right _ (List.mem_append_right _ (List.mem_append_right _ (List.mem_of_getElem? (i := 24) rfl))))) rfl
theorem wT_4_25 : (Cond.laysFinal "ScopeTreeModel" "ScopeTreeModel" "state" "[I") ∈ aw_TB := aw_tb (List.mem_append_right _ (List.mem_append_right _ (List.mem_append_right _ (List.mem_append_right _ (List.mem_of_getElem? (i := 25) rfl))))) rfl
theorem wT_4_26 : (Cond.soleField "ScopeTreeModel" "state") ∈ aw_TB := aw_tb (List.mem_append_right _ (List.mem_append_right _ (List.mem_append_right _ (List.mem_append_right _ (List.mem_of_getElem? (i := 26) rfl))))) rfl
theorem wT_4_27 : (Cond.laysFinal "ScopeTreeModel" "ScopeTreeModel" "above" "[I") ∈ aw_TB := aw_tb (List.mem_append_right _ (List.mem_append_right _ (List.mem_append_right _ (List.mem_append_right _ (List.mem_of_getElem? (i := 27) rfl))))) rfl
theorem wT_4_28 : (Cond.soleField "ScopeTreeModel" "above") ∈ aw_TB := aw_tb (List.mem_append_right _ (List.mem_append_right _ (List.mem_append_right _ (List.mem_append_right _ (List.mem_of_getElem? (i := 28) rfl))))) rfl
theorem wT_4_29 : (Cond.laysFinal "ScopeTreeModel" "ScopeTreeModel" "paths" "[I") ∈ aw_TB := aw_tb (List.mem_append_right _ (List.mem_append_right _ (List.mem_append_right _ (List.mem_append_right _ (List.mem_of_getElem? (i := 29) rfl))))) rfl
theorem wT_4_30 : (Cond.soleField "ScopeTreeModel" "paths") ∈ aw_TB := aw_tb (List.mem_append_right _ (List.mem_append_right _ (List.mem_append_right _ (List.mem_append_right _ (List.mem_of_getElem? (i := 30) rfl))))) rfl
theorem wT_4_31 : (Cond.laysFinal "ScopeTreeModel" "ScopeTreeModel" "lengths" "[I") ∈ aw_TB := aw_tb (List.mem_append_right _ (List.mem_append_right _ (List.mem_append_right _ (List.mem_append_right _ (List.mem_of_getElem? (i := 31) rfl))))) rfl
theorem wT_4_32 : (Cond.soleField "ScopeTreeModel" "lengths") ∈ aw_TB := aw_tb (List.mem_append_right _ (List.mem_append_right _ (List.mem_append_right _ (List.mem_append_right _ (List.mem_of_getElem? (i := 32) rfl))))) rfl
theorem wT_4_33 : (Cond.laysFinal "ScopeTreeModel" "ScopeTreeModel" "filtered" "[Z") ∈ aw_TB := aw_tb (List.mem_append_right _ (List.mem_append_right _ (List.mem_append_right _ (List.mem_append_right _ (List.mem_of_getElem? (i := 33) rfl))))) rfl
theorem wT_4_34 : (Cond.soleField "ScopeTreeModel" "filtered") ∈ aw_TB := aw_tb (List.mem_append_right _ (List.mem_append_right _ (List.mem_append_right _ (List.mem_append_right _ (List.mem_of_getElem? (i := 34) rfl))))) rfl
theorem wT_4_35 : (Cond.laysFinal "ScopeTreeModel" "ScopeTreeModel" "packages" "[I") ∈ aw_TB := aw_tb (List.mem_append_right _ (List.mem_append_right _ (List.mem_append_right _ (List.mem_append_right _ (List.mem_of_getElem? (i := 35) rfl))))) rfl
theorem wT_4_36 : (Cond.soleField "ScopeTreeModel" "packages") ∈ aw_TB := aw_tb (List.mem_append_right _ (List.mem_append_right _ (List.mem_append_right _ (List.mem_append_right _ (List.mem_of_getElem? (i := 36) rfl))))) rfl
theorem wT_4_37 : (Cond.laysFinal "ScopeTreeModel" "ScopeTreeModel" "allowed" "[J") ∈ aw_TB := aw_tb (List.mem_append_right _ (List.mem_append_right _ (List.mem_append_right _ (List.mem_append_right _ (List.mem_of_getElem? (i := 37) rfl))))) rfl
theorem wT_4_38 : (Cond.soleField "ScopeTreeModel" "allowed") ∈ aw_TB := aw_tb (List.mem_append_right _ (List.mem_append_right _ (List.mem_append_right _ (List.mem_append_right _ (List.mem_of_getElem? (i := 38) rfl))))) rfl
theorem wT_4_39 : (Cond.laysFinal "ScopeTreeModel" "ScopeTreeModel" "denied" "[J") ∈ aw_TB := aw_tb (List.mem_append_right _ (List.mem_append_right _ (List.mem_append_right _ (List.mem_append_right _ (List.mem_of_getElem? (i := 39) rfl))))) rfl
theorem wT_4_40 : (Cond.soleField "ScopeTreeModel" "denied") ∈ aw_TB := aw_tb (List.mem_append_right _ (List.mem_append_right _ (List.mem_append_right _ (List.mem_append_right _ (List.mem_of_getElem? (i := 40) rfl))))) rfl
theorem wT_4_41 : (Cond.laysFinal "ScopeTreeModel" "ScopeTreeModel" "three" "[I") ∈ aw_TB := aw_tb (List.mem_append_right _ (List.mem_append_right _ (List.mem_append_right _ (List.mem_append_right _ (List.mem_of_getElem? (i := 41) rfl))))) rfl
theorem wT_4_42 : (Cond.soleField "ScopeTreeModel" "three") ∈ aw_TB := aw_tb (List.mem_append_right _ (List.mem_append_right _ (List.mem_append_right _ (List.mem_append_right _ (List.mem_of_getElem? (i := 42) rfl))))) rfl
theorem wT_4_43 : (Cond.laysFinal "ScopeTreeModel" "ScopeTreeModel" "applied" "[I") ∈ aw_TB := aw_tb (List.mem_append_right _ (List.mem_append_right _ (List.mem_append_right _ (List.mem_append_right _ (List.mem_of_getElem? (i := 43) rfl))))) rfl
theorem wT_4_44 : (Cond.soleField "ScopeTreeModel" "applied") ∈ aw_TB := aw_tb (List.mem_append_right _ (List.mem_append_right _ (List.mem_append_right _ (List.mem_append_right _ (List.mem_of_getElem? (i := 44) rfl))))) rfl
theorem wT_4_45 : (Cond.laysFinal "ScopeTreeModel" "ScopeTreeModel" "appliedCount" "[I") ∈ aw_TB := aw_tb (List.mem_append_right _ (List.mem_append_right _ (List.mem_append_right _ (List.mem_append_right _ (List.mem_of_getElem? (i := 45) rfl))))) rfl
theorem wT_4_46 : (Cond.soleField "ScopeTreeModel" "appliedCount") ∈ aw_TB := aw_tb (List.mem_append_right _ (List.mem_append_right _ (List.mem_append_right _ (List.mem_append_right _ (List.mem_of_getElem? (i := 46) rfl))))) rfl
theorem wT_4_47 : (Cond.lays "ScopeTreeModel" "ScopeTreeModel" "classes" "I") ∈ aw_TB := aw_tb (List.mem_append_right _ (List.mem_append_right _ (List.mem_append_right _ (List.mem_append_right _ (List.mem_of_getElem? (i := 47) rfl))))) rfl
theorem wT_4_48 : (Cond.soleField "ScopeTreeModel" "classes") ∈ aw_TB := aw_tb (List.mem_append_right _ (List.mem_append_right _ (List.mem_append_right _ (List.mem_append_right _ (List.mem_of_getElem? (i := 48) rfl))))) rfl
theorem wT_4_49 : (Cond.laysFinal "ScopeTreeModel" "ScopeTreeModel" "nameOf" "[I") ∈ aw_TB := aw_tb (List.mem_append_right _ (List.mem_append_right _ (List.mem_append_right _ (List.mem_append_right _ (List.mem_of_getElem? (i := 49) rfl))))) rfl
theorem wT_4_50 : (Cond.soleField "ScopeTreeModel" "nameOf") ∈ aw_TB := aw_tb (List.mem_append_right _ (List.mem_append_right _ (List.mem_append_right _ (List.mem_append_right _ (List.mem_of_getElem? (i := 50) rfl))))) rfl
theorem wT_4_51 : (Cond.laysFinal "ScopeTreeModel" "ScopeTreeModel" "loaderOf" "[I") ∈ aw_TB := aw_tb (List.mem_append_right _ (List.mem_append_right _ (List.mem_append_right _ (List.mem_append_right _ (List.mem_of_getElem? (i := 51) rfl))))) rfl
theorem wT_4_52 : (Cond.soleField "ScopeTreeModel" "loaderOf") ∈ aw_TB := aw_tb (List.mem_append_right _ (List.mem_append_right _ (List.mem_append_right _ (List.mem_append_right _ (List.mem_of_getElem? (i := 52) rfl))))) rfl
theorem wT_4_53 : (Cond.laysFinal "ScopeTreeModel" "ScopeTreeModel" "versionOf" "[I") ∈ aw_TB := aw_tb (List.mem_append_right _ (List.mem_append_right _ (List.mem_append_right _ (List.mem_append_right _ (List.mem_of_getElem? (i := 53) rfl))))) rfl
theorem wT_4_54 : (Cond.soleField "ScopeTreeModel" "versionOf") ∈ aw_TB := aw_tb (List.mem_append_right _ (List.mem_append_right _ (List.mem_append_right _ (List.mem_append_right _ (List.mem_of_getElem? (i := 54) rfl))))) rfl
theorem wT_4_55 : (Cond.laysFinal "ScopeTreeModel" "ScopeTreeModel" "superOf" "[I") ∈ aw_TB := aw_tb (List.mem_append_right _ (List.mem_append_right _ (List.mem_append_right _ (List.mem_append_right _ (List.mem_of_getElem? (i := 55) rfl))))) rfl
theorem wT_4_56 : (Cond.soleField "ScopeTreeModel" "superOf") ∈ aw_TB := aw_tb (List.mem_append_right _ (List.mem_append_right _ (List.mem_append_right _ (List.mem_append_right _ (List.mem_of_getElem? (i := 56) rfl))))) rfl
theorem wT_4_57 : (Cond.lays "ScopeTreeModel" "ScopeTreeModel" "foundLoader" "I") ∈ aw_TB := aw_tb (List.mem_append_right _ (List.mem_append_right _ (List.mem_append_right _ (List.mem_append_right _ (List.mem_of_getElem? (i := 57) rfl))))) rfl
theorem wT_4_58 : (Cond.soleField "ScopeTreeModel" "foundLoader") ∈ aw_TB := aw_tb (List.mem_append_right _ (List.mem_append_right _ (List.mem_append_right _ (List.mem_append_right _ (List.mem_of_getElem? (i := 58) rfl))))) rfl
theorem wT_4_59 : (Cond.lays "ScopeTreeModel" "ScopeTreeModel" "foundFile" "I") ∈ aw_TB := aw_tb (List.mem_append_right _ (List.mem_append_right _ (List.mem_append_right _ (List.mem_append_right _ (List.mem_of_getElem? (i := 59) rfl))))) rfl
theorem wT_4_60 : (Cond.soleField "ScopeTreeModel" "foundFile") ∈ aw_TB := aw_tb (List.mem_append_right _ (List.mem_append_right _ (List.mem_append_right _ (List.mem_append_right _ (List.mem_of_getElem? (i := 60) rfl))))) rfl
theorem wT_4_61 : (Cond.laysFinal "ScopeTreeModel" "ScopeTreeModel" "waitingLoader" "[I") ∈ aw_TB := aw_tb (List.mem_append_right _ (List.mem_append_right _ (List.mem_append_right _ (List.mem_append_right _ (List.mem_of_getElem? (i := 61) rfl))))) rfl
theorem wT_4_62 : (Cond.soleField "ScopeTreeModel" "waitingLoader") ∈ aw_TB := aw_tb (List.mem_append_right _ (List.mem_append_right _ (List.mem_append_right _ (List.mem_append_right _ (List.mem_of_getElem? (i := 62) rfl))))) rfl
theorem wT_4_63 : (Cond.laysFinal "ScopeTreeModel" "ScopeTreeModel" "waitingFile" "[I") ∈ aw_TB := aw_tb (List.mem_append_right _ (List.mem_append_right _ (List.mem_append_right _ (List.mem_append_right _ (List.mem_of_getElem? (i := 63) rfl))))) rfl
theorem wT_4_64 : (Cond.soleField "ScopeTreeModel" "waitingFile") ∈ aw_TB := aw_tb (List.mem_append_right _ (List.mem_append_right _ (List.mem_append_right _ (List.mem_append_right _ (List.mem_of_getElem? (i := 64) rfl))))) rfl
theorem wT_4_65 : (Cond.superclass "ScopeTreeModel" "java/lang/Object") ∈ aw_TB := aw_tb (List.mem_append_right _ (List.mem_append_right _ (List.mem_append_right _ (List.mem_append_right _ (List.mem_of_getElem? (i := 65) rfl))))) rfl
theorem wT_4_66 : (Cond.arrayClass .boolean) ∈ aw_TB := aw_tb (List.mem_append_right _ (List.mem_append_right _ (List.mem_append_right _ (List.mem_append_right _ (List.mem_of_getElem? (i := 66) rfl))))) rfl
theorem wT_4_67 : (Cond.arrayClass .long) ∈ aw_TB := aw_tb (List.mem_append_right _ (List.mem_append_right _ (List.mem_append_right _ (List.mem_append_right _ (List.mem_of_getElem? (i := 67) rfl))))) rfl
theorem wT_4_68 : (Cond.methodLink "ScopeTreeLaw" 78 ⟨"ScopeTreeModel", "thrown", "()I"⟩) ∈ aw_TB := aw_tb (List.mem_append_right _ (List.mem_append_right _ (List.mem_append_right _ (List.mem_append_right _ (List.mem_of_getElem? (i := 68) rfl))))) rfl
theorem wT_4_69 : (Cond.instanceMethod ⟨"ScopeTreeModel", "thrown", "()I"⟩) ∈ aw_TB := aw_tb (List.mem_append_right _ (List.mem_append_right _ (List.mem_append_right _ (List.mem_append_right _ (List.mem_of_getElem? (i := 69) rfl))))) rfl
theorem wT_4_70 : (Cond.selects "ScopeTreeModel" ⟨"ScopeTreeModel", "thrown", "()I"⟩ ⟨"ScopeTreeModel", "thrown", "()I"⟩) ∈ aw_TB := aw_tb (List.mem_append_right _ (List.mem_append_right _ (List.mem_append_right _ (List.mem_append_right _ (List.mem_of_getElem? (i := 70) rfl))))) rfl
theorem wT_4_71 : (Cond.code ⟨"ScopeTreeModel", "thrown", "()I"⟩ prog_12_method_2_code 1 (some .int)) ∈ aw_TB := aw_tb (List.mem_append_right _ (List.mem_append_right _ (List.mem_append_right _ (List.mem_append_right _ (List.mem_of_getElem? (i := 71) rfl))))) rfl
theorem wT_4_72 : (Cond.methodLink "ScopeTreeLaw" 77 ⟨"ScopeTreeModel", "file", "(IIII)I"⟩) ∈ aw_TB := aw_tb (List.mem_append_right _ (List.mem_append_right _ (List.mem_append_right _ (List.mem_append_right _ (List.mem_of_getElem? (i := 72) rfl))))) rfl
theorem wT_4_73 : (Cond.instanceMethod ⟨"ScopeTreeModel", "file", "(IIII)I"⟩) ∈ aw_TB := aw_tb (List.mem_append_right _ (List.mem_append_right _ (List.mem_append_right _ (List.mem_append_right _ (List.mem_of_getElem? (i := 73) rfl))))) rfl
theorem wT_4_74 : (Cond.selects "ScopeTreeModel" ⟨"ScopeTreeModel", "file", "(IIII)I"⟩ ⟨"ScopeTreeModel", "file", "(IIII)I"⟩) ∈ aw_TB := aw_tb (List.mem_append_right _ (List.mem_append_right _ (List.mem_append_right _ (List.mem_append_right _ (List.mem_of_getElem? (i := 74) rfl))))) rfl
theorem wT_4_75 : (Cond.code ⟨"ScopeTreeModel", "file", "(IIII)I"⟩ prog_12_method_5_code 7 (some .int)) ∈ aw_TB := aw_tb (List.mem_append_right _ (List.mem_append_right _ (List.mem_append_right _ (List.mem_append_right _ (List.mem_of_getElem? (i := 75) rfl))))) rfl
theorem wT_4_76 : (Cond.methodLink "ScopeTreeModel" 106 ⟨"ScopeTreeModel", "in", "(III)Z"⟩) ∈ aw_TB := aw_tb (List.mem_append_right _ (List.mem_append_right _ (List.mem_append_right _ (List.mem_append_right _ (List.mem_of_getElem? (i := 76) rfl))))) rfl
theorem wT_4_77 : (Cond.static ⟨"ScopeTreeModel", "in", "(III)Z"⟩) ∈ aw_TB := aw_tb (List.mem_append_right _ (List.mem_append_right _ (List.mem_append_right _ (List.mem_append_right _ (List.mem_of_getElem? (i := 77) rfl))))) rfl
theorem wT_4_78 : (Cond.code ⟨"ScopeTreeModel", "in", "(III)Z"⟩ prog_12_method_4_code 3 (some .boolean)) ∈ aw_TB := aw_tb (List.mem_append_right _ (List.mem_append_right _ (List.mem_append_right _ (List.mem_append_right _ (List.mem_of_getElem? (i := 78) rfl))))) rfl
theorem wT_4_79 : (Cond.methodLink "ScopeTreeModel" 110 ⟨"ScopeTreeModel", "fails", "(ZI)Z"⟩) ∈ aw_TB := aw_tb (List.mem_append_right _ (List.mem_append_right _ (List.mem_append_right _ (List.mem_append_right _ (List.mem_of_getElem? (i := 79) rfl))))) rfl
theorem wT_4_81 : (Cond.instanceMethod ⟨"ScopeTreeModel", "fails", "(ZI)Z"⟩) ∈ aw_TB := aw_tb (List.mem_append_right _ (List.mem_append_right _ (List.mem_append_right _ (List.mem_append_right _ (List.mem_of_getElem? (i := 81) rfl))))) rfl
theorem wT_4_82 : (Cond.code ⟨"ScopeTreeModel", "fails", "(ZI)Z"⟩ prog_12_method_3_code 3 (some .boolean)) ∈ aw_TB := aw_tb (List.mem_append_right _ (List.mem_append_right _ (List.mem_append_right _ (List.mem_append_right _ (List.mem_of_getElem? (i := 82) rfl))))) rfl
theorem wT_4_83 : (Cond.methodLink "ScopeTreeLaw" 85 ⟨"ScopeTreeModel", "descriptor", "(III)I"⟩) ∈ aw_TB := aw_tb (List.mem_append_right _ (List.mem_append_right _ (List.mem_append_right _ (List.mem_append_right _ (List.mem_of_getElem? (i := 83) rfl))))) rfl
theorem wT_4_84 : (Cond.instanceMethod ⟨"ScopeTreeModel", "descriptor", "(III)I"⟩) ∈ aw_TB := aw_tb (List.mem_append_right _ (List.mem_append_right _ (List.mem_append_right _ (List.mem_append_right _ (List.mem_of_getElem? (i := 84) rfl))))) rfl
theorem wT_4_85 : (Cond.selects "ScopeTreeModel" ⟨"ScopeTreeModel", "descriptor", "(III)I"⟩ ⟨"ScopeTreeModel", "descriptor", "(III)I"⟩) ∈ aw_TB := aw_tb (List.mem_append_right _ (List.mem_append_right _ (List.mem_append_right _ (List.mem_append_right _ (List.mem_of_getElem? (i := 85) rfl))))) rfl
theorem wT_4_86 : (Cond.code ⟨"ScopeTreeModel", "descriptor", "(III)I"⟩ prog_12_method_6_code 5 (some .int)) ∈ aw_TB := aw_tb (List.mem_append_right _ (List.mem_append_right _ (List.mem_append_right _ (List.mem_append_right _ (List.mem_of_getElem? (i := 86) rfl))))) rfl
theorem wT_4_87 : (Cond.methodLink "ScopeTreeLaw" 89 ⟨"ScopeTreeModel", "wipe", "(I)V"⟩) ∈ aw_TB := aw_tb (List.mem_append_right _ (List.mem_append_right _ (List.mem_append_right _ (List.mem_append_right _ (List.mem_of_getElem? (i := 87) rfl))))) rfl
theorem wT_4_88 : (Cond.instanceMethod ⟨"ScopeTreeModel", "wipe", "(I)V"⟩) ∈ aw_TB := aw_tb (List.mem_append_right _ (List.mem_append_right _ (List.mem_append_right _ (List.mem_append_right _ (List.mem_of_getElem? (i := 88) rfl))))) rfl
theorem wT_4_89 : (Cond.selects "ScopeTreeModel" ⟨"ScopeTreeModel", "wipe", "(I)V"⟩ ⟨"ScopeTreeModel", "wipe", "(I)V"⟩) ∈ aw_TB := aw_tb (List.mem_append_right _ (List.mem_append_right _ (List.mem_append_right _ (List.mem_append_right _ (List.mem_of_getElem? (i := 89) rfl))))) rfl
theorem wT_4_90 : (Cond.code ⟨"ScopeTreeModel", "wipe", "(I)V"⟩ prog_12_method_7_code 2 none) ∈ aw_TB := aw_tb (List.mem_append_right _ (List.mem_append_right _ (List.mem_append_right _ (List.mem_append_right _ (List.mem_of_getElem? (i := 90) rfl))))) rfl
theorem wT_4_91 : (Cond.methodLink "ScopeTreeLaw" 93 ⟨"ScopeTreeModel", "child", "(I)I"⟩) ∈ aw_TB := aw_tb (List.mem_append_right _ (List.mem_append_right _ (List.mem_append_right _ (List.mem_append_right _ (List.mem_of_getElem? (i := 91) rfl))))) rfl
theorem wT_4_92 : (Cond.instanceMethod ⟨"ScopeTreeModel", "child", "(I)I"⟩) ∈ aw_TB := aw_tb (List.mem_append_right _ (List.mem_append_right _ (List.mem_append_right _ (List.mem_append_right _ (List.mem_of_getElem? (i := 92) rfl))))) rfl
theorem wT_4_93 : (Cond.selects "ScopeTreeModel" ⟨"ScopeTreeModel", "child", "(I)I"⟩ ⟨"ScopeTreeModel", "child", "(I)I"⟩) ∈ aw_TB := aw_tb (List.mem_append_right _ (List.mem_append_right _ (List.mem_append_right _ (List.mem_append_right _ (List.mem_of_getElem? (i := 93) rfl))))) rfl
theorem wT_4_94 : (Cond.code ⟨"ScopeTreeModel", "child", "(I)I"⟩ prog_12_method_21_code 2 (some .int)) ∈ aw_TB := aw_tb (List.mem_append_right _ (List.mem_append_right _ (List.mem_append_right _ (List.mem_append_right _ (List.mem_of_getElem? (i := 94) rfl))))) rfl
theorem wT_4_95 : (Cond.methodLink "ScopeTreeModel" 140 ⟨"ScopeTreeModel", "noScope", "(I)Z"⟩) ∈ aw_TB := aw_tb (List.mem_append_right _ (List.mem_append_right _ (List.mem_append_right _ (List.mem_append_right _ (List.mem_of_getElem? (i := 95) rfl))))) rfl
theorem wT_4_97 : (Cond.instanceMethod ⟨"ScopeTreeModel", "noScope", "(I)Z"⟩) ∈ aw_TB := aw_tb (List.mem_append_right _ (List.mem_append_right _ (List.mem_append_right _ (List.mem_append_right _ (List.mem_of_getElem? (i := 97) rfl))))) rfl
theorem wT_4_98 : (Cond.code ⟨"ScopeTreeModel", "noScope", "(I)Z"⟩ prog_12_method_20_code 2 (some .boolean)) ∈ aw_TB := aw_tb (List.mem_append_right _ (List.mem_append_right _ (List.mem_append_right _ (List.mem_append_right _ (List.mem_of_getElem? (i := 98) rfl))))) rfl
theorem wT_4_99 : (Cond.methodLink "ScopeTreeLaw" 97 ⟨"ScopeTreeModel", "add", "(IIZ)Z"⟩) ∈ aw_TB := aw_tb (List.mem_append_right _ (List.mem_append_right _ (List.mem_append_right _ (List.mem_append_right _ (List.mem_of_getElem? (i := 99) rfl))))) rfl
theorem wT_4_100 : (Cond.instanceMethod ⟨"ScopeTreeModel", "add", "(IIZ)Z"⟩) ∈ aw_TB := aw_tb (List.mem_append_right _ (List.mem_append_right _ (List.mem_append_right _ (List.mem_append_right _ (List.mem_of_getElem? (i := 100) rfl))))) rfl
theorem wT_4_101 : (Cond.selects "ScopeTreeModel" ⟨"ScopeTreeModel", "add", "(IIZ)Z"⟩ ⟨"ScopeTreeModel", "add", "(IIZ)Z"⟩) ∈ aw_TB := aw_tb (List.mem_append_right _ (List.mem_append_right _ (List.mem_append_right _ (List.mem_append_right _ (List.mem_of_getElem? (i := 101) rfl))))) rfl
theorem wT_4_102 : (Cond.code ⟨"ScopeTreeModel", "add", "(IIZ)Z"⟩ prog_12_method_22_code 7 (some .boolean)) ∈ aw_TB := aw_tb (List.mem_append_right _ (List.mem_append_right _ (List.mem_append_right _ (List.mem_append_right _ (List.mem_of_getElem? (i := 102) rfl))))) rfl
theorem wT_4_103 : (Cond.methodLink "ScopeTreeLaw" 103 ⟨"ScopeTreeModel", "filter", "(IIJJ)V"⟩) ∈ aw_TB := aw_tb (List.mem_append_right _ (List.mem_append_right _ (List.mem_append_right _ (List.mem_append_right _ (List.mem_of_getElem? (i := 103) rfl))))) rfl
theorem wT_4_104 : (Cond.instanceMethod ⟨"ScopeTreeModel", "filter", "(IIJJ)V"⟩) ∈ aw_TB := aw_tb (List.mem_append_right _ (List.mem_append_right _ (List.mem_append_right _ (List.mem_append_right _ (List.mem_of_getElem? (i := 104) rfl))))) rfl
theorem wT_4_105 : (Cond.selects "ScopeTreeModel" ⟨"ScopeTreeModel", "filter", "(IIJJ)V"⟩ ⟨"ScopeTreeModel", "filter", "(IIJJ)V"⟩) ∈ aw_TB := aw_tb (List.mem_append_right _ (List.mem_append_right _ (List.mem_append_right _ (List.mem_append_right _ (List.mem_of_getElem? (i := 105) rfl))))) rfl
theorem wT_4_106 : (Cond.code ⟨"ScopeTreeModel", "filter", "(IIJJ)V"⟩ prog_12_method_23_code 7 none) ∈ aw_TB := aw_tb (List.mem_append_right _ (List.mem_append_right _ (List.mem_append_right _ (List.mem_append_right _ (List.mem_of_getElem? (i := 106) rfl))))) rfl
theorem wT_4_107 : (Cond.methodLink "ScopeTreeLaw" 106 ⟨"ScopeTreeModel", "lock", "(I)I"⟩) ∈ aw_TB := aw_tb (List.mem_append_right _ (List.mem_append_right _ (List.mem_append_right _ (List.mem_append_right _ (List.mem_of_getElem? (i := 107) rfl))))) rfl
theorem wT_4_108 : (Cond.instanceMethod ⟨"ScopeTreeModel", "lock", "(I)I"⟩) ∈ aw_TB := aw_tb (List.mem_append_right _ (List.mem_append_right _ (List.mem_append_right _ (List.mem_append_right _ (List.mem_of_getElem? (i := 108) rfl))))) rfl
theorem wT_4_109 : (Cond.selects "ScopeTreeModel" ⟨"ScopeTreeModel", "lock", "(I)I"⟩ ⟨"ScopeTreeModel", "lock", "(I)I"⟩) ∈ aw_TB := aw_tb (List.mem_append_right _ (List.mem_append_right _ (List.mem_append_right _ (List.mem_append_right _ (List.mem_of_getElem? (i := 109) rfl))))) rfl
theorem wT_4_110 : (Cond.code ⟨"ScopeTreeModel", "lock", "(I)I"⟩ prog_12_method_24_code 5 (some .int)) ∈ aw_TB := aw_tb (List.mem_append_right _ (List.mem_append_right _ (List.mem_append_right _ (List.mem_append_right _ (List.mem_of_getElem? (i := 110) rfl))))) rfl
theorem wT_4_111 : (Cond.methodLink "ScopeTreeModel" 144 ⟨"ScopeTreeModel", "freeLoaders", "()I"⟩) ∈ aw_TB := aw_tb (List.mem_append_right _ (List.mem_append_right _ (List.mem_append_right _ (List.mem_append_right _ (List.mem_of_getElem? (i := 111) rfl))))) rfl
theorem wT_4_113 : (Cond.instanceMethod ⟨"ScopeTreeModel", "freeLoaders", "()I"⟩) ∈ aw_TB := aw_tb (List.mem_append_right _ (List.mem_append_right _ (List.mem_append_right _ (List.mem_append_right _ (List.mem_of_getElem? (i := 113) rfl))))) rfl
theorem wT_4_114 : (Cond.code ⟨"ScopeTreeModel", "freeLoaders", "()I"⟩ prog_12_method_13_code 3 (some .int)) ∈ aw_TB := aw_tb (List.mem_append_right _ (List.mem_append_right _ (List.mem_append_right _ (List.mem_append_right _ (List.mem_of_getElem? (i := 114) rfl))))) rfl
theorem wT_4_115 : (Cond.methodLink "ScopeTreeModel" 147 ⟨"ScopeTreeModel", "defining", "(III)I"⟩) ∈ aw_TB := aw_tb (List.mem_append_right _ (List.mem_append_right _ (List.mem_append_right _ (List.mem_append_right _ (List.mem_of_getElem? (i := 115) rfl))))) rfl
theorem wT_4_117 : (Cond.instanceMethod ⟨"ScopeTreeModel", "defining", "(III)I"⟩) ∈ aw_TB := aw_tb (List.mem_append_right _ (List.mem_append_right _ (List.mem_append_right _ (List.mem_append_right _ (List.mem_of_getElem? (i := 117) rfl))))) rfl
theorem wT_4_118 : (Cond.code ⟨"ScopeTreeModel", "defining", "(III)I"⟩ prog_12_method_15_code 9 (some .int)) ∈ aw_TB := aw_tb (List.mem_append_right _ (List.mem_append_right _ (List.mem_append_right _ (List.mem_append_right _ (List.mem_of_getElem? (i := 118) rfl))))) rfl
theorem wT_4_119 : (Cond.methodLink "ScopeTreeModel" 125 ⟨"ScopeTreeModel", "alike", "(II)Z"⟩) ∈ aw_TB := aw_tb (List.mem_append_right _ (List.mem_append_right _ (List.mem_append_right _ (List.mem_append_right _ (List.mem_of_getElem? (i := 119) rfl))))) rfl
theorem wT_4_121 : (Cond.instanceMethod ⟨"ScopeTreeModel", "alike", "(II)Z"⟩) ∈ aw_TB := aw_tb (List.mem_append_right _ (List.mem_append_right _ (List.mem_append_right _ (List.mem_append_right _ (List.mem_of_getElem? (i := 121) rfl))))) rfl
theorem wT_4_122 : (Cond.code ⟨"ScopeTreeModel", "alike", "(II)Z"⟩ prog_12_method_11_code 7 (some .boolean)) ∈ aw_TB := aw_tb (List.mem_append_right _ (List.mem_append_right _ (List.mem_append_right _ (List.mem_append_right _ (List.mem_of_getElem? (i := 122) rfl))))) rfl
theorem wT_4_123 : (Cond.methodLink "ScopeTreeModel" 114 ⟨"ScopeTreeModel", "fileOf", "(II)I"⟩) ∈ aw_TB := aw_tb (List.mem_append_right _ (List.mem_append_right _ (List.mem_append_right _ (List.mem_append_right _ (List.mem_of_getElem? (i := 123) rfl))))) rfl
theorem wT_4_125 : (Cond.instanceMethod ⟨"ScopeTreeModel", "fileOf", "(II)I"⟩) ∈ aw_TB := aw_tb (List.mem_append_right _ (List.mem_append_right _ (List.mem_append_right _ (List.mem_append_right _ (List.mem_of_getElem? (i := 125) rfl))))) rfl
theorem wT_4_126 : (Cond.code ⟨"ScopeTreeModel", "fileOf", "(II)I"⟩ prog_12_method_9_code 5 (some .int)) ∈ aw_TB := aw_tb (List.mem_append_right _ (List.mem_append_right _ (List.mem_append_right _ (List.mem_append_right _ (List.mem_of_getElem? (i := 126) rfl))))) rfl
theorem wT_4_127 : (Cond.methodLink "ScopeTreeModel" 118 ⟨"ScopeTreeModel", "described", "(II)I"⟩) ∈ aw_TB := aw_tb (List.mem_append_right _ (List.mem_append_right _ (List.mem_append_right _ (List.mem_append_right _ (List.mem_of_getElem? (i := 127) rfl))))) rfl
theorem wT_4_129 : (Cond.instanceMethod ⟨"ScopeTreeModel", "described", "(II)I"⟩) ∈ aw_TB := aw_tb (List.mem_append_right _ (List.mem_append_right _ (List.mem_append_right _ (List.mem_append_right _ (List.mem_of_getElem? (i := 129) rfl))))) rfl
theorem wT_4_130 : (Cond.code ⟨"ScopeTreeModel", "described", "(II)I"⟩ prog_12_method_10_code 5 (some .int)) ∈ aw_TB := aw_tb (List.mem_append_right _ (List.mem_append_right _ (List.mem_append_right _ (List.mem_append_right _ (List.mem_of_getElem? (i := 130) rfl))))) rfl
theorem wT_4_131 : (Cond.methodLink "ScopeTreeModel" 129 ⟨"ScopeTreeModel", "begin", "(II)I"⟩) ∈ aw_TB := aw_tb (List.mem_append_right _ (List.mem_append_right _ (List.mem_append_right _ (List.mem_append_right _ (List.mem_of_getElem? (i := 131) rfl))))) rfl
theorem wT_4_133 : (Cond.instanceMethod ⟨"ScopeTreeModel", "begin", "(II)I"⟩) ∈ aw_TB := aw_tb (List.mem_append_right _ (List.mem_append_right _ (List.mem_append_right _ (List.mem_append_right _ (List.mem_of_getElem? (i := 133) rfl))))) rfl
theorem wT_4_134 : (Cond.code ⟨"ScopeTreeModel", "begin", "(II)I"⟩ prog_12_method_14_code 4 (some .int)) ∈ aw_TB := aw_tb (List.mem_append_right _ (List.mem_append_right _ (List.mem_append_right _ (List.mem_append_right _ (List.mem_of_getElem? (i := 134) rfl))))) rfl
theorem wT_4_135 : (Cond.methodLink "ScopeTreeModel" 121 ⟨"ScopeTreeModel", "freeLoader", "()I"⟩) ∈ aw_TB := aw_tb (List.mem_append_right _ (List.mem_append_right _ (List.mem_append_right _ (List.mem_append_right _ (List.mem_of_getElem? (i := 135) rfl))))) rfl
theorem wT_4_137 : (Cond.instanceMethod ⟨"ScopeTreeModel", "freeLoader", "()I"⟩) ∈ aw_TB := aw_tb (List.mem_append_right _ (List.mem_append_right _ (List.mem_append_right _ (List.mem_append_right _ (List.mem_of_getElem? (i := 137) rfl))))) rfl
theorem wT_4_138 : (Cond.code ⟨"ScopeTreeModel", "freeLoader", "()I"⟩ prog_12_method_12_code 2 (some .int)) ∈ aw_TB := aw_tb (List.mem_append_right _ (List.mem_append_right _ (List.mem_append_right _ (List.mem_append_right _ (List.mem_of_getElem? (i := 138) rfl))))) rfl
theorem wT_4_139 : (Cond.methodLink "ScopeTreeModel" 132 ⟨"ScopeTreeModel", "copySheet", "(II)V"⟩) ∈ aw_TB := aw_tb (List.mem_append_right _ (List.mem_append_right _ (List.mem_append_right _ (List.mem_append_right _ (List.mem_of_getElem? (i := 139) rfl))))) rfl
theorem wT_4_141 : (Cond.instanceMethod ⟨"ScopeTreeModel", "copySheet", "(II)V"⟩) ∈ aw_TB := aw_tb (List.mem_append_right _ (List.mem_append_right _ (List.mem_append_right _ (List.mem_append_right _ (List.mem_of_getElem? (i := 141) rfl))))) rfl
theorem wT_4_142 : (Cond.code ⟨"ScopeTreeModel", "copySheet", "(II)V"⟩ prog_12_method_8_code 4 none) ∈ aw_TB := aw_tb (List.mem_append_right _ (List.mem_append_right _ (List.mem_append_right _ (List.mem_append_right _ (List.mem_of_getElem? (i := 142) rfl))))) rfl
theorem wT_4_143 : (Cond.methodLink "ScopeTreeModel" 151 ⟨"ScopeTreeModel", "filtering", "(II)I"⟩) ∈ aw_TB := aw_tb (List.mem_append_right _ (List.mem_append_right _ (List.mem_append_right _ (List.mem_append_right _ (List.mem_of_getElem? (i := 143) rfl))))) rfl
theorem wT_4_145 : (Cond.instanceMethod ⟨"ScopeTreeModel", "filtering", "(II)I"⟩) ∈ aw_TB := aw_tb (List.mem_append_right _ (List.mem_append_right _ (List.mem_append_right _ (List.mem_append_right _ (List.mem_of_getElem? (i := 145) rfl))))) rfl
theorem wT_4_146 : (Cond.code ⟨"ScopeTreeModel", "filtering", "(II)I"⟩ prog_12_method_16_code 4 (some .int)) ∈ aw_TB := aw_tb (List.mem_append_right _ (List.mem_append_right _ (List.mem_append_right _ (List.mem_append_right _ (List.mem_of_getElem? (i := 146) rfl))))) rfl
theorem wT_4_147 : (Cond.methodLink "ScopeTreeLaw" 109 ⟨"ScopeTreeModel", "release", "(I)I"⟩) ∈ aw_TB := aw_tb (List.mem_append_right _ (List.mem_append_right _ (List.mem_append_right _ (List.mem_append_right _ (List.mem_of_getElem? (i := 147) rfl))))) rfl
theorem wT_4_148 : (Cond.instanceMethod ⟨"ScopeTreeModel", "release", "(I)I"⟩) ∈ aw_TB := aw_tb (List.mem_append_right _ (List.mem_append_right _ (List.mem_append_right _ (List.mem_append_right _ (List.mem_of_getElem? (i := 148) rfl))))) rfl
theorem wT_4_149 : (Cond.selects "ScopeTreeModel" ⟨"ScopeTreeModel", "release", "(I)I"⟩ ⟨"ScopeTreeModel", "release", "(I)I"⟩) ∈ aw_TB := aw_tb (List.mem_append_right _ (List.mem_append_right _ (List.mem_append_right _ (List.mem_append_right _ (List.mem_of_getElem? (i := 149) rfl))))) rfl
theorem wT_4_150 : (Cond.code ⟨"ScopeTreeModel", "release", "(I)I"⟩ prog_12_method_25_code 4 (some .int)) ∈ aw_TB := aw_tb (List.mem_append_right _ (List.mem_append_right _ (List.mem_append_right _ (List.mem_append_right _ (List.mem_of_getElem? (i := 150) rfl))))) rfl
theorem wT_4_151 : (Cond.methodLink "ScopeTreeModel" 154 ⟨"ScopeTreeModel", "sweep", "()I"⟩) ∈ aw_TB := aw_tb (List.mem_append_right _ (List.mem_append_right _ (List.mem_append_right _ (List.mem_append_right _ (List.mem_of_getElem? (i := 151) rfl))))) rfl
theorem wT_4_153 : (Cond.instanceMethod ⟨"ScopeTreeModel", "sweep", "()I"⟩) ∈ aw_TB := aw_tb (List.mem_append_right _ (List.mem_append_right _ (List.mem_append_right _ (List.mem_append_right _ (List.mem_of_getElem? (i := 153) rfl))))) rfl
theorem wT_4_154 : (Cond.code ⟨"ScopeTreeModel", "sweep", "()I"⟩ prog_12_method_19_code 5 (some .int)) ∈ aw_TB := aw_tb (List.mem_append_right _ (List.mem_append_right _ (List.mem_append_right _ (List.mem_append_right _ (List.mem_of_getElem? (i := 154) rfl))))) rfl
theorem wT_4_155 : (Cond.methodLink "ScopeTreeModel" 136 ⟨"ScopeTreeModel", "holders", "(I)I"⟩) ∈ aw_TB := aw_tb (List.mem_append_right _ (List.mem_append_right _ (List.mem_append_right _ (List.mem_append_right _ (List.mem_of_getElem? (i := 155) rfl))))) rfl
theorem wT_4_157 : (Cond.instanceMethod ⟨"ScopeTreeModel", "holders", "(I)I"⟩) ∈ aw_TB := aw_tb (List.mem_append_right _ (List.mem_append_right _ (List.mem_append_right _ (List.mem_append_right _ (List.mem_of_getElem? (i := 157) rfl))))) rfl
theorem wT_4_158 : (Cond.code ⟨"ScopeTreeModel", "holders", "(I)I"⟩ prog_12_method_18_code 5 (some .int)) ∈ aw_TB := aw_tb (List.mem_append_right _ (List.mem_append_right _ (List.mem_append_right _ (List.mem_append_right _ (List.mem_of_getElem? (i := 158) rfl))))) rfl
theorem wT_4_159 : (Cond.methodLink "ScopeTreeLaw" 113 ⟨"ScopeTreeModel", "loader", "(IZ)I"⟩) ∈ aw_TB := aw_tb (List.mem_append_right _ (List.mem_append_right _ (List.mem_append_right _ (List.mem_append_right _ (List.mem_of_getElem? (i := 159) rfl))))) rfl
theorem wT_4_160 : (Cond.instanceMethod ⟨"ScopeTreeModel", "loader", "(IZ)I"⟩) ∈ aw_TB := aw_tb (List.mem_append_right _ (List.mem_append_right _ (List.mem_append_right _ (List.mem_append_right _ (List.mem_of_getElem? (i := 160) rfl))))) rfl
theorem wT_4_161 : (Cond.selects "ScopeTreeModel" ⟨"ScopeTreeModel", "loader", "(IZ)I"⟩ ⟨"ScopeTreeModel", "loader", "(IZ)I"⟩) ∈ aw_TB := aw_tb (List.mem_append_right _ (List.mem_append_right _ (List.mem_append_right _ (List.mem_append_right _ (List.mem_of_getElem? (i := 161) rfl))))) rfl
theorem wT_4_162 : (Cond.code ⟨"ScopeTreeModel", "loader", "(IZ)I"⟩ prog_12_method_26_code 3 (some .int)) ∈ aw_TB := aw_tb (List.mem_append_right _ (List.mem_append_right _ (List.mem_append_right _ (List.mem_append_right _ (List.mem_of_getElem? (i := 162) rfl))))) rfl
theorem wT_4_163 : (Cond.methodLink "ScopeTreeLaw" 117 ⟨"ScopeTreeModel", "look", "(II)I"⟩) ∈ aw_TB := aw_tb (List.mem_append_right _ (List.mem_append_right _ (List.mem_append_right _ (List.mem_append_right _ (List.mem_of_getElem? (i := 163) rfl))))) rfl
theorem wT_4_164 : (Cond.instanceMethod ⟨"ScopeTreeModel", "look", "(II)I"⟩) ∈ aw_TB := aw_tb (List.mem_append_right _ (List.mem_append_right _ (List.mem_append_right _ (List.mem_append_right _ (List.mem_of_getElem? (i := 164) rfl))))) rfl
theorem wT_4_165 : (Cond.selects "ScopeTreeModel" ⟨"ScopeTreeModel", "look", "(II)I"⟩ ⟨"ScopeTreeModel", "look", "(II)I"⟩) ∈ aw_TB := aw_tb (List.mem_append_right _ (List.mem_append_right _ (List.mem_append_right _ (List.mem_append_right _ (List.mem_of_getElem? (i := 165) rfl))))) rfl
theorem wT_4_166 : (Cond.code ⟨"ScopeTreeModel", "look", "(II)I"⟩ prog_12_method_27_code 5 (some .int)) ∈ aw_TB := aw_tb (List.mem_append_right _ (List.mem_append_right _ (List.mem_append_right _ (List.mem_append_right _ (List.mem_of_getElem? (i := 166) rfl))))) rfl
theorem wT_4_167 : (Cond.methodLink "ScopeTreeLaw" 121 ⟨"ScopeTreeModel", "load", "(II)I"⟩) ∈ aw_TB := aw_tb (List.mem_append_right _ (List.mem_append_right _ (List.mem_append_right _ (List.mem_append_right _ (List.mem_of_getElem? (i := 167) rfl))))) rfl
theorem wT_4_168 : (Cond.instanceMethod ⟨"ScopeTreeModel", "load", "(II)I"⟩) ∈ aw_TB := aw_tb (List.mem_append_right _ (List.mem_append_right _ (List.mem_append_right _ (List.mem_append_right _ (List.mem_of_getElem? (i := 168) rfl))))) rfl
theorem wT_4_169 : (Cond.selects "ScopeTreeModel" ⟨"ScopeTreeModel", "load", "(II)I"⟩ ⟨"ScopeTreeModel", "load", "(II)I"⟩) ∈ aw_TB := aw_tb (List.mem_append_right _ (List.mem_append_right _ (List.mem_append_right _ (List.mem_append_right _ (List.mem_of_getElem? (i := 169) rfl))))) rfl
theorem wT_4_170 : (Cond.code ⟨"ScopeTreeModel", "load", "(II)I"⟩ prog_12_method_32_code 3 (some .int)) ∈ aw_TB := aw_tb (List.mem_append_right _ (List.mem_append_right _ (List.mem_append_right _ (List.mem_append_right _ (List.mem_of_getElem? (i := 170) rfl))))) rfl
theorem wT_4_171 : (Cond.methodLink "ScopeTreeModel" 175 ⟨"ScopeTreeModel", "loads", "(II)I"⟩) ∈ aw_TB := aw_tb (List.mem_append_right _ (List.mem_append_right _ (List.mem_append_right _ (List.mem_append_right _ (List.mem_of_getElem? (i := 171) rfl))))) rfl
theorem wT_4_173 : (Cond.instanceMethod ⟨"ScopeTreeModel", "loads", "(II)I"⟩) ∈ aw_TB := aw_tb (List.mem_append_right _ (List.mem_append_right _ (List.mem_append_right _ (List.mem_append_right _ (List.mem_of_getElem? (i := 173) rfl))))) rfl
theorem wT_4_174 : (Cond.code ⟨"ScopeTreeModel", "loads", "(II)I"⟩ prog_12_method_31_code 4 (some .int)) ∈ aw_TB := aw_tb (List.mem_append_right _ (List.mem_append_right _ (List.mem_append_right _ (List.mem_append_right _ (List.mem_of_getElem? (i := 174) rfl))))) rfl
theorem wT_4_175 : (Cond.methodLink "ScopeTreeModel" 172 ⟨"ScopeTreeModel", "resolve", "(II)I"⟩) ∈ aw_TB := aw_tb (List.mem_append_right _ (List.mem_append_right _ (List.mem_append_right _ (List.mem_append_right _ (List.mem_of_getElem? (i := 175) rfl))))) rfl
theorem wT_4_177 : (Cond.instanceMethod ⟨"ScopeTreeModel", "resolve", "(II)I"⟩) ∈ aw_TB := aw_tb (List.mem_append_right _ (List.mem_append_right _ (List.mem_append_right _ (List.mem_append_right _ (List.mem_of_getElem? (i := 177) rfl))))) rfl
theorem wT_4_178 : (Cond.code ⟨"ScopeTreeModel", "resolve", "(II)I"⟩ prog_12_method_30_code 8 (some .int)) ∈ aw_TB := aw_tb (List.mem_append_right _ (List.mem_append_right _ (List.mem_append_right _ (List.mem_append_right _ (List.mem_of_getElem? (i := 178) rfl))))) rfl
theorem wT_4_179 : (Cond.methodLink "ScopeTreeModel" 166 ⟨"ScopeTreeModel", "seek", "(II)Z"⟩) ∈ aw_TB := aw_tb (List.mem_append_right _ (List.mem_append_right _ (List.mem_append_right _ (List.mem_append_right _ (List.mem_of_getElem? (i := 179) rfl))))) rfl
theorem wT_4_181 : (Cond.instanceMethod ⟨"ScopeTreeModel", "seek", "(II)Z"⟩) ∈ aw_TB := aw_tb (List.mem_append_right _ (List.mem_append_right _ (List.mem_append_right _ (List.mem_append_right _ (List.mem_of_getElem? (i := 181) rfl))))) rfl
theorem wT_4_182 : (Cond.code ⟨"ScopeTreeModel", "seek", "(II)Z"⟩ prog_12_method_28_code 5 (some .boolean)) ∈ aw_TB := aw_tb (List.mem_append_right _ (List.mem_append_right _ (List.mem_append_right _ (List.mem_append_right _ (List.mem_of_getElem? (i := 182) rfl))))) rfl
theorem wT_4_183 : (Cond.methodLink "ScopeTreeModel" 160 ⟨"ScopeTreeModel", "admits", "(II)Z"⟩) ∈ aw_TB := aw_tb (List.mem_append_right _ (List.mem_append_right _ (List.mem_append_right _ (List.mem_append_right _ (List.mem_of_getElem? (i := 183) rfl))))) rfl
theorem wT_4_185 : (Cond.instanceMethod ⟨"ScopeTreeModel", "admits", "(II)Z"⟩) ∈ aw_TB := aw_tb (List.mem_append_right _ (List.mem_append_right _ (List.mem_append_right _ (List.mem_append_right _ (List.mem_of_getElem? (i := 185) rfl))))) rfl
theorem wT_4_186 : (Cond.code ⟨"ScopeTreeModel", "admits", "(II)Z"⟩ prog_12_method_17_code 3 (some .boolean)) ∈ aw_TB := aw_tb (List.mem_append_right _ (List.mem_append_right _ (List.mem_append_right _ (List.mem_append_right _ (List.mem_of_getElem? (i := 186) rfl))))) rfl
theorem wT_4_187 : (Cond.methodLink "ScopeTreeModel" 169 ⟨"ScopeTreeModel", "definedBy", "(II)I"⟩) ∈ aw_TB := aw_tb (List.mem_append_right _ (List.mem_append_right _ (List.mem_append_right _ (List.mem_append_right _ (List.mem_of_getElem? (i := 187) rfl))))) rfl
theorem wT_4_189 : (Cond.instanceMethod ⟨"ScopeTreeModel", "definedBy", "(II)I"⟩) ∈ aw_TB := aw_tb (List.mem_append_right _ (List.mem_append_right _ (List.mem_append_right _ (List.mem_append_right _ (List.mem_of_getElem? (i := 189) rfl))))) rfl
theorem wT_4_190 : (Cond.code ⟨"ScopeTreeModel", "definedBy", "(II)I"⟩ prog_12_method_29_code 5 (some .int)) ∈ aw_TB := aw_tb (List.mem_append_right _ (List.mem_append_right _ (List.mem_append_right _ (List.mem_append_right _ (List.mem_of_getElem? (i := 190) rfl))))) rfl
theorem wT_4_191 : (Cond.methodLink "ScopeTreeLaw" 124 ⟨"ScopeTreeModel", "info", "(II)I"⟩) ∈ aw_TB := aw_tb (List.mem_append_right _ (List.mem_append_right _ (List.mem_append_right _ (List.mem_append_right _ (List.mem_of_getElem? (i := 191) rfl))))) rfl
theorem wT_4_192 : (Cond.instanceMethod ⟨"ScopeTreeModel", "info", "(II)I"⟩) ∈ aw_TB := aw_tb (List.mem_append_right _ (List.mem_append_right _ (List.mem_append_right _ (List.mem_append_right _ (List.mem_of_getElem? (i := 192) rfl))))) rfl
theorem wT_4_193 : (Cond.selects "ScopeTreeModel" ⟨"ScopeTreeModel", "info", "(II)I"⟩ ⟨"ScopeTreeModel", "info", "(II)I"⟩) ∈ aw_TB := aw_tb (List.mem_append_right _ (List.mem_append_right _ (List.mem_append_right _ (List.mem_append_right _ (List.mem_of_getElem? (i := 193) rfl))))) rfl
theorem wT_4_194 : (Cond.code ⟨"ScopeTreeModel", "info", "(II)I"⟩ prog_12_method_33_code 3 (some .int)) ∈ aw_TB := aw_tb (List.mem_append_right _ (List.mem_append_right _ (List.mem_append_right _ (List.mem_append_right _ (List.mem_of_getElem? (i := 194) rfl))))) rfl
theorem wT_4_195 : (Cond.methodLink "ScopeTreeLaw" 127 ⟨"ScopeTreeModel", "isA", "(II)Z"⟩) ∈ aw_TB := aw_tb (List.mem_append_right _ (List.mem_append_right _ (List.mem_append_right _ (List.mem_append_right _ (List.mem_of_getElem? (i := 195) rfl))))) rfl
theorem wT_4_196 : (Cond.instanceMethod ⟨"ScopeTreeModel", "isA", "(II)Z"⟩) ∈ aw_TB := aw_tb (List.mem_append_right _ (List.mem_append_right _ (List.mem_append_right _ (List.mem_append_right _ (List.mem_of_getElem? (i := 196) rfl))))) rfl
theorem wT_4_197 : (Cond.selects "ScopeTreeModel" ⟨"ScopeTreeModel", "isA", "(II)Z"⟩ ⟨"ScopeTreeModel", "isA", "(II)Z"⟩) ∈ aw_TB := aw_tb (List.mem_append_right _ (List.mem_append_right _ (List.mem_append_right _ (List.mem_append_right _ (List.mem_of_getElem? (i := 197) rfl))))) rfl
theorem wT_4_198 : (Cond.code ⟨"ScopeTreeModel", "isA", "(II)Z"⟩ prog_12_method_35_code 3 (some .boolean)) ∈ aw_TB := aw_tb (List.mem_append_right _ (List.mem_append_right _ (List.mem_append_right _ (List.mem_append_right _ (List.mem_of_getElem? (i := 198) rfl))))) rfl
theorem wT_4_199 : (Cond.methodLink "ScopeTreeModel" 178 ⟨"ScopeTreeModel", "descends", "(II)Z"⟩) ∈ aw_TB := aw_tb (List.mem_append_right _ (List.mem_append_right _ (List.mem_append_right _ (List.mem_append_right _ (List.mem_of_getElem? (i := 199) rfl))))) rfl
theorem wT_4_201 : (Cond.instanceMethod ⟨"ScopeTreeModel", "descends", "(II)Z"⟩) ∈ aw_TB := aw_tb (List.mem_append_right _ (List.mem_append_right _ (List.mem_append_right _ (List.mem_append_right _ (List.mem_of_getElem? (i := 201) rfl))))) rfl
theorem wT_4_202 : (Cond.code ⟨"ScopeTreeModel", "descends", "(II)Z"⟩ prog_12_method_34_code 4 (some .boolean)) ∈ aw_TB := aw_tb (List.mem_append_right _ (List.mem_append_right _ (List.mem_append_right _ (List.mem_append_right _ (List.mem_of_getElem? (i := 202) rfl))))) rfl
theorem wT_4_203 : (Cond.methodLink "ScopeTreeLaw" 130 ⟨"ScopeTreeModel", "apply", "(II)I"⟩) ∈ aw_TB := aw_tb (List.mem_append_right _ (List.mem_append_right _ (List.mem_append_right _ (List.mem_append_right _ (List.mem_of_getElem? (i := 203) rfl))))) rfl
theorem wT_4_204 : (Cond.instanceMethod ⟨"ScopeTreeModel", "apply", "(II)I"⟩) ∈ aw_TB := aw_tb (List.mem_append_right _ (List.mem_append_right _ (List.mem_append_right _ (List.mem_append_right _ (List.mem_of_getElem? (i := 204) rfl))))) rfl
theorem wT_4_205 : (Cond.selects "ScopeTreeModel" ⟨"ScopeTreeModel", "apply", "(II)I"⟩ ⟨"ScopeTreeModel", "apply", "(II)I"⟩) ∈ aw_TB := aw_tb (List.mem_append_right _ (List.mem_append_right _ (List.mem_append_right _ (List.mem_append_right _ (List.mem_of_getElem? (i := 205) rfl))))) rfl
theorem wT_4_206 : (Cond.code ⟨"ScopeTreeModel", "apply", "(II)I"⟩ prog_12_method_37_code 7 (some .int)) ∈ aw_TB := aw_tb (List.mem_append_right _ (List.mem_append_right _ (List.mem_append_right _ (List.mem_append_right _ (List.mem_of_getElem? (i := 206) rfl))))) rfl
theorem wT_4_207 : (Cond.methodLink "ScopeTreeModel" 181 ⟨"ScopeTreeModel", "describedFrom", "(II)I"⟩) ∈ aw_TB := aw_tb (List.mem_append_right _ (List.mem_append_right _ (List.mem_append_right _ (List.mem_append_right _ (List.mem_of_getElem? (i := 207) rfl))))) rfl
theorem wT_4_209 : (Cond.instanceMethod ⟨"ScopeTreeModel", "describedFrom", "(II)I"⟩) ∈ aw_TB := aw_tb (List.mem_append_right _ (List.mem_append_right _ (List.mem_append_right _ (List.mem_append_right _ (List.mem_of_getElem? (i := 209) rfl))))) rfl
theorem wT_4_210 : (Cond.code ⟨"ScopeTreeModel", "describedFrom", "(II)I"⟩ prog_12_method_36_code 9 (some .int)) ∈ aw_TB := aw_tb (List.mem_append_right _ (List.mem_append_right _ (List.mem_append_right _ (List.mem_append_right _ (List.mem_of_getElem? (i := 210) rfl))))) rfl
theorem wT_4_211 : (Cond.methodLink "ScopeTreeLaw" 133 ⟨"ScopeTreeModel", "applied", "(II)I"⟩) ∈ aw_TB := aw_tb (List.mem_append_right _ (List.mem_append_right _ (List.mem_append_right _ (List.mem_append_right _ (List.mem_of_getElem? (i := 211) rfl))))) rfl
theorem wT_4_212 : (Cond.instanceMethod ⟨"ScopeTreeModel", "applied", "(II)I"⟩) ∈ aw_TB := aw_tb (List.mem_append_right _ (List.mem_append_right _ (List.mem_append_right _ (List.mem_append_right _ (List.mem_of_getElem? (i := 212) rfl))))) rfl
theorem wT_4_213 : (Cond.selects "ScopeTreeModel" ⟨"ScopeTreeModel", "applied", "(II)I"⟩ ⟨"ScopeTreeModel", "applied", "(II)I"⟩) ∈ aw_TB := aw_tb (List.mem_append_right _ (List.mem_append_right _ (List.mem_append_right _ (List.mem_append_right _ (List.mem_of_getElem? (i := 213) rfl))))) rfl
theorem wT_4_214 : (Cond.code ⟨"ScopeTreeModel", "applied", "(II)I"⟩ prog_12_method_38_code 3 (some .int)) ∈ aw_TB := aw_tb (List.mem_append_right _ (List.mem_append_right _ (List.mem_append_right _ (List.mem_append_right _ (List.mem_of_getElem? (i := 214) rfl))))) rfl
theorem wT_4_215 : (Cond.constantLong "ScopeTreeLaw" 98 4294967295) ∈ aw_TB := aw_tb (List.mem_append_right _ (List.mem_append_right _ (List.mem_append_right _ (List.mem_append_right _ (List.mem_of_getElem? (i := 215) rfl))))) rfl
theorem wT_4_216 : (Cond.sameMethod "java/lang/Throwable" "java/lang/Throwable" "fillInStackTrace" "(I)Ljava/lang/Throwable;") ∈ aw_TB := aw_tb (List.mem_append_right _ (List.mem_append_right _ (List.mem_append_right _ (List.mem_append_right _ (List.mem_of_getElem? (i := 216) rfl))))) rfl
theorem wA_1_31 : (Cond.arrayOver (.object "ScopeTree$Archive")) ∈ lw_tbl := (List.mem_append_right _ (List.mem_append_left _ (List.mem_of_getElem? (i := 31) rfl)))
theorem wA_1_33 : (Cond.arrayOver (.object "ScopeTree$Scope")) ∈ lw_tbl := (List.mem_append_right _ (List.mem_append_left _ (List.mem_of_getElem? (i := 33) rfl)))
theorem wA_1_35 : (Cond.arrayOver (.object "ScopeTree$Loader")) ∈ lw_tbl := (List.mem_append_right _ (List.mem_append_left _ (List.mem_of_getElem? (i := 35) rfl)))
theorem wA_1_37 : (Cond.arrayOver (.object "ScopeTree$Type")) ∈ lw_tbl := (List.mem_append_right _ (List.mem_append_left _ (List.mem_of_getElem? (i := 37) rfl)))
theorem wA_1_44 : (Cond.arrayOver (.object "ScopeTree$ClassFile")) ∈ lw_tbl := (List.mem_append_right _ (List.mem_append_left _ (List.mem_of_getElem? (i := 44) rfl)))
theorem wA_1_46 : (Cond.arrayOver (.object "ScopeTree$Descriptor")) ∈ lw_tbl := (List.mem_append_right _ (List.mem_append_left _ (List.mem_of_getElem? (i := 46) rfl)))
theorem wA_1_144 : (Cond.laysStatic "ScopeTree$State" "OPEN" "LScopeTree$State;") ∈ lw_tbl := (List.mem_append_right _ (List.mem_append_left _ (List.mem_of_getElem? (i := 144) rfl)))
theorem wA_1_184 : (Cond.laysStatic "ScopeTree$State" "LOCKED" "LScopeTree$State;") ∈ lw_tbl := (List.mem_append_right _ (List.mem_append_left _ (List.mem_of_getElem? (i := 184) rfl)))
theorem wA_2_17 : (Cond.laysStatic "java/lang/Throwable" "UNASSIGNED_STACK" "[Ljava/lang/StackTraceElement;") ∈ lw_tbl := (List.mem_append_right _ (List.mem_append_right _ (List.mem_append_left _ (List.mem_of_getElem? (i := 17) rfl))))
theorem wA_2_19 : (Cond.laysStatic "java/lang/Throwable" "SUPPRESSED_SENTINEL" "Ljava/util/List;") ∈ lw_tbl := (List.mem_append_right _ (List.mem_append_right _ (List.mem_append_left _ (List.mem_of_getElem? (i := 19) rfl))))
theorem wA_2_32 : (Cond.stringRef "ScopeTree" 137 "no such archive") ∈ lw_tbl := (List.mem_append_right _ (List.mem_append_right _ (List.mem_append_left _ (List.mem_of_getElem? (i := 32) rfl))))
theorem wA_2_59 : (Cond.stringRef "ScopeTree" 86 "no name of a class file") ∈ lw_tbl := (List.mem_append_right _ (List.mem_append_right _ (List.mem_append_left _ (List.mem_of_getElem? (i := 59) rfl))))
theorem wA_2_60 : (Cond.stringRef "ScopeTree" 91 "no such super or version") ∈ lw_tbl := (List.mem_append_right _ (List.mem_append_right _ (List.mem_append_left _ (List.mem_of_getElem? (i := 60) rfl))))
theorem wA_2_104 : (Cond.stringRef "ScopeTree" 104 "the archive is full of class files") ∈ lw_tbl := (List.mem_append_right _ (List.mem_append_right _ (List.mem_append_left _ (List.mem_of_getElem? (i := 104) rfl))))
theorem wA_2_118 : (Cond.stringRef "ScopeTree" 110 "no such plugin or name") ∈ lw_tbl := (List.mem_append_right _ (List.mem_append_right _ (List.mem_append_left _ (List.mem_of_getElem? (i := 118) rfl))))
theorem wA_2_142 : (Cond.stringRef "ScopeTree" 121 "the archive is full of descriptors") ∈ lw_tbl := (List.mem_append_right _ (List.mem_append_right _ (List.mem_append_left _ (List.mem_of_getElem? (i := 142) rfl))))
theorem wA_2_161 : (Cond.stringRef "ScopeTree" 275 "no such scope") ∈ lw_tbl := (List.mem_append_right _ (List.mem_append_right _ (List.mem_append_left _ (List.mem_of_getElem? (i := 161) rfl))))
theorem wA_2_163 : (Cond.laysStatic "ScopeTree$State" "RELEASED" "LScopeTree$State;") ∈ lw_tbl := (List.mem_append_right _ (List.mem_append_right _ (List.mem_append_left _ (List.mem_of_getElem? (i := 163) rfl))))
theorem wA_2_164 : (Cond.stringRef "ScopeTree" 133 "the parent is released") ∈ lw_tbl := (List.mem_append_right _ (List.mem_append_right _ (List.mem_append_left _ (List.mem_of_getElem? (i := 164) rfl))))
theorem wA_2_165 : (Cond.stringRef "ScopeTree" 135 "no scope number is left") ∈ lw_tbl := (List.mem_append_right _ (List.mem_append_right _ (List.mem_append_left _ (List.mem_of_getElem? (i := 165) rfl))))
theorem wA_2_177 : (Cond.stringRef "ScopeTree" 282 "the scope is locked or released") ∈ lw_tbl := (List.mem_append_right _ (List.mem_append_right _ (List.mem_append_left _ (List.mem_of_getElem? (i := 177) rfl))))
theorem wA_2_193 : (Cond.stringRef "ScopeTree" 155 "no such set of packages") ∈ lw_tbl := (List.mem_append_right _ (List.mem_append_right _ (List.mem_append_left _ (List.mem_of_getElem? (i := 193) rfl))))
theorem wA_2_218 : (Cond.stringRef "ScopeTree" 170 "the parent is not locked") ∈ lw_tbl := (List.mem_append_right _ (List.mem_append_right _ (List.mem_append_left _ (List.mem_of_getElem? (i := 218) rfl))))
theorem wA_2_232 : (Cond.stringRef "ScopeTree" 178 "too few loader numbers are free") ∈ lw_tbl := (List.mem_append_right _ (List.mem_append_right _ (List.mem_append_left _ (List.mem_of_getElem? (i := 232) rfl))))
theorem wA_3_60 : (Cond.stringRef "ScopeTree" 195 "scope 0 is never released") ∈ lw_tbl := (List.mem_append_right _ (List.mem_append_right _ (List.mem_append_right _ (List.mem_append_left _ (List.mem_of_getElem? (i := 60) rfl)))))
theorem wA_3_65 : (Cond.stringRef "ScopeTree" 201 "released, or a child is not") ∈ lw_tbl := (List.mem_append_right _ (List.mem_append_right _ (List.mem_append_right _ (List.mem_append_left _ (List.mem_of_getElem? (i := 65) rfl)))))
theorem wA_3_85 : (Cond.stringRef "ScopeTree" 215 "no such name") ∈ lw_tbl := (List.mem_append_right _ (List.mem_append_right _ (List.mem_append_right _ (List.mem_append_left _ (List.mem_of_getElem? (i := 85) rfl)))))
theorem wA_3_89 : (Cond.stringRef "ScopeTree" 284 "the scope is not locked, or released") ∈ lw_tbl := (List.mem_append_right _ (List.mem_append_right _ (List.mem_append_right _ (List.mem_append_left _ (List.mem_of_getElem? (i := 89) rfl)))))
theorem wA_3_119 : (Cond.stringRef "ScopeTree" 341 "circular") ∈ lw_tbl := (List.mem_append_right _ (List.mem_append_right _ (List.mem_append_right _ (List.mem_append_left _ (List.mem_of_getElem? (i := 119) rfl)))))
theorem wA_3_120 : (Cond.stringRef "ScopeTree" 343 "deep") ∈ lw_tbl := (List.mem_append_right _ (List.mem_append_right _ (List.mem_append_right _ (List.mem_append_left _ (List.mem_of_getElem? (i := 120) rfl)))))
theorem wA_3_121 : (Cond.stringRef "ScopeTree" 348 "link error") ∈ lw_tbl := (List.mem_append_right _ (List.mem_append_right _ (List.mem_append_right _ (List.mem_append_left _ (List.mem_of_getElem? (i := 121) rfl)))))
theorem wA_3_126 : (Cond.stringRef "ScopeTree" 354 "no class number is left") ∈ lw_tbl := (List.mem_append_right _ (List.mem_append_right _ (List.mem_append_right _ (List.mem_append_left _ (List.mem_of_getElem? (i := 126) rfl)))))
theorem wA_3_136 : (Cond.stringRef "ScopeTree" 319 "no class of that name is found") ∈ lw_tbl := (List.mem_append_right _ (List.mem_append_right _ (List.mem_append_right _ (List.mem_append_left _ (List.mem_of_getElem? (i := 136) rfl)))))
theorem wA_3_154 : (Cond.stringRef "ScopeTree" 277 "no such class") ∈ lw_tbl := (List.mem_append_right _ (List.mem_append_right _ (List.mem_append_right _ (List.mem_append_left _ (List.mem_of_getElem? (i := 154) rfl)))))
theorem wA_3_155 : (Cond.stringRef "ScopeTree" 248 "no such question about a class") ∈ lw_tbl := (List.mem_append_right _ (List.mem_append_right _ (List.mem_append_right _ (List.mem_append_left _ (List.mem_of_getElem? (i := 155) rfl)))))
theorem wA_3_173 : (Cond.stringRef "ScopeTree" 255 "no such plugin") ∈ lw_tbl := (List.mem_append_right _ (List.mem_append_right _ (List.mem_append_right _ (List.mem_append_left _ (List.mem_of_getElem? (i := 173) rfl)))))
theorem wS_0 : Cond.selects "ScopeTree" ⟨"ScopeTree", "archiveAt", "(I)LScopeTree$Archive;"⟩ ⟨"ScopeTree", "archiveAt", "(I)LScopeTree$Archive;"⟩ ∈ aw_TB := aw_tb (List.mem_append_left _ (List.mem_of_getElem? (i := 0) rfl)) rfl
theorem wS_1 : Cond.selects "java/lang/Throwable" ⟨"java/lang/Throwable", "fillInStackTrace", "(I)Ljava/lang/Throwable;"⟩ ⟨"java/lang/Throwable", "fillInStackTrace", "(I)Ljava/lang/Throwable;"⟩ ∈ aw_TB := aw_tb (List.mem_append_left _ (List.mem_of_getElem? (i := 1) rfl)) rfl
theorem wS_2 : Cond.selects "ScopeTree$Archive" ⟨"ScopeTree$Archive", "putFile", "(LScopeTree$ClassFile;)Z"⟩ ⟨"ScopeTree$Archive", "putFile", "(LScopeTree$ClassFile;)Z"⟩ ∈ aw_TB := aw_tb (List.mem_append_left _ (List.mem_of_getElem? (i := 2) rfl)) rfl
theorem wS_3 : Cond.selects "ScopeTree$Archive" ⟨"ScopeTree$Archive", "placeOfFile", "(I)I"⟩ ⟨"ScopeTree$Archive", "placeOfFile", "(I)I"⟩ ∈ aw_TB := aw_tb (List.mem_append_left _ (List.mem_of_getElem? (i := 3) rfl)) rfl
theorem wS_4 : Cond.selects "ScopeTree$Archive" ⟨"ScopeTree$Archive", "putDescriptor", "(LScopeTree$Descriptor;)Z"⟩ ⟨"ScopeTree$Archive", "putDescriptor", "(LScopeTree$Descriptor;)Z"⟩ ∈ aw_TB := aw_tb (List.mem_append_left _ (List.mem_of_getElem? (i := 4) rfl)) rfl
theorem wS_5 : Cond.selects "ScopeTree$Archive" ⟨"ScopeTree$Archive", "placeOfDescriptor", "(I)I"⟩ ⟨"ScopeTree$Archive", "placeOfDescriptor", "(I)I"⟩ ∈ aw_TB := aw_tb (List.mem_append_left _ (List.mem_of_getElem? (i := 5) rfl)) rfl
theorem wS_6 : Cond.selects "ScopeTree" ⟨"ScopeTree", "scopeAt", "(I)LScopeTree$Scope;"⟩ ⟨"ScopeTree", "scopeAt", "(I)LScopeTree$Scope;"⟩ ∈ aw_TB := aw_tb (List.mem_append_left _ (List.mem_of_getElem? (i := 6) rfl)) rfl
theorem wS_7 : Cond.selects "ScopeTree$Path" ⟨"ScopeTree$Path", "append", "(I)Z"⟩ ⟨"ScopeTree$Path", "append", "(I)Z"⟩ ∈ aw_TB := aw_tb (List.mem_append_left _ (List.mem_of_getElem? (i := 7) rfl)) rfl
theorem wS_8 : Cond.selects "ScopeTree$Path" ⟨"ScopeTree$Path", "contains", "(I)Z"⟩ ⟨"ScopeTree$Path", "contains", "(I)Z"⟩ ∈ aw_TB := aw_tb (List.mem_append_left _ (List.mem_of_getElem? (i := 8) rfl)) rfl
theorem wS_9 : Cond.selects "ScopeTree" ⟨"ScopeTree", "freeLoaderNumbers", "()I"⟩ ⟨"ScopeTree", "freeLoaderNumbers", "()I"⟩ ∈ aw_TB := aw_tb (List.mem_append_left _ (List.mem_of_getElem? (i := 9) rfl)) rfl
theorem wS_10 : Cond.selects "ScopeTree" ⟨"ScopeTree", "wantedDefining", "(LScopeTree$Path;LScopeTree$Loader;)LScopeTree$Loader;"⟩ ⟨"ScopeTree", "wantedDefining", "(LScopeTree$Path;LScopeTree$Loader;)LScopeTree$Loader;"⟩ ∈ aw_TB := aw_tb (List.mem_append_left _ (List.mem_of_getElem? (i := 10) rfl)) rfl
theorem wS_11 : Cond.selects "ScopeTree" ⟨"ScopeTree", "contentsOf", "(LScopeTree$Path;)[LScopeTree$Archive;"⟩ ⟨"ScopeTree", "contentsOf", "(LScopeTree$Path;)[LScopeTree$Archive;"⟩ ∈ aw_TB := aw_tb (List.mem_append_left _ (List.mem_of_getElem? (i := 11) rfl)) rfl
theorem wS_12 : Cond.selects "ScopeTree$Archive" ⟨"ScopeTree$Archive", "copy", "()LScopeTree$Archive;"⟩ ⟨"ScopeTree$Archive", "copy", "()LScopeTree$Archive;"⟩ ∈ aw_TB := aw_tb (List.mem_append_left _ (List.mem_of_getElem? (i := 12) rfl)) rfl
theorem wS_13 : Cond.selects "ScopeTree$Loader" ⟨"ScopeTree$Loader", "hasPathLike", "([LScopeTree$Archive;)Z"⟩ ⟨"ScopeTree$Loader", "hasPathLike", "([LScopeTree$Archive;)Z"⟩ ∈ aw_TB := aw_tb (List.mem_append_left _ (List.mem_of_getElem? (i := 13) rfl)) rfl
theorem wS_14 : Cond.selects "ScopeTree$Archive" ⟨"ScopeTree$Archive", "isLike", "(LScopeTree$Archive;)Z"⟩ ⟨"ScopeTree$Archive", "isLike", "(LScopeTree$Archive;)Z"⟩ ∈ aw_TB := aw_tb (List.mem_append_left _ (List.mem_of_getElem? (i := 14) rfl)) rfl
theorem wS_15 : Cond.selects "ScopeTree$Archive" ⟨"ScopeTree$Archive", "fileOf", "(I)LScopeTree$ClassFile;"⟩ ⟨"ScopeTree$Archive", "fileOf", "(I)LScopeTree$ClassFile;"⟩ ∈ aw_TB := aw_tb (List.mem_append_left _ (List.mem_of_getElem? (i := 15) rfl)) rfl
theorem wS_16 : Cond.selects "ScopeTree$ClassFile" ⟨"ScopeTree$ClassFile", "isSame", "(LScopeTree$ClassFile;)Z"⟩ ⟨"ScopeTree$ClassFile", "isSame", "(LScopeTree$ClassFile;)Z"⟩ ∈ aw_TB := aw_tb (List.mem_append_left _ (List.mem_of_getElem? (i := 16) rfl)) rfl
theorem wS_17 : Cond.selects "ScopeTree$Archive" ⟨"ScopeTree$Archive", "descriptorOf", "(I)LScopeTree$Descriptor;"⟩ ⟨"ScopeTree$Archive", "descriptorOf", "(I)LScopeTree$Descriptor;"⟩ ∈ aw_TB := aw_tb (List.mem_append_left _ (List.mem_of_getElem? (i := 17) rfl)) rfl
theorem wS_18 : Cond.selects "ScopeTree$Descriptor" ⟨"ScopeTree$Descriptor", "isSame", "(LScopeTree$Descriptor;)Z"⟩ ⟨"ScopeTree$Descriptor", "isSame", "(LScopeTree$Descriptor;)Z"⟩ ∈ aw_TB := aw_tb (List.mem_append_left _ (List.mem_of_getElem? (i := 18) rfl)) rfl
theorem wS_19 : Cond.selects "ScopeTree" ⟨"ScopeTree", "newLoader", "(ILScopeTree$Loader;[LScopeTree$Archive;LScopeTree$Filter;)LScopeTree$Loader;"⟩ ⟨"ScopeTree", "newLoader", "(ILScopeTree$Loader;[LScopeTree$Archive;LScopeTree$Filter;)LScopeTree$Loader;"⟩ ∈ aw_TB := aw_tb (List.mem_append_left _ (List.mem_of_getElem? (i := 19) rfl)) rfl
theorem wS_20 : Cond.selects "ScopeTree" ⟨"ScopeTree", "leastFreeLoaderNumber", "()I"⟩ ⟨"ScopeTree", "leastFreeLoaderNumber", "()I"⟩ ∈ aw_TB := aw_tb (List.mem_append_left _ (List.mem_of_getElem? (i := 20) rfl)) rfl
theorem wS_21 : Cond.selects "ScopeTree" ⟨"ScopeTree", "wantedFiltering", "(LScopeTree$Filter;LScopeTree$Loader;)LScopeTree$Loader;"⟩ ⟨"ScopeTree", "wantedFiltering", "(LScopeTree$Filter;LScopeTree$Loader;)LScopeTree$Loader;"⟩ ∈ aw_TB := aw_tb (List.mem_append_left _ (List.mem_of_getElem? (i := 21) rfl)) rfl
theorem wS_22 : Cond.selects "ScopeTree$Filter" ⟨"ScopeTree$Filter", "isSame", "(LScopeTree$Filter;)Z"⟩ ⟨"ScopeTree$Filter", "isSame", "(LScopeTree$Filter;)Z"⟩ ∈ aw_TB := aw_tb (List.mem_append_left _ (List.mem_of_getElem? (i := 22) rfl)) rfl
theorem wS_23 : Cond.selects "ScopeTree" ⟨"ScopeTree", "hasChildLeft", "(LScopeTree$Scope;)Z"⟩ ⟨"ScopeTree", "hasChildLeft", "(LScopeTree$Scope;)Z"⟩ ∈ aw_TB := aw_tb (List.mem_append_left _ (List.mem_of_getElem? (i := 23) rfl)) rfl
theorem wS_24 : Cond.selects "ScopeTree" ⟨"ScopeTree", "letGo", "(LScopeTree$Loader;)I"⟩ ⟨"ScopeTree", "letGo", "(LScopeTree$Loader;)I"⟩ ∈ aw_TB := aw_tb (List.mem_append_left _ (List.mem_of_getElem? (i := 24) rfl)) rfl
theorem wS_25 : Cond.selects "ScopeTree" ⟨"ScopeTree", "typeFromScope", "(LScopeTree$Scope;I)LScopeTree$Type;"⟩ ⟨"ScopeTree", "typeFromScope", "(LScopeTree$Scope;I)LScopeTree$Type;"⟩ ∈ aw_TB := aw_tb (List.mem_append_left _ (List.mem_of_getElem? (i := 25) rfl)) rfl
theorem wS_26 : Cond.selects "ScopeTree" ⟨"ScopeTree", "findFrom", "(LScopeTree$Loader;II)LScopeTree$Type;"⟩ ⟨"ScopeTree", "findFrom", "(LScopeTree$Loader;II)LScopeTree$Type;"⟩ ∈ aw_TB := aw_tb (List.mem_append_left _ (List.mem_of_getElem? (i := 26) rfl)) rfl
theorem wS_27 : Cond.selects "ScopeTree$Filter" ⟨"ScopeTree$Filter", "admits", "(I)Z"⟩ ⟨"ScopeTree$Filter", "admits", "(I)Z"⟩ ∈ aw_TB := aw_tb (List.mem_append_left _ (List.mem_of_getElem? (i := 27) rfl)) rfl
theorem wS_28 : Cond.selects "ScopeTree$Loader" ⟨"ScopeTree$Loader", "fileOf", "(I)LScopeTree$ClassFile;"⟩ ⟨"ScopeTree$Loader", "fileOf", "(I)LScopeTree$ClassFile;"⟩ ∈ aw_TB := aw_tb (List.mem_append_left _ (List.mem_of_getElem? (i := 28) rfl)) rfl
theorem wS_29 : Cond.selects "ScopeTree" ⟨"ScopeTree", "typeDefinedBy", "(LScopeTree$Loader;LScopeTree$ClassFile;I)LScopeTree$Type;"⟩ ⟨"ScopeTree", "typeDefinedBy", "(LScopeTree$Loader;LScopeTree$ClassFile;I)LScopeTree$Type;"⟩ ∈ aw_TB := aw_tb (List.mem_append_left _ (List.mem_of_getElem? (i := 29) rfl)) rfl
theorem wS_30 : Cond.selects "ScopeTree" ⟨"ScopeTree", "knownType", "(LScopeTree$Loader;I)LScopeTree$Type;"⟩ ⟨"ScopeTree", "knownType", "(LScopeTree$Loader;I)LScopeTree$Type;"⟩ ∈ aw_TB := aw_tb (List.mem_append_left _ (List.mem_of_getElem? (i := 30) rfl)) rfl
theorem wS_31 : Cond.selects "ScopeTree" ⟨"ScopeTree", "isBeingDefined", "(LScopeTree$Loader;II)Z"⟩ ⟨"ScopeTree", "isBeingDefined", "(LScopeTree$Loader;II)Z"⟩ ∈ aw_TB := aw_tb (List.mem_append_left _ (List.mem_of_getElem? (i := 31) rfl)) rfl
theorem wS_32 : Cond.selects "ScopeTree" ⟨"ScopeTree", "newType", "(LScopeTree$ClassFile;LScopeTree$Loader;LScopeTree$Type;)LScopeTree$Type;"⟩ ⟨"ScopeTree", "newType", "(LScopeTree$ClassFile;LScopeTree$Loader;LScopeTree$Type;)LScopeTree$Type;"⟩ ∈ aw_TB := aw_tb (List.mem_append_left _ (List.mem_of_getElem? (i := 32) rfl)) rfl
theorem wS_33 : Cond.selects "ScopeTree" ⟨"ScopeTree", "typeAt", "(I)LScopeTree$Type;"⟩ ⟨"ScopeTree", "typeAt", "(I)LScopeTree$Type;"⟩ ∈ aw_TB := aw_tb (List.mem_append_left _ (List.mem_of_getElem? (i := 33) rfl)) rfl
theorem wS_34 : Cond.selects "ScopeTree$Loader" ⟨"ScopeTree$Loader", "descriptorOf", "(I)LScopeTree$Descriptor;"⟩ ⟨"ScopeTree$Loader", "descriptorOf", "(I)LScopeTree$Descriptor;"⟩ ∈ aw_TB := aw_tb (List.mem_append_left _ (List.mem_of_getElem? (i := 34) rfl)) rfl
theorem wS_35 : Cond.selects "ScopeTree$Scope" ⟨"ScopeTree$Scope", "hasApplied", "(LScopeTree$Type;)Z"⟩ ⟨"ScopeTree$Scope", "hasApplied", "(LScopeTree$Type;)Z"⟩ ∈ aw_TB := aw_tb (List.mem_append_left _ (List.mem_of_getElem? (i := 35) rfl)) rfl
theorem wS_36 : Cond.selects "ScopeTree$Scope" ⟨"ScopeTree$Scope", "appendApplied", "(LScopeTree$Type;)Z"⟩ ⟨"ScopeTree$Scope", "appendApplied", "(LScopeTree$Type;)Z"⟩ ∈ aw_TB := aw_tb (List.mem_append_left _ (List.mem_of_getElem? (i := 36) rfl)) rfl
theorem wS_37 : Cond.selects "ScopeTreeModel" ⟨"ScopeTreeModel", "fails", "(ZI)Z"⟩ ⟨"ScopeTreeModel", "fails", "(ZI)Z"⟩ ∈ aw_TB := aw_tb (List.mem_append_left _ (List.mem_of_getElem? (i := 37) rfl)) rfl
theorem wS_38 : Cond.selects "ScopeTreeModel" ⟨"ScopeTreeModel", "noScope", "(I)Z"⟩ ⟨"ScopeTreeModel", "noScope", "(I)Z"⟩ ∈ aw_TB := aw_tb (List.mem_append_left _ (List.mem_of_getElem? (i := 38) rfl)) rfl
theorem wS_39 : Cond.selects "ScopeTreeModel" ⟨"ScopeTreeModel", "freeLoaders", "()I"⟩ ⟨"ScopeTreeModel", "freeLoaders", "()I"⟩ ∈ aw_TB := aw_tb (List.mem_append_left _ (List.mem_of_getElem? (i := 39) rfl)) rfl
theorem wS_40 : Cond.selects "ScopeTreeModel" ⟨"ScopeTreeModel", "defining", "(III)I"⟩ ⟨"ScopeTreeModel", "defining", "(III)I"⟩ ∈ aw_TB := aw_tb (List.mem_append_left _ (List.mem_of_getElem? (i := 40) rfl)) rfl
theorem wS_41 : Cond.selects "ScopeTreeModel" ⟨"ScopeTreeModel", "alike", "(II)Z"⟩ ⟨"ScopeTreeModel", "alike", "(II)Z"⟩ ∈ aw_TB := aw_tb (List.mem_append_left _ (List.mem_of_getElem? (i := 41) rfl)) rfl
theorem wS_42 : Cond.selects "ScopeTreeModel" ⟨"ScopeTreeModel", "fileOf", "(II)I"⟩ ⟨"ScopeTreeModel", "fileOf", "(II)I"⟩ ∈ aw_TB := aw_tb (List.mem_append_left _ (List.mem_of_getElem? (i := 42) rfl)) rfl
theorem wS_43 : Cond.selects "ScopeTreeModel" ⟨"ScopeTreeModel", "described", "(II)I"⟩ ⟨"ScopeTreeModel", "described", "(II)I"⟩ ∈ aw_TB := aw_tb (List.mem_append_left _ (List.mem_of_getElem? (i := 43) rfl)) rfl
theorem wS_44 : Cond.selects "ScopeTreeModel" ⟨"ScopeTreeModel", "begin", "(II)I"⟩ ⟨"ScopeTreeModel", "begin", "(II)I"⟩ ∈ aw_TB := aw_tb (List.mem_append_left _ (List.mem_of_getElem? (i := 44) rfl)) rfl
theorem wS_45 : Cond.selects "ScopeTreeModel" ⟨"ScopeTreeModel", "freeLoader", "()I"⟩ ⟨"ScopeTreeModel", "freeLoader", "()I"⟩ ∈ aw_TB := aw_tb (List.mem_append_left _ (List.mem_of_getElem? (i := 45) rfl)) rfl
theorem wS_46 : Cond.selects "ScopeTreeModel" ⟨"ScopeTreeModel", "copySheet", "(II)V"⟩ ⟨"ScopeTreeModel", "copySheet", "(II)V"⟩ ∈ aw_TB := aw_tb (List.mem_append_left _ (List.mem_of_getElem? (i := 46) rfl)) rfl
theorem wS_47 : Cond.selects "ScopeTreeModel" ⟨"ScopeTreeModel", "filtering", "(II)I"⟩ ⟨"ScopeTreeModel", "filtering", "(II)I"⟩ ∈ aw_TB := aw_tb (List.mem_append_left _ (List.mem_of_getElem? (i := 47) rfl)) rfl
theorem wS_48 : Cond.selects "ScopeTreeModel" ⟨"ScopeTreeModel", "sweep", "()I"⟩ ⟨"ScopeTreeModel", "sweep", "()I"⟩ ∈ aw_TB := aw_tb (List.mem_append_left _ (List.mem_of_getElem? (i := 48) rfl)) rfl
theorem wS_49 : Cond.selects "ScopeTreeModel" ⟨"ScopeTreeModel", "holders", "(I)I"⟩ ⟨"ScopeTreeModel", "holders", "(I)I"⟩ ∈ aw_TB := aw_tb (List.mem_append_left _ (List.mem_of_getElem? (i := 49) rfl)) rfl
theorem wS_50 : Cond.selects "ScopeTreeModel" ⟨"ScopeTreeModel", "loads", "(II)I"⟩ ⟨"ScopeTreeModel", "loads", "(II)I"⟩ ∈ aw_TB := aw_tb (List.mem_append_left _ (List.mem_of_getElem? (i := 50) rfl)) rfl
theorem wS_51 : Cond.selects "ScopeTreeModel" ⟨"ScopeTreeModel", "resolve", "(II)I"⟩ ⟨"ScopeTreeModel", "resolve", "(II)I"⟩ ∈ aw_TB := aw_tb (List.mem_append_left _ (List.mem_of_getElem? (i := 51) rfl)) rfl
theorem wS_52 : Cond.selects "ScopeTreeModel" ⟨"ScopeTreeModel", "seek", "(II)Z"⟩ ⟨"ScopeTreeModel", "seek", "(II)Z"⟩ ∈ aw_TB := aw_tb (List.mem_append_left _ (List.mem_of_getElem? (i := 52) rfl)) rfl
theorem wS_53 : Cond.selects "ScopeTreeModel" ⟨"ScopeTreeModel", "admits", "(II)Z"⟩ ⟨"ScopeTreeModel", "admits", "(II)Z"⟩ ∈ aw_TB := aw_tb (List.mem_append_left _ (List.mem_of_getElem? (i := 53) rfl)) rfl
theorem wS_54 : Cond.selects "ScopeTreeModel" ⟨"ScopeTreeModel", "definedBy", "(II)I"⟩ ⟨"ScopeTreeModel", "definedBy", "(II)I"⟩ ∈ aw_TB := aw_tb (List.mem_append_left _ (List.mem_of_getElem? (i := 54) rfl)) rfl
theorem wS_55 : Cond.selects "ScopeTreeModel" ⟨"ScopeTreeModel", "descends", "(II)Z"⟩ ⟨"ScopeTreeModel", "descends", "(II)Z"⟩ ∈ aw_TB := aw_tb (List.mem_append_left _ (List.mem_of_getElem? (i := 55) rfl)) rfl
theorem wS_56 : Cond.selects "ScopeTreeModel" ⟨"ScopeTreeModel", "describedFrom", "(II)I"⟩ ⟨"ScopeTreeModel", "describedFrom", "(II)I"⟩ ∈ aw_TB := aw_tb (List.mem_append_left _ (List.mem_of_getElem? (i := 56) rfl)) rfl
theorem in_A : ∀ w ∈ u_ws "ScopeTree$Archive" tn_A 4, w ∈ aw_TB := by
  show ∀ w ∈ [(Cond.laysFinal "ScopeTree$Archive" "ScopeTree$Archive" "files" "[LScopeTree$ClassFile;"), (Cond.lays "ScopeTree$Archive" "ScopeTree$Archive" "fileCount" "I"), (Cond.laysFinal "ScopeTree$Archive" "ScopeTree$Archive" "descriptors" "[LScopeTree$Descriptor;"), (Cond.lays "ScopeTree$Archive" "ScopeTree$Archive" "descriptorCount" "I")], w ∈ aw_TB
  exact List.forall_mem_cons.mpr ⟨wT_1_53, List.forall_mem_cons.mpr ⟨wT_1_55, List.forall_mem_cons.mpr ⟨wT_1_57, List.forall_mem_cons.mpr ⟨wT_1_59, fun _ h => absurd h List.not_mem_nil⟩⟩⟩⟩
theorem nm_A : ∀ a, a < 4 → ∀ b, b < 4 → a ≠ b → (tn_A a).2.1 ≠ (tn_A b).2.1 := by decide +kernel
theorem tk_A : ∀ j, j < 4 → parseFieldDescriptor (tn_A j).2.2.1 = some (ty_A j) := by decide +kernel
theorem in_C : ∀ w ∈ u_ws "ScopeTree$ClassFile" tn_C 3, w ∈ aw_TB := by
  show ∀ w ∈ [(Cond.laysFinal "ScopeTree$ClassFile" "ScopeTree$ClassFile" "name" "I"), (Cond.laysFinal "ScopeTree$ClassFile" "ScopeTree$ClassFile" "superName" "I"), (Cond.laysFinal "ScopeTree$ClassFile" "ScopeTree$ClassFile" "version" "I")], w ∈ aw_TB
  exact List.forall_mem_cons.mpr ⟨wT_2_77, List.forall_mem_cons.mpr ⟨wT_2_79, List.forall_mem_cons.mpr ⟨wT_2_81, fun _ h => absurd h List.not_mem_nil⟩⟩⟩
theorem nm_C : ∀ a, a < 3 → ∀ b, b < 3 → a ≠ b → (tn_C a).2.1 ≠ (tn_C b).2.1 := by decide +kernel
theorem tk_C : ∀ j, j < 3 → parseFieldDescriptor (tn_C j).2.2.1 = some (ty_C j) := by decide +kernel
theorem in_D : ∀ w ∈ u_ws "ScopeTree$Descriptor" tn_D 2, w ∈ aw_TB := by
  show ∀ w ∈ [(Cond.laysFinal "ScopeTree$Descriptor" "ScopeTree$Descriptor" "plugin" "I"), (Cond.laysFinal "ScopeTree$Descriptor" "ScopeTree$Descriptor" "name" "I")], w ∈ aw_TB
  exact List.forall_mem_cons.mpr ⟨wT_2_129, List.forall_mem_cons.mpr ⟨wT_2_131, fun _ h => absurd h List.not_mem_nil⟩⟩
theorem nm_D : ∀ a, a < 2 → ∀ b, b < 2 → a ≠ b → (tn_D a).2.1 ≠ (tn_D b).2.1 := by decide +kernel
theorem tk_D : ∀ j, j < 2 → parseFieldDescriptor (tn_D j).2.2.1 = some (ty_D j) := by decide +kernel
theorem in_F : ∀ w ∈ u_ws "ScopeTree$Filter" tn_F 3, w ∈ aw_TB := by
  show ∀ w ∈ [(Cond.laysFinal "ScopeTree$Filter" "ScopeTree$Filter" "packages" "I"), (Cond.laysFinal "ScopeTree$Filter" "ScopeTree$Filter" "allowed" "J"), (Cond.laysFinal "ScopeTree$Filter" "ScopeTree$Filter" "denied" "J")], w ∈ aw_TB
  exact List.forall_mem_cons.mpr ⟨wT_2_203, List.forall_mem_cons.mpr ⟨wT_2_205, List.forall_mem_cons.mpr ⟨wT_2_207, fun _ h => absurd h List.not_mem_nil⟩⟩⟩
theorem nm_F : ∀ a, a < 3 → ∀ b, b < 3 → a ≠ b → (tn_F a).2.1 ≠ (tn_F b).2.1 := by decide +kernel
theorem tk_F : ∀ j, j < 3 → parseFieldDescriptor (tn_F j).2.2.1 = some (ty_F j) := by decide +kernel
theorem in_L : ∀ w ∈ u_ws "ScopeTree$Loader" tn_L 8, w ∈ aw_TB := by
  show ∀ w ∈ [(Cond.laysFinal "ScopeTree$Loader" "ScopeTree$Loader" "number" "I"), (Cond.laysFinal "ScopeTree$Loader" "ScopeTree$Loader" "kind" "I"), (Cond.laysFinal "ScopeTree$Loader" "ScopeTree$Loader" "parent" "LScopeTree$Loader;"), (Cond.laysFinal "ScopeTree$Loader" "ScopeTree$Loader" "contents" "[LScopeTree$Archive;"), (Cond.laysFinal "ScopeTree$Loader" "ScopeTree$Loader" "filter" "LScopeTree$Filter;"), (Cond.lays "ScopeTree$Loader" "ScopeTree$Loader" "holders" "I"), (Cond.lays "ScopeTree$Loader" "ScopeTree$Loader" "definedCount" "I"), (Cond.lays "ScopeTree$Loader" "ScopeTree$Loader" "isGone" "Z")], w ∈ aw_TB
  exact List.forall_mem_cons.mpr ⟨wT_1_80, List.forall_mem_cons.mpr ⟨wT_1_82, List.forall_mem_cons.mpr ⟨wT_1_84, List.forall_mem_cons.mpr ⟨wT_1_86, List.forall_mem_cons.mpr ⟨wT_1_88, List.forall_mem_cons.mpr ⟨wT_1_90, List.forall_mem_cons.mpr ⟨wT_1_92, List.forall_mem_cons.mpr ⟨wT_1_94, fun _ h => absurd h List.not_mem_nil⟩⟩⟩⟩⟩⟩⟩⟩
theorem nm_L : ∀ a, a < 8 → ∀ b, b < 8 → a ≠ b → (tn_L a).2.1 ≠ (tn_L b).2.1 := by decide +kernel
theorem tk_L : ∀ j, j < 8 → parseFieldDescriptor (tn_L j).2.2.1 = some (ty_L j) := by decide +kernel
theorem in_P : ∀ w ∈ u_ws "ScopeTree$Path" tn_P 2, w ∈ aw_TB := by
  show ∀ w ∈ [(Cond.laysFinal "ScopeTree$Path" "ScopeTree$Path" "archives" "[I"), (Cond.lays "ScopeTree$Path" "ScopeTree$Path" "length" "I")], w ∈ aw_TB
  exact List.forall_mem_cons.mpr ⟨wT_1_138, List.forall_mem_cons.mpr ⟨wT_1_140, fun _ h => absurd h List.not_mem_nil⟩⟩
theorem nm_P : ∀ a, a < 2 → ∀ b, b < 2 → a ≠ b → (tn_P a).2.1 ≠ (tn_P b).2.1 := by decide +kernel
theorem tk_P : ∀ j, j < 2 → parseFieldDescriptor (tn_P j).2.2.1 = some (ty_P j) := by decide +kernel
theorem in_S : ∀ w ∈ u_ws "ScopeTree$Scope" tn_S 10, w ∈ aw_TB := by
  show ∀ w ∈ [(Cond.laysFinal "ScopeTree$Scope" "ScopeTree$Scope" "parent" "LScopeTree$Scope;"), (Cond.laysFinal "ScopeTree$Scope" "ScopeTree$Scope" "localPath" "LScopeTree$Path;"), (Cond.laysFinal "ScopeTree$Scope" "ScopeTree$Scope" "exportPath" "LScopeTree$Path;"), (Cond.lays "ScopeTree$Scope" "ScopeTree$Scope" "filter" "LScopeTree$Filter;"), (Cond.lays "ScopeTree$Scope" "ScopeTree$Scope" "state" "LScopeTree$State;"), (Cond.lays "ScopeTree$Scope" "ScopeTree$Scope" "baseLoader" "LScopeTree$Loader;"), (Cond.lays "ScopeTree$Scope" "ScopeTree$Scope" "exportLoader" "LScopeTree$Loader;"), (Cond.lays "ScopeTree$Scope" "ScopeTree$Scope" "localLoader" "LScopeTree$Loader;"), (Cond.laysFinal "ScopeTree$Scope" "ScopeTree$Scope" "applied" "[LScopeTree$Type;"), (Cond.lays "ScopeTree$Scope" "ScopeTree$Scope" "appliedCount" "I")], w ∈ aw_TB
  exact List.forall_mem_cons.mpr ⟨wT_1_162, List.forall_mem_cons.mpr ⟨wT_1_164, List.forall_mem_cons.mpr ⟨wT_1_166, List.forall_mem_cons.mpr ⟨wT_1_168, List.forall_mem_cons.mpr ⟨wT_1_170, List.forall_mem_cons.mpr ⟨wT_1_172, List.forall_mem_cons.mpr ⟨wT_1_174, List.forall_mem_cons.mpr ⟨wT_1_176, List.forall_mem_cons.mpr ⟨wT_1_178, List.forall_mem_cons.mpr ⟨wT_1_180, fun _ h => absurd h List.not_mem_nil⟩⟩⟩⟩⟩⟩⟩⟩⟩⟩
theorem nm_S : ∀ a, a < 10 → ∀ b, b < 10 → a ≠ b → (tn_S a).2.1 ≠ (tn_S b).2.1 := by decide +kernel
theorem tk_S : ∀ j, j < 10 → parseFieldDescriptor (tn_S j).2.2.1 = some (ty_S j) := by decide +kernel
theorem in_Y : ∀ w ∈ u_ws "ScopeTree$Type" tn_Y 5, w ∈ aw_TB := by
  show ∀ w ∈ [(Cond.laysFinal "ScopeTree$Type" "ScopeTree$Type" "number" "I"), (Cond.laysFinal "ScopeTree$Type" "ScopeTree$Type" "name" "I"), (Cond.laysFinal "ScopeTree$Type" "ScopeTree$Type" "version" "I"), (Cond.laysFinal "ScopeTree$Type" "ScopeTree$Type" "definer" "LScopeTree$Loader;"), (Cond.laysFinal "ScopeTree$Type" "ScopeTree$Type" "superType" "LScopeTree$Type;")], w ∈ aw_TB
  exact List.forall_mem_cons.mpr ⟨wT_1_112, List.forall_mem_cons.mpr ⟨wT_1_114, List.forall_mem_cons.mpr ⟨wT_1_116, List.forall_mem_cons.mpr ⟨wT_1_118, List.forall_mem_cons.mpr ⟨wT_1_120, fun _ h => absurd h List.not_mem_nil⟩⟩⟩⟩⟩
theorem nm_Y : ∀ a, a < 5 → ∀ b, b < 5 → a ≠ b → (tn_Y a).2.1 ≠ (tn_Y b).2.1 := by decide +kernel
theorem tk_Y : ∀ j, j < 5 → parseFieldDescriptor (tn_Y j).2.2.1 = some (ty_Y j) := by decide +kernel
theorem in_T : ∀ w ∈ u_ws "ScopeTree" tn_T 8, w ∈ aw_TB := by
  show ∀ w ∈ [(Cond.laysFinal "ScopeTree" "ScopeTree" "archives" "[LScopeTree$Archive;"), (Cond.laysFinal "ScopeTree" "ScopeTree" "scopes" "[LScopeTree$Scope;"), (Cond.lays "ScopeTree" "ScopeTree" "scopeCount" "I"), (Cond.laysFinal "ScopeTree" "ScopeTree" "loaders" "[LScopeTree$Loader;"), (Cond.laysFinal "ScopeTree" "ScopeTree" "types" "[LScopeTree$Type;"), (Cond.lays "ScopeTree" "ScopeTree" "typeCount" "I"), (Cond.laysFinal "ScopeTree" "ScopeTree" "openLoaders" "[LScopeTree$Loader;"), (Cond.laysFinal "ScopeTree" "ScopeTree" "openNames" "[I")], w ∈ aw_TB
  exact List.forall_mem_cons.mpr ⟨wT_1_193, List.forall_mem_cons.mpr ⟨wT_1_195, List.forall_mem_cons.mpr ⟨wT_1_197, List.forall_mem_cons.mpr ⟨wT_1_199, List.forall_mem_cons.mpr ⟨wT_1_201, List.forall_mem_cons.mpr ⟨wT_1_203, List.forall_mem_cons.mpr ⟨wT_1_205, List.forall_mem_cons.mpr ⟨wT_1_207, fun _ h => absurd h List.not_mem_nil⟩⟩⟩⟩⟩⟩⟩⟩
theorem nm_T : ∀ a, a < 8 → ∀ b, b < 8 → a ≠ b → (tn_T a).2.1 ≠ (tn_T b).2.1 := by decide +kernel
theorem tk_T : ∀ j, j < 8 → parseFieldDescriptor (tn_T j).2.2.1 = some (ty_T j) := by decide +kernel
theorem in_M : ∀ w ∈ u_ws "ScopeTreeModel" tn_M 33, w ∈ aw_TB := by
  show ∀ w ∈ [(Cond.lays "ScopeTreeModel" "ScopeTreeModel" "thrown" "I"), (Cond.laysFinal "ScopeTreeModel" "ScopeTreeModel" "files" "[I"), (Cond.laysFinal "ScopeTreeModel" "ScopeTreeModel" "file" "[I"), (Cond.laysFinal "ScopeTreeModel" "ScopeTreeModel" "descriptors" "[I"), (Cond.laysFinal "ScopeTreeModel" "ScopeTreeModel" "descriptor" "[I"), (Cond.laysFinal "ScopeTreeModel" "ScopeTreeModel" "there" "[Z"), (Cond.laysFinal "ScopeTreeModel" "ScopeTreeModel" "kind" "[I"), (Cond.laysFinal "ScopeTreeModel" "ScopeTreeModel" "parent" "[I"), (Cond.laysFinal "ScopeTreeModel" "ScopeTreeModel" "pathLength" "[I"), (Cond.laysFinal "ScopeTreeModel" "ScopeTreeModel" "filterPackages" "[I"), (Cond.laysFinal "ScopeTreeModel" "ScopeTreeModel" "filterAllowed" "[J"), (Cond.laysFinal "ScopeTreeModel" "ScopeTreeModel" "filterDenied" "[J"), (Cond.lays "ScopeTreeModel" "ScopeTreeModel" "scopes" "I"), (Cond.laysFinal "ScopeTreeModel" "ScopeTreeModel" "state" "[I"), (Cond.laysFinal "ScopeTreeModel" "ScopeTreeModel" "above" "[I"), (Cond.laysFinal "ScopeTreeModel" "ScopeTreeModel" "paths" "[I"), (Cond.laysFinal "ScopeTreeModel" "ScopeTreeModel" "lengths" "[I"), (Cond.laysFinal "ScopeTreeModel" "ScopeTreeModel" "filtered" "[Z"), (Cond.laysFinal "ScopeTreeModel" "ScopeTreeModel" "packages" "[I"), (Cond.laysFinal "ScopeTreeModel" "ScopeTreeModel" "allowed" "[J"), (Cond.laysFinal "ScopeTreeModel" "ScopeTreeModel" "denied" "[J"), (Cond.laysFinal "ScopeTreeModel" "ScopeTreeModel" "three" "[I"), (Cond.laysFinal "ScopeTreeModel" "ScopeTreeModel" "applied" "[I"), (Cond.laysFinal "ScopeTreeModel" "ScopeTreeModel" "appliedCount" "[I"), (Cond.lays "ScopeTreeModel" "ScopeTreeModel" "classes" "I"), (Cond.laysFinal "ScopeTreeModel" "ScopeTreeModel" "nameOf" "[I"), (Cond.laysFinal "ScopeTreeModel" "ScopeTreeModel" "loaderOf" "[I"), (Cond.laysFinal "ScopeTreeModel" "ScopeTreeModel" "versionOf" "[I"), (Cond.laysFinal "ScopeTreeModel" "ScopeTreeModel" "superOf" "[I"), (Cond.lays "ScopeTreeModel" "ScopeTreeModel" "foundLoader" "I"), (Cond.lays "ScopeTreeModel" "ScopeTreeModel" "foundFile" "I"), (Cond.laysFinal "ScopeTreeModel" "ScopeTreeModel" "waitingLoader" "[I"), (Cond.laysFinal "ScopeTreeModel" "ScopeTreeModel" "waitingFile" "[I")], w ∈ aw_TB
  exact List.forall_mem_cons.mpr ⟨wT_3_239, List.forall_mem_cons.mpr ⟨wT_4_1, List.forall_mem_cons.mpr ⟨wT_4_3, List.forall_mem_cons.mpr ⟨wT_4_5, List.forall_mem_cons.mpr ⟨wT_4_7, List.forall_mem_cons.mpr ⟨wT_4_9, List.forall_mem_cons.mpr ⟨wT_4_11, List.forall_mem_cons.mpr ⟨wT_4_13, List.forall_mem_cons.mpr ⟨wT_4_15, List.forall_mem_cons.mpr ⟨wT_4_17, List.forall_mem_cons.mpr ⟨wT_4_19, List.forall_mem_cons.mpr ⟨wT_4_21, List.forall_mem_cons.mpr ⟨wT_4_23, List.forall_mem_cons.mpr ⟨wT_4_25, List.forall_mem_cons.mpr ⟨wT_4_27, List.forall_mem_cons.mpr ⟨wT_4_29, List.forall_mem_cons.mpr ⟨wT_4_31, List.forall_mem_cons.mpr ⟨wT_4_33, List.forall_mem_cons.mpr ⟨wT_4_35, List.forall_mem_cons.mpr ⟨wT_4_37, List.forall_mem_cons.mpr ⟨wT_4_39, List.forall_mem_cons.mpr ⟨wT_4_41, List.forall_mem_cons.mpr ⟨wT_4_43, List.forall_mem_cons.mpr ⟨wT_4_45, List.forall_mem_cons.mpr ⟨wT_4_47, List.forall_mem_cons.mpr ⟨wT_4_49, List.forall_mem_cons.mpr ⟨wT_4_51, List.forall_mem_cons.mpr ⟨wT_4_53, List.forall_mem_cons.mpr ⟨wT_4_55, List.forall_mem_cons.mpr ⟨wT_4_57, List.forall_mem_cons.mpr ⟨wT_4_59, List.forall_mem_cons.mpr ⟨wT_4_61, List.forall_mem_cons.mpr ⟨wT_4_63, fun _ h => absurd h List.not_mem_nil⟩⟩⟩⟩⟩⟩⟩⟩⟩⟩⟩⟩⟩⟩⟩⟩⟩⟩⟩⟩⟩⟩⟩⟩⟩⟩⟩⟩⟩⟩⟩⟩⟩
theorem nm_M : ∀ a, a < 33 → ∀ b, b < 33 → a ≠ b → (tn_M a).2.1 ≠ (tn_M b).2.1 := by decide +kernel
theorem tk_M : ∀ j, j < 33 → parseFieldDescriptor (tn_M j).2.2.1 = some (ty_M j) := by decide +kernel
abbrev mT_init : aw_M := (⟨"ScopeTree", "<init>", "()V"⟩, prog_1_method_1_code, 3, none, [])
abbrev mA_init : aw_M := (⟨"ScopeTree$Archive", "<init>", "()V"⟩, prog_2_method_1_code, 1, none, [])
abbrev mL_init : aw_M := (⟨"ScopeTree$Loader", "<init>", "(IILScopeTree$Loader;[LScopeTree$Archive;LScopeTree$Filter;)V"⟩, prog_6_method_1_code, 6, none, [])
abbrev mY_init : aw_M := (⟨"ScopeTree$Type", "<init>", "(IIILScopeTree$Loader;LScopeTree$Type;)V"⟩, prog_10_method_1_code, 6, none, [])
abbrev mS_init : aw_M := (⟨"ScopeTree$Scope", "<init>", "(LScopeTree$Scope;)V"⟩, prog_8_method_1_code, 2, none, [])
abbrev mP_init : aw_M := (⟨"ScopeTree$Path", "<init>", "()V"⟩, prog_7_method_1_code, 1, none, [])
abbrev mT_look : aw_M := (⟨"ScopeTree", "look", "(II)I"⟩, prog_1_method_11_code, 4, some .int, [])
abbrev mT_isBelow : aw_M := (⟨"ScopeTree", "isBelow", "(II)Z"⟩, prog_1_method_17_code, 2, some .boolean, [])
abbrev mW_file : aw_M := (⟨"ScopeTreeLaw", "file", "(LScopeTree;IIII[J)I"⟩, method_3_code, 7, some .int, [(0, 14, 17, 13), (0, 14, 21, 15)])
abbrev mT_file : aw_M := (⟨"ScopeTree", "file", "(IIII)I"⟩, prog_1_method_2_code, 6, some .int, [])
abbrev mT_archiveAt : aw_M := (⟨"ScopeTree", "archiveAt", "(I)LScopeTree$Archive;"⟩, prog_1_method_18_code, 2, some (.object "ScopeTree$Archive"), [])
abbrev mC_init : aw_M := (⟨"ScopeTree$ClassFile", "<init>", "(III)V"⟩, prog_3_method_1_code, 4, none, [])
abbrev mR_init : aw_M := (⟨"java/lang/Record", "<init>", "()V"⟩, prog_18_method_1_code, 1, none, [])
abbrev mA_putFile : aw_M := (⟨"ScopeTree$Archive", "putFile", "(LScopeTree$ClassFile;)Z"⟩, prog_2_method_4_code, 3, some .boolean, [])
abbrev mA_placeOfFile : aw_M := (⟨"ScopeTree$Archive", "placeOfFile", "(I)I"⟩, prog_2_method_6_code, 3, some .int, [])
abbrev mW_descriptor : aw_M := (⟨"ScopeTreeLaw", "descriptor", "(LScopeTree;III[J)I"⟩, method_4_code, 6, some .int, [(0, 12, 15, 13), (0, 12, 19, 15)])
abbrev mT_descriptor : aw_M := (⟨"ScopeTree", "descriptor", "(III)I"⟩, prog_1_method_3_code, 5, some .int, [])
abbrev mD_init : aw_M := (⟨"ScopeTree$Descriptor", "<init>", "(II)V"⟩, prog_4_method_1_code, 3, none, [])
abbrev mA_putDescriptor : aw_M := (⟨"ScopeTree$Archive", "putDescriptor", "(LScopeTree$Descriptor;)Z"⟩, prog_2_method_5_code, 3, some .boolean, [])
abbrev mA_placeOfDescriptor : aw_M := (⟨"ScopeTree$Archive", "placeOfDescriptor", "(I)I"⟩, prog_2_method_7_code, 3, some .int, [])
abbrev mW_wipe : aw_M := (⟨"ScopeTreeLaw", "wipe", "(LScopeTree;I)I"⟩, method_5_code, 3, some .int, [(0, 5, 8, 13)])
abbrev mT_wipe : aw_M := (⟨"ScopeTree", "wipe", "(I)V"⟩, prog_1_method_4_code, 3, none, [])
abbrev mW_child : aw_M := (⟨"ScopeTreeLaw", "child", "(LScopeTree;I[J)I"⟩, method_6_code, 4, some .int, [(0, 9, 12, 13), (0, 9, 15, 15)])
abbrev mT_child : aw_M := (⟨"ScopeTree", "child", "(I)I"⟩, prog_1_method_5_code, 3, some .int, [])
abbrev mT_scopeAt : aw_M := (⟨"ScopeTree", "scopeAt", "(I)LScopeTree$Scope;"⟩, prog_1_method_19_code, 2, some (.object "ScopeTree$Scope"), [])
abbrev mW_add : aw_M := (⟨"ScopeTreeLaw", "add", "(LScopeTree;IIZ[J)I"⟩, method_7_code, 6, some .int, [(0, 19, 22, 13), (0, 19, 26, 15)])
abbrev mT_add : aw_M := (⟨"ScopeTree", "add", "(IIZ)Z"⟩, prog_1_method_6_code, 5, some .boolean, [])
abbrev mT_requireOpen : aw_M := (⟨"ScopeTree", "requireOpen", "(LScopeTree$Scope;)V"⟩, prog_1_method_21_code, 1, none, [])
abbrev mP_append : aw_M := (⟨"ScopeTree$Path", "append", "(I)Z"⟩, prog_7_method_2_code, 2, some .boolean, [])
abbrev mP_contains : aw_M := (⟨"ScopeTree$Path", "contains", "(I)Z"⟩, prog_7_method_3_code, 3, some .boolean, [])
abbrev mW_filter : aw_M := (⟨"ScopeTreeLaw", "filter", "(LScopeTree;IIJJ)I"⟩, method_8_code, 8, some .int, [(0, 9, 12, 13), (0, 9, 16, 15)])
abbrev mT_filter : aw_M := (⟨"ScopeTree", "filter", "(IIJJ)V"⟩, prog_1_method_7_code, 8, none, [])
abbrev mF_init : aw_M := (⟨"ScopeTree$Filter", "<init>", "(IJJ)V"⟩, prog_5_method_1_code, 6, none, [])
abbrev mW_lock : aw_M := (⟨"ScopeTreeLaw", "lock", "(LScopeTree;I[J)I"⟩, method_9_code, 4, some .int, [(0, 9, 12, 13), (0, 9, 15, 15), (0, 9, 18, 40)])
abbrev mT_lock : aw_M := (⟨"ScopeTree", "lock", "(I)I"⟩, prog_1_method_8_code, 4, some .int, [])
abbrev mT_freeLoaderNumbers : aw_M := (⟨"ScopeTree", "freeLoaderNumbers", "()I"⟩, prog_1_method_24_code, 3, some .int, [])
abbrev mT_wantedDefining : aw_M := (⟨"ScopeTree", "wantedDefining", "(LScopeTree$Path;LScopeTree$Loader;)LScopeTree$Loader;"⟩, prog_1_method_25_code, 6, some (.object "ScopeTree$Loader"), [])
abbrev mT_contentsOf : aw_M := (⟨"ScopeTree", "contentsOf", "(LScopeTree$Path;)[LScopeTree$Archive;"⟩, prog_1_method_27_code, 4, some (.array (.object "ScopeTree$Archive")), [])
abbrev mA_copy : aw_M := (⟨"ScopeTree$Archive", "copy", "()LScopeTree$Archive;"⟩, prog_2_method_8_code, 3, some (.object "ScopeTree$Archive"), [])
abbrev mL_hasPathLike : aw_M := (⟨"ScopeTree$Loader", "hasPathLike", "([LScopeTree$Archive;)Z"⟩, prog_6_method_4_code, 3, some .boolean, [])
abbrev mA_isLike : aw_M := (⟨"ScopeTree$Archive", "isLike", "(LScopeTree$Archive;)Z"⟩, prog_2_method_9_code, 3, some .boolean, [])
abbrev mA_fileOf : aw_M := (⟨"ScopeTree$Archive", "fileOf", "(I)LScopeTree$ClassFile;"⟩, prog_2_method_2_code, 3, some (.object "ScopeTree$ClassFile"), [])
abbrev mC_isSame : aw_M := (⟨"ScopeTree$ClassFile", "isSame", "(LScopeTree$ClassFile;)Z"⟩, prog_3_method_2_code, 2, some .boolean, [])
abbrev mA_descriptorOf : aw_M := (⟨"ScopeTree$Archive", "descriptorOf", "(I)LScopeTree$Descriptor;"⟩, prog_2_method_3_code, 3, some (.object "ScopeTree$Descriptor"), [])
abbrev mD_isSame : aw_M := (⟨"ScopeTree$Descriptor", "isSame", "(LScopeTree$Descriptor;)Z"⟩, prog_4_method_2_code, 2, some .boolean, [])
abbrev mT_newLoader : aw_M := (⟨"ScopeTree", "newLoader", "(ILScopeTree$Loader;[LScopeTree$Archive;LScopeTree$Filter;)LScopeTree$Loader;"⟩, prog_1_method_28_code, 7, some (.object "ScopeTree$Loader"), [])
abbrev mT_leastFreeLoaderNumber : aw_M := (⟨"ScopeTree", "leastFreeLoaderNumber", "()I"⟩, prog_1_method_29_code, 2, some .int, [])
abbrev mT_wantedFiltering : aw_M := (⟨"ScopeTree", "wantedFiltering", "(LScopeTree$Filter;LScopeTree$Loader;)LScopeTree$Loader;"⟩, prog_1_method_26_code, 5, some (.object "ScopeTree$Loader"), [])
abbrev mF_isSame : aw_M := (⟨"ScopeTree$Filter", "isSame", "(LScopeTree$Filter;)Z"⟩, prog_5_method_3_code, 2, some .boolean, [])
abbrev mW_release : aw_M := (⟨"ScopeTreeLaw", "release", "(LScopeTree;I[J)I"⟩, method_10_code, 4, some .int, [(0, 9, 12, 13), (0, 9, 15, 15)])
abbrev mT_release : aw_M := (⟨"ScopeTree", "release", "(I)I"⟩, prog_1_method_9_code, 4, some .int, [])
abbrev mT_hasChildLeft : aw_M := (⟨"ScopeTree", "hasChildLeft", "(LScopeTree$Scope;)Z"⟩, prog_1_method_23_code, 3, some .boolean, [])
abbrev mT_letGo : aw_M := (⟨"ScopeTree", "letGo", "(LScopeTree$Loader;)I"⟩, prog_1_method_30_code, 4, some .int, [])
abbrev mW_loader : aw_M := (⟨"ScopeTreeLaw", "loader", "(LScopeTree;IZ[J)I"⟩, method_11_code, 5, some .int, [(0, 10, 13, 13)])
abbrev mT_loader : aw_M := (⟨"ScopeTree", "loader", "(IZ)I"⟩, prog_1_method_10_code, 4, some .int, [])
abbrev mW_load : aw_M := (⟨"ScopeTreeLaw", "load", "(LScopeTree;II[J)I"⟩, method_12_code, 5, some .int, [(0, 10, 13, 13), (0, 10, 17, 15), (0, 10, 21, 53), (0, 10, 25, 40)])
abbrev mT_load : aw_M := (⟨"ScopeTree", "load", "(II)I"⟩, prog_1_method_12_code, 4, some .int, [])
abbrev mT_requireLocked : aw_M := (⟨"ScopeTree", "requireLocked", "(LScopeTree$Scope;)V"⟩, prog_1_method_22_code, 1, none, [])
abbrev mT_typeFromScope : aw_M := (⟨"ScopeTree", "typeFromScope", "(LScopeTree$Scope;I)LScopeTree$Type;"⟩, prog_1_method_31_code, 4, some (.object "ScopeTree$Type"), [])
abbrev mT_findFrom : aw_M := (⟨"ScopeTree", "findFrom", "(LScopeTree$Loader;II)LScopeTree$Type;"⟩, prog_1_method_32_code, 6, some (.object "ScopeTree$Type"), [])
abbrev mF_admits : aw_M := (⟨"ScopeTree$Filter", "admits", "(I)Z"⟩, prog_5_method_2_code, 2, some .boolean, [])
abbrev mL_fileOf : aw_M := (⟨"ScopeTree$Loader", "fileOf", "(I)LScopeTree$ClassFile;"⟩, prog_6_method_2_code, 4, some (.object "ScopeTree$ClassFile"), [])
abbrev mT_typeDefinedBy : aw_M := (⟨"ScopeTree", "typeDefinedBy", "(LScopeTree$Loader;LScopeTree$ClassFile;I)LScopeTree$Type;"⟩, prog_1_method_33_code, 6, some (.object "ScopeTree$Type"), [])
abbrev mT_knownType : aw_M := (⟨"ScopeTree", "knownType", "(LScopeTree$Loader;I)LScopeTree$Type;"⟩, prog_1_method_34_code, 4, some (.object "ScopeTree$Type"), [])
abbrev mT_isBeingDefined : aw_M := (⟨"ScopeTree", "isBeingDefined", "(LScopeTree$Loader;II)Z"⟩, prog_1_method_35_code, 5, some .boolean, [])
abbrev mT_newType : aw_M := (⟨"ScopeTree", "newType", "(LScopeTree$ClassFile;LScopeTree$Loader;LScopeTree$Type;)LScopeTree$Type;"⟩, prog_1_method_36_code, 5, some (.object "ScopeTree$Type"), [])
abbrev mW_info : aw_M := (⟨"ScopeTreeLaw", "info", "(LScopeTree;II[J)I"⟩, method_13_code, 5, some .int, [(0, 10, 13, 53)])
abbrev mT_info : aw_M := (⟨"ScopeTree", "info", "(II)I"⟩, prog_1_method_13_code, 4, some .int, [])
abbrev mT_typeAt : aw_M := (⟨"ScopeTree", "typeAt", "(I)LScopeTree$Type;"⟩, prog_1_method_20_code, 2, some (.object "ScopeTree$Type"), [])
abbrev mW_isA : aw_M := (⟨"ScopeTreeLaw", "isA", "(LScopeTree;II[J)I"⟩, method_14_code, 5, some .int, [(0, 17, 20, 53)])
abbrev mT_isA : aw_M := (⟨"ScopeTree", "isA", "(II)Z"⟩, prog_1_method_14_code, 3, some .boolean, [])
abbrev mT_isSubtype : aw_M := (⟨"ScopeTree", "isSubtype", "(LScopeTree$Type;LScopeTree$Type;)Z"⟩, prog_1_method_37_code, 3, some .boolean, [])
abbrev mW_apply : aw_M := (⟨"ScopeTreeLaw", "apply", "(LScopeTree;II[J)I"⟩, method_15_code, 5, some .int, [(0, 10, 13, 13), (0, 10, 17, 15), (0, 10, 21, 53), (0, 10, 25, 40)])
abbrev mT_apply : aw_M := (⟨"ScopeTree", "apply", "(II)I"⟩, prog_1_method_15_code, 6, some .int, [])
abbrev mT_visibleDescriptor : aw_M := (⟨"ScopeTree", "visibleDescriptor", "(LScopeTree$Loader;I)LScopeTree$Descriptor;"⟩, prog_1_method_38_code, 4, some (.object "ScopeTree$Descriptor"), [])
abbrev mL_descriptorOf : aw_M := (⟨"ScopeTree$Loader", "descriptorOf", "(I)LScopeTree$Descriptor;"⟩, prog_6_method_3_code, 4, some (.object "ScopeTree$Descriptor"), [])
abbrev mT_isLetThrough : aw_M := (⟨"ScopeTree", "isLetThrough", "(LScopeTree$Loader;LScopeTree$Loader;I)Z"⟩, prog_1_method_39_code, 4, some .boolean, [])
abbrev mS_hasApplied : aw_M := (⟨"ScopeTree$Scope", "hasApplied", "(LScopeTree$Type;)Z"⟩, prog_8_method_2_code, 3, some .boolean, [])
abbrev mS_appendApplied : aw_M := (⟨"ScopeTree$Scope", "appendApplied", "(LScopeTree$Type;)Z"⟩, prog_8_method_3_code, 2, some .boolean, [])
abbrev mW_applied : aw_M := (⟨"ScopeTreeLaw", "applied", "(LScopeTree;II[J)I"⟩, method_16_code, 5, some .int, [(0, 10, 13, 13)])
abbrev mT_applied : aw_M := (⟨"ScopeTree", "applied", "(II)I"⟩, prog_1_method_16_code, 4, some .int, [])
abbrev mM_init : aw_M := (⟨"ScopeTreeModel", "<init>", "()V"⟩, prog_12_method_1_code, 2, none, [])
abbrev mM_thrown : aw_M := (⟨"ScopeTreeModel", "thrown", "()I"⟩, prog_12_method_2_code, 1, some .int, [])
abbrev mM_file : aw_M := (⟨"ScopeTreeModel", "file", "(IIII)I"⟩, prog_12_method_5_code, 7, some .int, [])
abbrev mM_in : aw_M := (⟨"ScopeTreeModel", "in", "(III)Z"⟩, prog_12_method_4_code, 3, some .boolean, [])
abbrev mM_fails : aw_M := (⟨"ScopeTreeModel", "fails", "(ZI)Z"⟩, prog_12_method_3_code, 3, some .boolean, [])
abbrev mM_descriptor : aw_M := (⟨"ScopeTreeModel", "descriptor", "(III)I"⟩, prog_12_method_6_code, 5, some .int, [])
abbrev mM_wipe : aw_M := (⟨"ScopeTreeModel", "wipe", "(I)V"⟩, prog_12_method_7_code, 2, none, [])
abbrev mM_child : aw_M := (⟨"ScopeTreeModel", "child", "(I)I"⟩, prog_12_method_21_code, 2, some .int, [])
abbrev mM_noScope : aw_M := (⟨"ScopeTreeModel", "noScope", "(I)Z"⟩, prog_12_method_20_code, 2, some .boolean, [])
abbrev mM_add : aw_M := (⟨"ScopeTreeModel", "add", "(IIZ)Z"⟩, prog_12_method_22_code, 7, some .boolean, [])
abbrev mM_filter : aw_M := (⟨"ScopeTreeModel", "filter", "(IIJJ)V"⟩, prog_12_method_23_code, 7, none, [])
abbrev mM_lock : aw_M := (⟨"ScopeTreeModel", "lock", "(I)I"⟩, prog_12_method_24_code, 5, some .int, [])
abbrev mM_freeLoaders : aw_M := (⟨"ScopeTreeModel", "freeLoaders", "()I"⟩, prog_12_method_13_code, 3, some .int, [])
abbrev mM_defining : aw_M := (⟨"ScopeTreeModel", "defining", "(III)I"⟩, prog_12_method_15_code, 9, some .int, [])
abbrev mM_alike : aw_M := (⟨"ScopeTreeModel", "alike", "(II)Z"⟩, prog_12_method_11_code, 7, some .boolean, [])
abbrev mM_fileOf : aw_M := (⟨"ScopeTreeModel", "fileOf", "(II)I"⟩, prog_12_method_9_code, 5, some .int, [])
abbrev mM_described : aw_M := (⟨"ScopeTreeModel", "described", "(II)I"⟩, prog_12_method_10_code, 5, some .int, [])
abbrev mM_begin : aw_M := (⟨"ScopeTreeModel", "begin", "(II)I"⟩, prog_12_method_14_code, 4, some .int, [])
abbrev mM_freeLoader : aw_M := (⟨"ScopeTreeModel", "freeLoader", "()I"⟩, prog_12_method_12_code, 2, some .int, [])
abbrev mM_copySheet : aw_M := (⟨"ScopeTreeModel", "copySheet", "(II)V"⟩, prog_12_method_8_code, 4, none, [])
abbrev mM_filtering : aw_M := (⟨"ScopeTreeModel", "filtering", "(II)I"⟩, prog_12_method_16_code, 4, some .int, [])
abbrev mM_release : aw_M := (⟨"ScopeTreeModel", "release", "(I)I"⟩, prog_12_method_25_code, 4, some .int, [])
abbrev mM_sweep : aw_M := (⟨"ScopeTreeModel", "sweep", "()I"⟩, prog_12_method_19_code, 5, some .int, [])
abbrev mM_holders : aw_M := (⟨"ScopeTreeModel", "holders", "(I)I"⟩, prog_12_method_18_code, 5, some .int, [])
abbrev mM_loader : aw_M := (⟨"ScopeTreeModel", "loader", "(IZ)I"⟩, prog_12_method_26_code, 3, some .int, [])
abbrev mM_look : aw_M := (⟨"ScopeTreeModel", "look", "(II)I"⟩, prog_12_method_27_code, 5, some .int, [])
abbrev mM_load : aw_M := (⟨"ScopeTreeModel", "load", "(II)I"⟩, prog_12_method_32_code, 3, some .int, [])
abbrev mM_loads : aw_M := (⟨"ScopeTreeModel", "loads", "(II)I"⟩, prog_12_method_31_code, 4, some .int, [])
abbrev mM_resolve : aw_M := (⟨"ScopeTreeModel", "resolve", "(II)I"⟩, prog_12_method_30_code, 8, some .int, [])
abbrev mM_seek : aw_M := (⟨"ScopeTreeModel", "seek", "(II)Z"⟩, prog_12_method_28_code, 5, some .boolean, [])
abbrev mM_admits : aw_M := (⟨"ScopeTreeModel", "admits", "(II)Z"⟩, prog_12_method_17_code, 3, some .boolean, [])
abbrev mM_definedBy : aw_M := (⟨"ScopeTreeModel", "definedBy", "(II)I"⟩, prog_12_method_29_code, 5, some .int, [])
abbrev mM_info : aw_M := (⟨"ScopeTreeModel", "info", "(II)I"⟩, prog_12_method_33_code, 3, some .int, [])
abbrev mM_isA : aw_M := (⟨"ScopeTreeModel", "isA", "(II)Z"⟩, prog_12_method_35_code, 3, some .boolean, [])
abbrev mM_descends : aw_M := (⟨"ScopeTreeModel", "descends", "(II)Z"⟩, prog_12_method_34_code, 4, some .boolean, [])
abbrev mM_apply : aw_M := (⟨"ScopeTreeModel", "apply", "(II)I"⟩, prog_12_method_37_code, 7, some .int, [])
abbrev mM_describedFrom : aw_M := (⟨"ScopeTreeModel", "describedFrom", "(II)I"⟩, prog_12_method_36_code, 9, some .int, [])
abbrev mM_applied : aw_M := (⟨"ScopeTreeModel", "applied", "(II)I"⟩, prog_12_method_38_code, 3, some .int, [])
theorem cb_T_init : aw_CB mT_init 0 := ⟨rfl, rfl, by decide, wT_1_26, wT_1_1, by decide, by decide, by decide +kernel⟩
theorem cb_A_init : aw_CB mA_init 0 := ⟨rfl, rfl, by decide, wT_1_41, wT_1_2, by decide, by decide, by decide +kernel⟩
theorem cb_L_init : aw_CB mL_init 5 := ⟨rfl, rfl, by decide, wT_1_66, wT_1_3, by decide, by decide, by decide +kernel⟩
theorem cb_Y_init : aw_CB mY_init 5 := ⟨rfl, rfl, by decide, wT_1_100, wT_1_4, by decide, by decide, by decide +kernel⟩
theorem cb_S_init : aw_CB mS_init 1 := ⟨rfl, rfl, by decide, wT_1_126, wT_1_5, by decide, by decide, by decide +kernel⟩
theorem cb_P_init : aw_CB mP_init 0 := ⟨rfl, rfl, by decide, wT_1_132, wT_1_6, by decide, by decide, by decide +kernel⟩
theorem cb_T_look : aw_CB mT_look 2 := ⟨rfl, rfl, by decide, wT_1_213, wT_1_1, by decide, by decide, by decide +kernel⟩
theorem cb_T_isBelow : aw_CB mT_isBelow 2 := ⟨rfl, rfl, by decide, wT_1_216, wT_1_1, by decide, by decide, by decide +kernel⟩
theorem cb_W_file : aw_CBW mW_file 6 := ⟨rfl, by decide, wT_1_219, wT_1_0, by decide, by decide, by decide +kernel⟩
theorem cb_T_file : aw_CB mT_file 4 := ⟨rfl, rfl, by decide, wT_1_225, wT_1_1, by decide, by decide, by decide +kernel⟩
theorem cb_T_archiveAt : aw_CB mT_archiveAt 1 := ⟨rfl, rfl, by decide, wT_1_229, wT_1_1, by decide, by decide, by decide +kernel⟩
theorem cb_C_init : aw_CB mC_init 3 := ⟨rfl, rfl, by decide, wT_2_65, wT_1_15, by decide, by decide, by decide +kernel⟩
theorem cb_R_init : aw_CB mR_init 0 := ⟨rfl, rfl, by decide, wT_2_68, wT_1_14, by decide, by decide, by decide +kernel⟩
theorem cb_A_putFile : aw_CB mA_putFile 1 := ⟨rfl, rfl, by decide, wT_2_87, wT_1_2, by decide, by decide, by decide +kernel⟩
theorem cb_A_placeOfFile : aw_CB mA_placeOfFile 1 := ⟨rfl, rfl, by decide, wT_2_91, wT_1_2, by decide, by decide, by decide +kernel⟩
theorem cb_W_descriptor : aw_CBW mW_descriptor 5 := ⟨rfl, by decide, wT_2_113, wT_1_0, by decide, by decide, by decide +kernel⟩
theorem cb_T_descriptor : aw_CB mT_descriptor 3 := ⟨rfl, rfl, by decide, wT_2_117, wT_1_1, by decide, by decide, by decide +kernel⟩
theorem cb_D_init : aw_CB mD_init 2 := ⟨rfl, rfl, by decide, wT_2_123, wT_1_18, by decide, by decide, by decide +kernel⟩
theorem cb_A_putDescriptor : aw_CB mA_putDescriptor 1 := ⟨rfl, rfl, by decide, wT_2_137, wT_1_2, by decide, by decide, by decide +kernel⟩
theorem cb_A_placeOfDescriptor : aw_CB mA_placeOfDescriptor 1 := ⟨rfl, rfl, by decide, wT_2_141, wT_1_2, by decide, by decide, by decide +kernel⟩
theorem cb_W_wipe : aw_CBW mW_wipe 2 := ⟨rfl, by decide, wT_2_145, wT_1_0, by decide, by decide, by decide +kernel⟩
theorem cb_T_wipe : aw_CB mT_wipe 1 := ⟨rfl, rfl, by decide, wT_2_149, wT_1_1, by decide, by decide, by decide +kernel⟩
theorem cb_W_child : aw_CBW mW_child 3 := ⟨rfl, by decide, wT_2_152, wT_1_0, by decide, by decide, by decide +kernel⟩
theorem cb_T_child : aw_CB mT_child 1 := ⟨rfl, rfl, by decide, wT_2_156, wT_1_1, by decide, by decide, by decide +kernel⟩
theorem cb_T_scopeAt : aw_CB mT_scopeAt 1 := ⟨rfl, rfl, by decide, wT_2_160, wT_1_1, by decide, by decide, by decide +kernel⟩
theorem cb_W_add : aw_CBW mW_add 5 := ⟨rfl, by decide, wT_2_168, wT_1_0, by decide, by decide, by decide +kernel⟩
theorem cb_T_add : aw_CB mT_add 3 := ⟨rfl, rfl, by decide, wT_2_172, wT_1_1, by decide, by decide, by decide +kernel⟩
theorem cb_T_requireOpen : aw_CB mT_requireOpen 1 := ⟨rfl, rfl, by decide, wT_2_175, wT_1_1, by decide, by decide, by decide +kernel⟩
theorem cb_P_append : aw_CB mP_append 1 := ⟨rfl, rfl, by decide, wT_2_181, wT_1_6, by decide, by decide, by decide +kernel⟩
theorem cb_P_contains : aw_CB mP_contains 1 := ⟨rfl, rfl, by decide, wT_2_185, wT_1_6, by decide, by decide, by decide +kernel⟩
theorem cb_W_filter : aw_CBW mW_filter 5 := ⟨rfl, by decide, wT_2_188, wT_1_0, by decide, by decide, by decide +kernel⟩
theorem cb_T_filter : aw_CB mT_filter 4 := ⟨rfl, rfl, by decide, wT_2_192, wT_1_1, by decide, by decide, by decide +kernel⟩
theorem cb_F_init : aw_CB mF_init 3 := ⟨rfl, rfl, by decide, wT_2_198, wT_1_19, by decide, by decide, by decide +kernel⟩
theorem cb_W_lock : aw_CBW mW_lock 3 := ⟨rfl, by decide, wT_2_212, wT_1_0, by decide, by decide, by decide +kernel⟩
theorem cb_T_lock : aw_CB mT_lock 1 := ⟨rfl, rfl, by decide, wT_2_217, wT_1_1, by decide, by decide, by decide +kernel⟩
theorem cb_T_freeLoaderNumbers : aw_CB mT_freeLoaderNumbers 0 := ⟨rfl, rfl, by decide, wT_2_222, wT_1_1, by decide, by decide, by decide +kernel⟩
theorem cb_T_wantedDefining : aw_CB mT_wantedDefining 2 := ⟨rfl, rfl, by decide, wT_3_2, wT_1_1, by decide, by decide, by decide +kernel⟩
theorem cb_T_contentsOf : aw_CB mT_contentsOf 1 := ⟨rfl, rfl, by decide, wT_3_6, wT_1_1, by decide, by decide, by decide +kernel⟩
theorem cb_A_copy : aw_CB mA_copy 0 := ⟨rfl, rfl, by decide, wT_3_10, wT_1_2, by decide, by decide, by decide +kernel⟩
theorem cb_L_hasPathLike : aw_CB mL_hasPathLike 1 := ⟨rfl, rfl, by decide, wT_3_16, wT_1_3, by decide, by decide, by decide +kernel⟩
theorem cb_A_isLike : aw_CB mA_isLike 1 := ⟨rfl, rfl, by decide, wT_3_20, wT_1_2, by decide, by decide, by decide +kernel⟩
theorem cb_A_fileOf : aw_CB mA_fileOf 1 := ⟨rfl, rfl, by decide, wT_3_24, wT_1_2, by decide, by decide, by decide +kernel⟩
theorem cb_C_isSame : aw_CB mC_isSame 1 := ⟨rfl, rfl, by decide, wT_3_28, wT_1_15, by decide, by decide, by decide +kernel⟩
theorem cb_A_descriptorOf : aw_CB mA_descriptorOf 1 := ⟨rfl, rfl, by decide, wT_3_32, wT_1_2, by decide, by decide, by decide +kernel⟩
theorem cb_D_isSame : aw_CB mD_isSame 1 := ⟨rfl, rfl, by decide, wT_3_36, wT_1_18, by decide, by decide, by decide +kernel⟩
theorem cb_T_newLoader : aw_CB mT_newLoader 4 := ⟨rfl, rfl, by decide, wT_3_40, wT_1_1, by decide, by decide, by decide +kernel⟩
theorem cb_T_leastFreeLoaderNumber : aw_CB mT_leastFreeLoaderNumber 0 := ⟨rfl, rfl, by decide, wT_3_44, wT_1_1, by decide, by decide, by decide +kernel⟩
theorem cb_T_wantedFiltering : aw_CB mT_wantedFiltering 2 := ⟨rfl, rfl, by decide, wT_3_48, wT_1_1, by decide, by decide, by decide +kernel⟩
theorem cb_F_isSame : aw_CB mF_isSame 1 := ⟨rfl, rfl, by decide, wT_3_52, wT_1_19, by decide, by decide, by decide +kernel⟩
theorem cb_W_release : aw_CBW mW_release 3 := ⟨rfl, by decide, wT_3_55, wT_1_0, by decide, by decide, by decide +kernel⟩
theorem cb_T_release : aw_CB mT_release 1 := ⟨rfl, rfl, by decide, wT_3_59, wT_1_1, by decide, by decide, by decide +kernel⟩
theorem cb_T_hasChildLeft : aw_CB mT_hasChildLeft 1 := ⟨rfl, rfl, by decide, wT_3_64, wT_1_1, by decide, by decide, by decide +kernel⟩
theorem cb_T_letGo : aw_CB mT_letGo 1 := ⟨rfl, rfl, by decide, wT_3_69, wT_1_1, by decide, by decide, by decide +kernel⟩
theorem cb_W_loader : aw_CBW mW_loader 4 := ⟨rfl, by decide, wT_3_72, wT_1_0, by decide, by decide, by decide +kernel⟩
theorem cb_T_loader : aw_CB mT_loader 2 := ⟨rfl, rfl, by decide, wT_3_76, wT_1_1, by decide, by decide, by decide +kernel⟩
theorem cb_W_load : aw_CBW mW_load 4 := ⟨rfl, by decide, wT_3_79, wT_1_0, by decide, by decide, by decide +kernel⟩
theorem cb_T_load : aw_CB mT_load 2 := ⟨rfl, rfl, by decide, wT_3_84, wT_1_1, by decide, by decide, by decide +kernel⟩
theorem cb_T_requireLocked : aw_CB mT_requireLocked 1 := ⟨rfl, rfl, by decide, wT_3_88, wT_1_1, by decide, by decide, by decide +kernel⟩
theorem cb_T_typeFromScope : aw_CB mT_typeFromScope 2 := ⟨rfl, rfl, by decide, wT_3_93, wT_1_1, by decide, by decide, by decide +kernel⟩
theorem cb_T_findFrom : aw_CB mT_findFrom 3 := ⟨rfl, rfl, by decide, wT_3_97, wT_1_1, by decide, by decide, by decide +kernel⟩
theorem cb_F_admits : aw_CB mF_admits 1 := ⟨rfl, rfl, by decide, wT_3_101, wT_1_19, by decide, by decide, by decide +kernel⟩
theorem cb_L_fileOf : aw_CB mL_fileOf 1 := ⟨rfl, rfl, by decide, wT_3_105, wT_1_3, by decide, by decide, by decide +kernel⟩
theorem cb_T_typeDefinedBy : aw_CB mT_typeDefinedBy 3 := ⟨rfl, rfl, by decide, wT_3_110, wT_1_1, by decide, by decide, by decide +kernel⟩
theorem cb_T_knownType : aw_CB mT_knownType 2 := ⟨rfl, rfl, by decide, wT_3_114, wT_1_1, by decide, by decide, by decide +kernel⟩
theorem cb_T_isBeingDefined : aw_CB mT_isBeingDefined 3 := ⟨rfl, rfl, by decide, wT_3_118, wT_1_1, by decide, by decide, by decide +kernel⟩
theorem cb_T_newType : aw_CB mT_newType 3 := ⟨rfl, rfl, by decide, wT_3_125, wT_1_1, by decide, by decide, by decide +kernel⟩
theorem cb_W_info : aw_CBW mW_info 4 := ⟨rfl, by decide, wT_3_145, wT_1_0, by decide, by decide, by decide +kernel⟩
theorem cb_T_info : aw_CB mT_info 2 := ⟨rfl, rfl, by decide, wT_3_149, wT_1_1, by decide, by decide, by decide +kernel⟩
theorem cb_T_typeAt : aw_CB mT_typeAt 1 := ⟨rfl, rfl, by decide, wT_3_153, wT_1_1, by decide, by decide, by decide +kernel⟩
theorem cb_W_isA : aw_CBW mW_isA 4 := ⟨rfl, by decide, wT_3_158, wT_1_0, by decide, by decide, by decide +kernel⟩
theorem cb_T_isA : aw_CB mT_isA 2 := ⟨rfl, rfl, by decide, wT_3_162, wT_1_1, by decide, by decide, by decide +kernel⟩
theorem cb_T_isSubtype : aw_CB mT_isSubtype 2 := ⟨rfl, rfl, by decide, wT_3_165, wT_1_1, by decide, by decide, by decide +kernel⟩
theorem cb_W_apply : aw_CBW mW_apply 4 := ⟨rfl, by decide, wT_3_168, wT_1_0, by decide, by decide, by decide +kernel⟩
theorem cb_T_apply : aw_CB mT_apply 2 := ⟨rfl, rfl, by decide, wT_3_172, wT_1_1, by decide, by decide, by decide +kernel⟩
theorem cb_T_visibleDescriptor : aw_CB mT_visibleDescriptor 2 := ⟨rfl, rfl, by decide, wT_3_176, wT_1_1, by decide, by decide, by decide +kernel⟩
theorem cb_L_descriptorOf : aw_CB mL_descriptorOf 1 := ⟨rfl, rfl, by decide, wT_3_180, wT_1_3, by decide, by decide, by decide +kernel⟩
theorem cb_T_isLetThrough : aw_CB mT_isLetThrough 3 := ⟨rfl, rfl, by decide, wT_3_184, wT_1_1, by decide, by decide, by decide +kernel⟩
theorem cb_S_hasApplied : aw_CB mS_hasApplied 1 := ⟨rfl, rfl, by decide, wT_3_188, wT_1_5, by decide, by decide, by decide +kernel⟩
theorem cb_S_appendApplied : aw_CB mS_appendApplied 1 := ⟨rfl, rfl, by decide, wT_3_192, wT_1_5, by decide, by decide, by decide +kernel⟩
theorem cb_W_applied : aw_CBW mW_applied 4 := ⟨rfl, by decide, wT_3_195, wT_1_0, by decide, by decide, by decide +kernel⟩
theorem cb_T_applied : aw_CB mT_applied 2 := ⟨rfl, rfl, by decide, wT_3_199, wT_1_1, by decide, by decide, by decide +kernel⟩
theorem cb_M_init : aw_CB mM_init 0 := ⟨rfl, rfl, by decide, wT_3_204, wT_1_9, by decide, by decide, by decide +kernel⟩
theorem cb_M_thrown : aw_CB mM_thrown 0 := ⟨rfl, rfl, by decide, wT_4_71, wT_1_9, by decide, by decide, by decide +kernel⟩
theorem cb_M_file : aw_CB mM_file 4 := ⟨rfl, rfl, by decide, wT_4_75, wT_1_9, by decide, by decide, by decide +kernel⟩
theorem cb_M_in : aw_CB mM_in 3 := ⟨rfl, rfl, by decide, wT_4_78, wT_1_9, by decide, by decide, by decide +kernel⟩
theorem cb_M_fails : aw_CB mM_fails 2 := ⟨rfl, rfl, by decide, wT_4_82, wT_1_9, by decide, by decide, by decide +kernel⟩
theorem cb_M_descriptor : aw_CB mM_descriptor 3 := ⟨rfl, rfl, by decide, wT_4_86, wT_1_9, by decide, by decide, by decide +kernel⟩
theorem cb_M_wipe : aw_CB mM_wipe 1 := ⟨rfl, rfl, by decide, wT_4_90, wT_1_9, by decide, by decide, by decide +kernel⟩
theorem cb_M_child : aw_CB mM_child 1 := ⟨rfl, rfl, by decide, wT_4_94, wT_1_9, by decide, by decide, by decide +kernel⟩
theorem cb_M_noScope : aw_CB mM_noScope 1 := ⟨rfl, rfl, by decide, wT_4_98, wT_1_9, by decide, by decide, by decide +kernel⟩
theorem cb_M_add : aw_CB mM_add 3 := ⟨rfl, rfl, by decide, wT_4_102, wT_1_9, by decide, by decide, by decide +kernel⟩
theorem cb_M_filter : aw_CB mM_filter 4 := ⟨rfl, rfl, by decide, wT_4_106, wT_1_9, by decide, by decide, by decide +kernel⟩
theorem cb_M_lock : aw_CB mM_lock 1 := ⟨rfl, rfl, by decide, wT_4_110, wT_1_9, by decide, by decide, by decide +kernel⟩
theorem cb_M_freeLoaders : aw_CB mM_freeLoaders 0 := ⟨rfl, rfl, by decide, wT_4_114, wT_1_9, by decide, by decide, by decide +kernel⟩
theorem cb_M_defining : aw_CB mM_defining 3 := ⟨rfl, rfl, by decide, wT_4_118, wT_1_9, by decide, by decide, by decide +kernel⟩
theorem cb_M_alike : aw_CB mM_alike 2 := ⟨rfl, rfl, by decide, wT_4_122, wT_1_9, by decide, by decide, by decide +kernel⟩
theorem cb_M_fileOf : aw_CB mM_fileOf 2 := ⟨rfl, rfl, by decide, wT_4_126, wT_1_9, by decide, by decide, by decide +kernel⟩
theorem cb_M_described : aw_CB mM_described 2 := ⟨rfl, rfl, by decide, wT_4_130, wT_1_9, by decide, by decide, by decide +kernel⟩
theorem cb_M_begin : aw_CB mM_begin 2 := ⟨rfl, rfl, by decide, wT_4_134, wT_1_9, by decide, by decide, by decide +kernel⟩
theorem cb_M_freeLoader : aw_CB mM_freeLoader 0 := ⟨rfl, rfl, by decide, wT_4_138, wT_1_9, by decide, by decide, by decide +kernel⟩
theorem cb_M_copySheet : aw_CB mM_copySheet 2 := ⟨rfl, rfl, by decide, wT_4_142, wT_1_9, by decide, by decide, by decide +kernel⟩
theorem cb_M_filtering : aw_CB mM_filtering 2 := ⟨rfl, rfl, by decide, wT_4_146, wT_1_9, by decide, by decide, by decide +kernel⟩
theorem cb_M_release : aw_CB mM_release 1 := ⟨rfl, rfl, by decide, wT_4_150, wT_1_9, by decide, by decide, by decide +kernel⟩
theorem cb_M_sweep : aw_CB mM_sweep 0 := ⟨rfl, rfl, by decide, wT_4_154, wT_1_9, by decide, by decide, by decide +kernel⟩
theorem cb_M_holders : aw_CB mM_holders 1 := ⟨rfl, rfl, by decide, wT_4_158, wT_1_9, by decide, by decide, by decide +kernel⟩
theorem cb_M_loader : aw_CB mM_loader 2 := ⟨rfl, rfl, by decide, wT_4_162, wT_1_9, by decide, by decide, by decide +kernel⟩
theorem cb_M_look : aw_CB mM_look 2 := ⟨rfl, rfl, by decide, wT_4_166, wT_1_9, by decide, by decide, by decide +kernel⟩
theorem cb_M_load : aw_CB mM_load 2 := ⟨rfl, rfl, by decide, wT_4_170, wT_1_9, by decide, by decide, by decide +kernel⟩
theorem cb_M_loads : aw_CB mM_loads 2 := ⟨rfl, rfl, by decide, wT_4_174, wT_1_9, by decide, by decide, by decide +kernel⟩
theorem cb_M_resolve : aw_CB mM_resolve 2 := ⟨rfl, rfl, by decide, wT_4_178, wT_1_9, by decide, by decide, by decide +kernel⟩
theorem cb_M_seek : aw_CB mM_seek 2 := ⟨rfl, rfl, by decide, wT_4_182, wT_1_9, by decide, by decide, by decide +kernel⟩
theorem cb_M_admits : aw_CB mM_admits 2 := ⟨rfl, rfl, by decide, wT_4_186, wT_1_9, by decide, by decide, by decide +kernel⟩
theorem cb_M_definedBy : aw_CB mM_definedBy 2 := ⟨rfl, rfl, by decide, wT_4_190, wT_1_9, by decide, by decide, by decide +kernel⟩
theorem cb_M_info : aw_CB mM_info 2 := ⟨rfl, rfl, by decide, wT_4_194, wT_1_9, by decide, by decide, by decide +kernel⟩
theorem cb_M_isA : aw_CB mM_isA 2 := ⟨rfl, rfl, by decide, wT_4_198, wT_1_9, by decide, by decide, by decide +kernel⟩
theorem cb_M_descends : aw_CB mM_descends 2 := ⟨rfl, rfl, by decide, wT_4_202, wT_1_9, by decide, by decide, by decide +kernel⟩
theorem cb_M_apply : aw_CB mM_apply 2 := ⟨rfl, rfl, by decide, wT_4_206, wT_1_9, by decide, by decide, by decide +kernel⟩
theorem cb_M_describedFrom : aw_CB mM_describedFrom 2 := ⟨rfl, rfl, by decide, wT_4_210, wT_1_9, by decide, by decide, by decide +kernel⟩
theorem cb_M_applied : aw_CB mM_applied 2 := ⟨rfl, rfl, by decide, wT_4_214, wT_1_9, by decide, by decide, by decide +kernel⟩
theorem sT_11 : aw_S "ScopeTree" 11 8 0 (.array (.object "ScopeTree$Archive")) true := ⟨_, tn_T, 8, ty_T, rfl, by decide, in_T, tk_T, nm_T, rfl, by decide +kernel, Or.inl wT_1_185, fun _ => rfl⟩
theorem sT_17 : aw_S "ScopeTree" 17 8 1 (.array (.object "ScopeTree$Scope")) true := ⟨_, tn_T, 8, ty_T, rfl, by decide, in_T, tk_T, nm_T, rfl, by decide +kernel, Or.inl wT_1_186, fun _ => rfl⟩
theorem sT_23 : aw_S "ScopeTree" 23 8 3 (.array (.object "ScopeTree$Loader")) true := ⟨_, tn_T, 8, ty_T, rfl, by decide, in_T, tk_T, nm_T, rfl, by decide +kernel, Or.inl wT_1_188, fun _ => rfl⟩
theorem sT_29 : aw_S "ScopeTree" 29 8 4 (.array (.object "ScopeTree$Type")) true := ⟨_, tn_T, 8, ty_T, rfl, by decide, in_T, tk_T, nm_T, rfl, by decide +kernel, Or.inl wT_1_189, fun _ => rfl⟩
theorem sT_33 : aw_S "ScopeTree" 33 8 6 (.array (.object "ScopeTree$Loader")) true := ⟨_, tn_T, 8, ty_T, rfl, by decide, in_T, tk_T, nm_T, rfl, by decide +kernel, Or.inl wT_1_191, fun _ => rfl⟩
theorem sT_36 : aw_S "ScopeTree" 36 8 7 (.array (.int)) true := ⟨_, tn_T, 8, ty_T, rfl, by decide, in_T, tk_T, nm_T, rfl, by decide +kernel, Or.inl wT_1_192, fun _ => rfl⟩
theorem fT_11 : aw_F "ScopeTree" 11 8 0 := ⟨_, tn_T, 8, rfl, by decide, in_T, Or.inl wT_1_185⟩
theorem nT_9 : aw_N "ScopeTree" 9 0 4 [.null, .int 0, .null, .int 0] := ⟨_, tn_A, ty_A, rfl, in_A, tk_A, wT_1_30, wT_1_38, wT_1_2, by decide +kernel⟩
theorem cT_40 : aw_CIN "ScopeTree" 40 mA_init 0 := ⟨cb_A_init, rfl, rfl, wT_1_40, _, wN_1_39⟩
theorem nT_21 : aw_N "ScopeTree" 21 4 8 [.int 0, .int 0, .null, .null, .null, .int 0, .int 0, .int 0] := ⟨_, tn_L, ty_L, rfl, in_L, tk_L, wT_1_34, wT_1_63, wT_1_3, by decide +kernel⟩
theorem cT_41 : aw_CIN "ScopeTree" 41 mL_init 5 := ⟨cb_L_init, rfl, rfl, wT_1_65, _, wN_1_64⟩
theorem fT_23 : aw_F "ScopeTree" 23 8 3 := ⟨_, tn_T, 8, rfl, by decide, in_T, Or.inl wT_1_188⟩
theorem fT_29 : aw_F "ScopeTree" 29 8 4 := ⟨_, tn_T, 8, rfl, by decide, in_T, Or.inl wT_1_189⟩
theorem nT_27 : aw_N "ScopeTree" 27 7 5 [.int 0, .int 0, .int 0, .null, .null] := ⟨_, tn_Y, ty_Y, rfl, in_Y, tk_Y, wT_1_36, wT_1_97, wT_1_4, by decide +kernel⟩
theorem cT_44 : aw_CIN "ScopeTree" 44 mY_init 5 := ⟨cb_Y_init, rfl, rfl, wT_1_99, _, wN_1_98⟩
theorem sT_47 : aw_S "ScopeTree" 47 8 5 (.int) false := ⟨_, tn_T, 8, ty_T, rfl, by decide, in_T, tk_T, nm_T, rfl, by decide +kernel, Or.inl wT_1_190, fun h => by cases h⟩
theorem nT_15 : aw_N "ScopeTree" 15 6 10 [.null, .null, .null, .null, .null, .null, .null, .null, .null, .int 0] := ⟨_, tn_S, ty_S, rfl, in_S, tk_S, wT_1_32, wT_1_123, wT_1_5, by decide +kernel⟩
theorem cT_51 : aw_CIN "ScopeTree" 51 mS_init 1 := ⟨cb_S_init, rfl, rfl, wT_1_125, _, wN_1_124⟩
theorem sT_60 : aw_S "ScopeTree" 60 6 4 (.object "ScopeTree$State") false := ⟨_, tn_S, 10, ty_S, rfl, by decide, in_S, tk_S, nm_S, rfl, by decide +kernel, Or.inr ⟨rfl, _, wN_1_154⟩, fun h => by cases h⟩
theorem sT_63 : aw_S "ScopeTree" 63 6 6 (.object "ScopeTree$Loader") false := ⟨_, tn_S, 10, ty_S, rfl, by decide, in_S, tk_S, nm_S, rfl, by decide +kernel, Or.inr ⟨rfl, _, wN_1_156⟩, fun h => by cases h⟩
theorem sT_67 : aw_S "ScopeTree" 67 6 7 (.object "ScopeTree$Loader") false := ⟨_, tn_S, 10, ty_S, rfl, by decide, in_S, tk_S, nm_S, rfl, by decide +kernel, Or.inr ⟨rfl, _, wN_1_157⟩, fun h => by cases h⟩
theorem sT_70 : aw_S "ScopeTree" 70 4 5 (.int) false := ⟨_, tn_L, 8, ty_L, rfl, by decide, in_L, tk_L, nm_L, rfl, by decide +kernel, Or.inr ⟨rfl, _, wN_1_77⟩, fun h => by cases h⟩
theorem fT_17 : aw_F "ScopeTree" 17 8 1 := ⟨_, tn_T, 8, rfl, by decide, in_T, Or.inl wT_1_186⟩
theorem sT_73 : aw_S "ScopeTree" 73 8 2 (.int) false := ⟨_, tn_T, 8, ty_T, rfl, by decide, in_T, tk_T, nm_T, rfl, by decide +kernel, Or.inl wT_1_187, fun h => by cases h⟩
theorem cT_76 : aw_CV "ScopeTree" 76 mT_archiveAt 8 1 := ⟨cb_T_archiveAt, ⟨tn_T, 8, rfl⟩, wT_1_228, wS_0, wT_1_226⟩
theorem cT_80 : aw_CS "ScopeTree" 80 mT_isBelow 2 := ⟨cb_T_isBelow, wT_1_215, wT_1_214⟩
theorem nT_93 : aw_N "ScopeTree" 93 1 3 [.int 0, .int 0, .int 0] := ⟨_, tn_C, ty_C, rfl, in_C, tk_C, wT_2_61, wT_2_62, wT_1_15, by decide +kernel⟩
theorem cT_95 : aw_CIN "ScopeTree" 95 mC_init 3 := ⟨cb_C_init, rfl, rfl, wT_2_64, _, wN_2_63⟩
theorem cT_98 : aw_CVN "ScopeTree" 98 mA_putFile 0 1 := ⟨cb_A_putFile, ⟨tn_A, 4, rfl⟩, wT_2_86, wS_2, _, wN_2_84⟩
theorem fT_107 : aw_F "ScopeTree" 107 0 1 := ⟨_, tn_A, 4, rfl, by decide, in_A, Or.inr ⟨_, wN_1_49⟩⟩
theorem nT_112 : aw_N "ScopeTree" 112 2 2 [.int 0, .int 0] := ⟨_, tn_D, ty_D, rfl, in_D, tk_D, wT_2_119, wT_2_120, wT_1_18, by decide +kernel⟩
theorem cT_114 : aw_CIN "ScopeTree" 114 mD_init 2 := ⟨cb_D_init, rfl, rfl, wT_2_122, _, wN_2_121⟩
theorem cT_117 : aw_CVN "ScopeTree" 117 mA_putDescriptor 0 1 := ⟨cb_A_putDescriptor, ⟨tn_A, 4, rfl⟩, wT_2_136, wS_4, _, wN_2_134⟩
theorem fT_123 : aw_F "ScopeTree" 123 0 3 := ⟨_, tn_A, 4, rfl, by decide, in_A, Or.inr ⟨_, wN_1_52⟩⟩
theorem sT_107 : aw_S "ScopeTree" 107 0 1 (.int) false := ⟨_, tn_A, 4, ty_A, rfl, by decide, in_A, tk_A, nm_A, rfl, by decide +kernel, Or.inr ⟨rfl, _, wN_1_49⟩, fun h => by cases h⟩
theorem sT_123 : aw_S "ScopeTree" 123 0 3 (.int) false := ⟨_, tn_A, 4, ty_A, rfl, by decide, in_A, tk_A, nm_A, rfl, by decide +kernel, Or.inr ⟨rfl, _, wN_1_52⟩, fun h => by cases h⟩
theorem cT_126 : aw_CV "ScopeTree" 126 mT_scopeAt 8 1 := ⟨cb_T_scopeAt, ⟨tn_T, 8, rfl⟩, wT_2_159, wS_6, wT_2_157⟩
theorem fT_60 : aw_F "ScopeTree" 60 6 4 := ⟨_, tn_S, 10, rfl, by decide, in_S, Or.inr ⟨_, wN_1_154⟩⟩
theorem fT_73 : aw_F "ScopeTree" 73 8 2 := ⟨_, tn_T, 8, rfl, by decide, in_T, Or.inl wT_1_187⟩
theorem cT_139 : aw_CS "ScopeTree" 139 mT_requireOpen 1 := ⟨cb_T_requireOpen, wT_2_174, wT_2_173⟩
theorem fT_142 : aw_F "ScopeTree" 142 6 2 := ⟨_, tn_S, 10, rfl, by decide, in_S, Or.inr ⟨_, wN_1_151⟩⟩
theorem cT_146 : aw_CVN "ScopeTree" 146 mP_append 5 1 := ⟨cb_P_append, ⟨tn_P, 2, rfl⟩, wT_2_180, wS_7, _, wN_2_178⟩
theorem fT_152 : aw_F "ScopeTree" 152 6 1 := ⟨_, tn_S, 10, rfl, by decide, in_S, Or.inr ⟨_, wN_1_149⟩⟩
theorem nT_157 : aw_N "ScopeTree" 157 3 3 [.int 0, .long 0, .long 0] := ⟨_, tn_F, ty_F, rfl, in_F, tk_F, wT_2_194, wT_2_195, wT_1_19, by decide +kernel⟩
theorem cT_159 : aw_CIN "ScopeTree" 159 mF_init 3 := ⟨cb_F_init, rfl, rfl, wT_2_197, _, wN_2_196⟩
theorem sT_162 : aw_S "ScopeTree" 162 6 3 (.object "ScopeTree$Filter") false := ⟨_, tn_S, 10, ty_S, rfl, by decide, in_S, tk_S, nm_S, rfl, by decide +kernel, Or.inr ⟨rfl, _, wN_1_152⟩, fun h => by cases h⟩
theorem fT_166 : aw_F "ScopeTree" 166 6 0 := ⟨_, tn_S, 10, rfl, by decide, in_S, Or.inr ⟨_, wN_1_147⟩⟩
theorem cT_172 : aw_CV "ScopeTree" 172 mT_freeLoaderNumbers 8 0 := ⟨cb_T_freeLoaderNumbers, ⟨tn_T, 8, rfl⟩, wT_2_221, wS_9, wT_2_219⟩
theorem fT_63 : aw_F "ScopeTree" 63 6 6 := ⟨_, tn_S, 10, rfl, by decide, in_S, Or.inr ⟨_, wN_1_156⟩⟩
theorem cT_181 : aw_CV "ScopeTree" 181 mT_wantedDefining 8 2 := ⟨cb_T_wantedDefining, ⟨tn_T, 8, rfl⟩, wT_3_1, wS_10, wT_2_239⟩
theorem sT_185 : aw_S "ScopeTree" 185 6 5 (.object "ScopeTree$Loader") false := ⟨_, tn_S, 10, ty_S, rfl, by decide, in_S, tk_S, nm_S, rfl, by decide +kernel, Or.inr ⟨rfl, _, wN_1_155⟩, fun h => by cases h⟩
theorem fT_162 : aw_F "ScopeTree" 162 6 3 := ⟨_, tn_S, 10, rfl, by decide, in_S, Or.inr ⟨_, wN_1_152⟩⟩
theorem fT_185 : aw_F "ScopeTree" 185 6 5 := ⟨_, tn_S, 10, rfl, by decide, in_S, Or.inr ⟨_, wN_1_155⟩⟩
theorem cT_188 : aw_CV "ScopeTree" 188 mT_wantedFiltering 8 2 := ⟨cb_T_wantedFiltering, ⟨tn_T, 8, rfl⟩, wT_3_47, wS_21, wT_3_45⟩
theorem fT_70 : aw_F "ScopeTree" 70 4 5 := ⟨_, tn_L, 8, rfl, by decide, in_L, Or.inr ⟨_, wN_1_77⟩⟩
theorem fT_67 : aw_F "ScopeTree" 67 6 7 := ⟨_, tn_S, 10, rfl, by decide, in_S, Or.inr ⟨_, wN_1_157⟩⟩
theorem fT_192 : aw_F "ScopeTree" 192 4 0 := ⟨_, tn_L, 8, rfl, by decide, in_L, Or.inr ⟨_, wN_1_69⟩⟩
theorem cT_197 : aw_CV "ScopeTree" 197 mT_hasChildLeft 8 1 := ⟨cb_T_hasChildLeft, ⟨tn_T, 8, rfl⟩, wT_3_63, wS_23, wT_3_61⟩
theorem cT_203 : aw_CV "ScopeTree" 203 mT_letGo 8 1 := ⟨cb_T_letGo, ⟨tn_T, 8, rfl⟩, wT_3_68, wS_24, wT_3_66⟩
theorem fT_207 : aw_F "ScopeTree" 207 4 1 := ⟨_, tn_L, 8, rfl, by decide, in_L, Or.inr ⟨_, wN_1_71⟩⟩
theorem fT_210 : aw_F "ScopeTree" 210 4 2 := ⟨_, tn_L, 8, rfl, by decide, in_L, Or.inr ⟨_, wN_1_73⟩⟩
theorem fT_212 : aw_F "ScopeTree" 212 4 6 := ⟨_, tn_L, 8, rfl, by decide, in_L, Or.inr ⟨_, wN_1_78⟩⟩
theorem cT_217 : aw_CS "ScopeTree" 217 mT_requireLocked 1 := ⟨cb_T_requireLocked, wT_3_87, wT_3_86⟩
theorem cT_220 : aw_CV "ScopeTree" 220 mT_typeFromScope 8 2 := ⟨cb_T_typeFromScope, ⟨tn_T, 8, rfl⟩, wT_3_92, wS_25, wT_3_90⟩
theorem fT_224 : aw_F "ScopeTree" 224 7 0 := ⟨_, tn_Y, 5, rfl, by decide, in_Y, Or.inr ⟨_, wN_1_103⟩⟩
theorem cT_225 : aw_CV "ScopeTree" 225 mT_typeAt 8 1 := ⟨cb_T_typeAt, ⟨tn_T, 8, rfl⟩, wT_3_152, wS_33, wT_3_150⟩
theorem fT_229 : aw_F "ScopeTree" 229 7 1 := ⟨_, tn_Y, 5, rfl, by decide, in_Y, Or.inr ⟨_, wN_1_105⟩⟩
theorem fT_232 : aw_F "ScopeTree" 232 7 3 := ⟨_, tn_Y, 5, rfl, by decide, in_Y, Or.inr ⟨_, wN_1_109⟩⟩
theorem fT_235 : aw_F "ScopeTree" 235 4 7 := ⟨_, tn_L, 8, rfl, by decide, in_L, Or.inr ⟨_, wN_1_79⟩⟩
theorem fT_239 : aw_F "ScopeTree" 239 7 2 := ⟨_, tn_Y, 5, rfl, by decide, in_Y, Or.inr ⟨_, wN_1_107⟩⟩
theorem fT_242 : aw_F "ScopeTree" 242 7 4 := ⟨_, tn_Y, 5, rfl, by decide, in_Y, Or.inr ⟨_, wN_1_111⟩⟩
theorem cT_251 : aw_CS "ScopeTree" 251 mT_isSubtype 2 := ⟨cb_T_isSubtype, wT_3_164, wT_3_163⟩
theorem cT_257 : aw_CS "ScopeTree" 257 mT_visibleDescriptor 2 := ⟨cb_T_visibleDescriptor, wT_3_175, wT_3_174⟩
theorem fT_261 : aw_F "ScopeTree" 261 2 1 := ⟨_, tn_D, 2, rfl, by decide, in_D, Or.inr ⟨_, wN_2_128⟩⟩
theorem cT_262 : aw_CVN "ScopeTree" 262 mS_hasApplied 6 1 := ⟨cb_S_hasApplied, ⟨tn_S, 10, rfl⟩, wT_3_187, wS_35, _, wN_3_185⟩
theorem cT_266 : aw_CVN "ScopeTree" 266 mS_appendApplied 6 1 := ⟨cb_S_appendApplied, ⟨tn_S, 10, rfl⟩, wT_3_191, wS_36, _, wN_3_189⟩
theorem fT_269 : aw_F "ScopeTree" 269 6 9 := ⟨_, tn_S, 10, rfl, by decide, in_S, Or.inr ⟨_, wN_1_161⟩⟩
theorem fT_272 : aw_F "ScopeTree" 272 6 8 := ⟨_, tn_S, 10, rfl, by decide, in_S, Or.inr ⟨_, wN_1_159⟩⟩
theorem fT_47 : aw_F "ScopeTree" 47 8 5 := ⟨_, tn_T, 8, rfl, by decide, in_T, Or.inl wT_1_190⟩
theorem fT_286 : aw_F "ScopeTree" 286 5 1 := ⟨_, tn_P, 2, rfl, by decide, in_P, Or.inr ⟨_, wN_1_137⟩⟩
theorem cT_289 : aw_CV "ScopeTree" 289 mT_contentsOf 8 1 := ⟨cb_T_contentsOf, ⟨tn_T, 8, rfl⟩, wT_3_5, wS_11, wT_3_3⟩
theorem cT_293 : aw_CVN "ScopeTree" 293 mL_hasPathLike 4 1 := ⟨cb_L_hasPathLike, ⟨tn_L, 8, rfl⟩, wT_3_15, wS_13, _, wN_3_13⟩
theorem cT_297 : aw_CV "ScopeTree" 297 mT_newLoader 8 4 := ⟨cb_T_newLoader, ⟨tn_T, 8, rfl⟩, wT_3_39, wS_19, wT_3_37⟩
theorem fT_301 : aw_F "ScopeTree" 301 4 4 := ⟨_, tn_L, 8, rfl, by decide, in_L, Or.inr ⟨_, wN_1_76⟩⟩
theorem cT_302 : aw_CVN "ScopeTree" 302 mF_isSame 3 1 := ⟨cb_F_isSame, ⟨tn_F, 3, rfl⟩, wT_3_51, wS_22, _, wN_3_49⟩
theorem fT_306 : aw_F "ScopeTree" 306 5 0 := ⟨_, tn_P, 2, rfl, by decide, in_P, Or.inr ⟨_, wN_1_135⟩⟩
theorem cT_308 : aw_CVN "ScopeTree" 308 mA_copy 0 0 := ⟨cb_A_copy, ⟨tn_A, 4, rfl⟩, wT_3_9, wS_12, _, wN_3_7⟩
theorem cT_312 : aw_CV "ScopeTree" 312 mT_leastFreeLoaderNumber 8 0 := ⟨cb_T_leastFreeLoaderNumber, ⟨tn_T, 8, rfl⟩, wT_3_43, wS_20, wT_3_41⟩
theorem sT_235 : aw_S "ScopeTree" 235 4 7 (.boolean) false := ⟨_, tn_L, 8, ty_L, rfl, by decide, in_L, tk_L, nm_L, rfl, by decide +kernel, Or.inr ⟨rfl, _, wN_1_79⟩, fun h => by cases h⟩
theorem cT_315 : aw_CV "ScopeTree" 315 mT_findFrom 8 3 := ⟨cb_T_findFrom, ⟨tn_T, 8, rfl⟩, wT_3_96, wS_26, wT_3_94⟩
theorem cT_321 : aw_CVN "ScopeTree" 321 mF_admits 3 1 := ⟨cb_F_admits, ⟨tn_F, 3, rfl⟩, wT_3_100, wS_27, _, wN_3_98⟩
theorem cT_324 : aw_CVN "ScopeTree" 324 mL_fileOf 4 1 := ⟨cb_L_fileOf, ⟨tn_L, 8, rfl⟩, wT_3_104, wS_28, _, wN_3_102⟩
theorem cT_328 : aw_CV "ScopeTree" 328 mT_typeDefinedBy 8 3 := ⟨cb_T_typeDefinedBy, ⟨tn_T, 8, rfl⟩, wT_3_109, wS_29, wT_3_107⟩
theorem fT_332 : aw_F "ScopeTree" 332 1 0 := ⟨_, tn_C, 3, rfl, by decide, in_C, Or.inr ⟨_, wN_2_72⟩⟩
theorem cT_333 : aw_CV "ScopeTree" 333 mT_knownType 8 2 := ⟨cb_T_knownType, ⟨tn_T, 8, rfl⟩, wT_3_113, wS_30, wT_3_111⟩
theorem cT_337 : aw_CV "ScopeTree" 337 mT_isBeingDefined 8 3 := ⟨cb_T_isBeingDefined, ⟨tn_T, 8, rfl⟩, wT_3_117, wS_31, wT_3_115⟩
theorem fT_33 : aw_F "ScopeTree" 33 8 6 := ⟨_, tn_T, 8, rfl, by decide, in_T, Or.inl wT_1_191⟩
theorem fT_36 : aw_F "ScopeTree" 36 8 7 := ⟨_, tn_T, 8, rfl, by decide, in_T, Or.inl wT_1_192⟩
theorem fT_345 : aw_F "ScopeTree" 345 1 1 := ⟨_, tn_C, 3, rfl, by decide, in_C, Or.inr ⟨_, wN_2_74⟩⟩
theorem cT_350 : aw_CV "ScopeTree" 350 mT_newType 8 3 := ⟨cb_T_newType, ⟨tn_T, 8, rfl⟩, wT_3_124, wS_32, wT_3_122⟩
theorem fT_356 : aw_F "ScopeTree" 356 1 2 := ⟨_, tn_C, 3, rfl, by decide, in_C, Or.inr ⟨_, wN_2_76⟩⟩
theorem sT_212 : aw_S "ScopeTree" 212 4 6 (.int) false := ⟨_, tn_L, 8, ty_L, rfl, by decide, in_L, tk_L, nm_L, rfl, by decide +kernel, Or.inr ⟨rfl, _, wN_1_78⟩, fun h => by cases h⟩
theorem cT_357 : aw_CVN "ScopeTree" 357 mL_descriptorOf 4 1 := ⟨cb_L_descriptorOf, ⟨tn_L, 8, rfl⟩, wT_3_179, wS_34, _, wN_3_177⟩
theorem cT_361 : aw_CS "ScopeTree" 361 mT_isLetThrough 3 := ⟨cb_T_isLetThrough, wT_3_183, wT_3_182⟩
theorem sM_7 : aw_S "ScopeTreeModel" 7 9 1 (.array (.int)) true := ⟨_, tn_M, 33, ty_M, rfl, by decide, in_M, tk_M, nm_M, rfl, by decide +kernel, Or.inl wT_3_207, fun _ => rfl⟩
theorem sM_13 : aw_S "ScopeTreeModel" 13 9 2 (.array (.int)) true := ⟨_, tn_M, 33, ty_M, rfl, by decide, in_M, tk_M, nm_M, rfl, by decide +kernel, Or.inl wT_3_208, fun _ => rfl⟩
theorem sM_16 : aw_S "ScopeTreeModel" 16 9 3 (.array (.int)) true := ⟨_, tn_M, 33, ty_M, rfl, by decide, in_M, tk_M, nm_M, rfl, by decide +kernel, Or.inl wT_3_209, fun _ => rfl⟩
theorem sM_19 : aw_S "ScopeTreeModel" 19 9 4 (.array (.int)) true := ⟨_, tn_M, 33, ty_M, rfl, by decide, in_M, tk_M, nm_M, rfl, by decide +kernel, Or.inl wT_3_210, fun _ => rfl⟩
theorem sM_22 : aw_S "ScopeTreeModel" 22 9 5 (.array (.boolean)) true := ⟨_, tn_M, 33, ty_M, rfl, by decide, in_M, tk_M, nm_M, rfl, by decide +kernel, Or.inl wT_3_211, fun _ => rfl⟩
theorem sM_26 : aw_S "ScopeTreeModel" 26 9 6 (.array (.int)) true := ⟨_, tn_M, 33, ty_M, rfl, by decide, in_M, tk_M, nm_M, rfl, by decide +kernel, Or.inl wT_3_212, fun _ => rfl⟩
theorem sM_29 : aw_S "ScopeTreeModel" 29 9 7 (.array (.int)) true := ⟨_, tn_M, 33, ty_M, rfl, by decide, in_M, tk_M, nm_M, rfl, by decide +kernel, Or.inl wT_3_213, fun _ => rfl⟩
theorem sM_32 : aw_S "ScopeTreeModel" 32 9 8 (.array (.int)) true := ⟨_, tn_M, 33, ty_M, rfl, by decide, in_M, tk_M, nm_M, rfl, by decide +kernel, Or.inl wT_3_214, fun _ => rfl⟩
theorem sM_35 : aw_S "ScopeTreeModel" 35 9 9 (.array (.int)) true := ⟨_, tn_M, 33, ty_M, rfl, by decide, in_M, tk_M, nm_M, rfl, by decide +kernel, Or.inl wT_3_215, fun _ => rfl⟩
theorem sM_38 : aw_S "ScopeTreeModel" 38 9 10 (.array (.long)) true := ⟨_, tn_M, 33, ty_M, rfl, by decide, in_M, tk_M, nm_M, rfl, by decide +kernel, Or.inl wT_3_216, fun _ => rfl⟩
theorem sM_42 : aw_S "ScopeTreeModel" 42 9 11 (.array (.long)) true := ⟨_, tn_M, 33, ty_M, rfl, by decide, in_M, tk_M, nm_M, rfl, by decide +kernel, Or.inl wT_3_217, fun _ => rfl⟩
theorem sM_45 : aw_S "ScopeTreeModel" 45 9 12 (.int) false := ⟨_, tn_M, 33, ty_M, rfl, by decide, in_M, tk_M, nm_M, rfl, by decide +kernel, Or.inl wT_3_218, fun h => by cases h⟩
theorem sM_49 : aw_S "ScopeTreeModel" 49 9 13 (.array (.int)) true := ⟨_, tn_M, 33, ty_M, rfl, by decide, in_M, tk_M, nm_M, rfl, by decide +kernel, Or.inl wT_3_219, fun _ => rfl⟩
theorem sM_52 : aw_S "ScopeTreeModel" 52 9 14 (.array (.int)) true := ⟨_, tn_M, 33, ty_M, rfl, by decide, in_M, tk_M, nm_M, rfl, by decide +kernel, Or.inl wT_3_220, fun _ => rfl⟩
theorem sM_55 : aw_S "ScopeTreeModel" 55 9 15 (.array (.int)) true := ⟨_, tn_M, 33, ty_M, rfl, by decide, in_M, tk_M, nm_M, rfl, by decide +kernel, Or.inl wT_3_221, fun _ => rfl⟩
theorem sM_58 : aw_S "ScopeTreeModel" 58 9 16 (.array (.int)) true := ⟨_, tn_M, 33, ty_M, rfl, by decide, in_M, tk_M, nm_M, rfl, by decide +kernel, Or.inl wT_3_222, fun _ => rfl⟩
theorem sM_61 : aw_S "ScopeTreeModel" 61 9 17 (.array (.boolean)) true := ⟨_, tn_M, 33, ty_M, rfl, by decide, in_M, tk_M, nm_M, rfl, by decide +kernel, Or.inl wT_3_223, fun _ => rfl⟩
theorem sM_64 : aw_S "ScopeTreeModel" 64 9 18 (.array (.int)) true := ⟨_, tn_M, 33, ty_M, rfl, by decide, in_M, tk_M, nm_M, rfl, by decide +kernel, Or.inl wT_3_224, fun _ => rfl⟩
theorem sM_67 : aw_S "ScopeTreeModel" 67 9 19 (.array (.long)) true := ⟨_, tn_M, 33, ty_M, rfl, by decide, in_M, tk_M, nm_M, rfl, by decide +kernel, Or.inl wT_3_225, fun _ => rfl⟩
theorem sM_70 : aw_S "ScopeTreeModel" 70 9 20 (.array (.long)) true := ⟨_, tn_M, 33, ty_M, rfl, by decide, in_M, tk_M, nm_M, rfl, by decide +kernel, Or.inl wT_3_226, fun _ => rfl⟩
theorem sM_73 : aw_S "ScopeTreeModel" 73 9 21 (.array (.int)) true := ⟨_, tn_M, 33, ty_M, rfl, by decide, in_M, tk_M, nm_M, rfl, by decide +kernel, Or.inl wT_3_227, fun _ => rfl⟩
theorem sM_76 : aw_S "ScopeTreeModel" 76 9 22 (.array (.int)) true := ⟨_, tn_M, 33, ty_M, rfl, by decide, in_M, tk_M, nm_M, rfl, by decide +kernel, Or.inl wT_3_228, fun _ => rfl⟩
theorem sM_79 : aw_S "ScopeTreeModel" 79 9 23 (.array (.int)) true := ⟨_, tn_M, 33, ty_M, rfl, by decide, in_M, tk_M, nm_M, rfl, by decide +kernel, Or.inl wT_3_229, fun _ => rfl⟩
theorem sM_82 : aw_S "ScopeTreeModel" 82 9 24 (.int) false := ⟨_, tn_M, 33, ty_M, rfl, by decide, in_M, tk_M, nm_M, rfl, by decide +kernel, Or.inl wT_3_230, fun h => by cases h⟩
theorem sM_85 : aw_S "ScopeTreeModel" 85 9 25 (.array (.int)) true := ⟨_, tn_M, 33, ty_M, rfl, by decide, in_M, tk_M, nm_M, rfl, by decide +kernel, Or.inl wT_3_231, fun _ => rfl⟩
theorem sM_88 : aw_S "ScopeTreeModel" 88 9 26 (.array (.int)) true := ⟨_, tn_M, 33, ty_M, rfl, by decide, in_M, tk_M, nm_M, rfl, by decide +kernel, Or.inl wT_3_232, fun _ => rfl⟩
theorem sM_91 : aw_S "ScopeTreeModel" 91 9 27 (.array (.int)) true := ⟨_, tn_M, 33, ty_M, rfl, by decide, in_M, tk_M, nm_M, rfl, by decide +kernel, Or.inl wT_3_233, fun _ => rfl⟩
theorem sM_94 : aw_S "ScopeTreeModel" 94 9 28 (.array (.int)) true := ⟨_, tn_M, 33, ty_M, rfl, by decide, in_M, tk_M, nm_M, rfl, by decide +kernel, Or.inl wT_3_234, fun _ => rfl⟩
theorem sM_97 : aw_S "ScopeTreeModel" 97 9 31 (.array (.int)) true := ⟨_, tn_M, 33, ty_M, rfl, by decide, in_M, tk_M, nm_M, rfl, by decide +kernel, Or.inl wT_3_237, fun _ => rfl⟩
theorem sM_100 : aw_S "ScopeTreeModel" 100 9 32 (.array (.int)) true := ⟨_, tn_M, 33, ty_M, rfl, by decide, in_M, tk_M, nm_M, rfl, by decide +kernel, Or.inl wT_3_238, fun _ => rfl⟩
theorem fM_22 : aw_F "ScopeTreeModel" 22 9 5 := ⟨_, tn_M, 33, rfl, by decide, in_M, Or.inl wT_3_211⟩
theorem fM_29 : aw_F "ScopeTreeModel" 29 9 7 := ⟨_, tn_M, 33, rfl, by decide, in_M, Or.inl wT_3_213⟩
theorem fM_49 : aw_F "ScopeTreeModel" 49 9 13 := ⟨_, tn_M, 33, rfl, by decide, in_M, Or.inl wT_3_219⟩
theorem fM_85 : aw_F "ScopeTreeModel" 85 9 25 := ⟨_, tn_M, 33, rfl, by decide, in_M, Or.inl wT_3_231⟩
theorem fM_94 : aw_F "ScopeTreeModel" 94 9 28 := ⟨_, tn_M, 33, rfl, by decide, in_M, Or.inl wT_3_234⟩
theorem fM_103 : aw_F "ScopeTreeModel" 103 9 0 := ⟨_, tn_M, 33, rfl, by decide, in_M, Or.inl wT_3_206⟩
theorem sM_103 : aw_S "ScopeTreeModel" 103 9 0 (.int) false := ⟨_, tn_M, 33, ty_M, rfl, by decide, in_M, tk_M, nm_M, rfl, by decide +kernel, Or.inl wT_3_206, fun h => by cases h⟩
theorem cM_106 : aw_CS "ScopeTreeModel" 106 mM_in 3 := ⟨cb_M_in, wT_4_77, wT_4_76⟩
theorem cM_110 : aw_CV "ScopeTreeModel" 110 mM_fails 9 2 := ⟨cb_M_fails, ⟨tn_M, 33, rfl⟩, wT_4_81, wS_37, wT_4_79⟩
theorem fM_7 : aw_F "ScopeTreeModel" 7 9 1 := ⟨_, tn_M, 33, rfl, by decide, in_M, Or.inl wT_3_207⟩
theorem fM_13 : aw_F "ScopeTreeModel" 13 9 2 := ⟨_, tn_M, 33, rfl, by decide, in_M, Or.inl wT_3_208⟩
theorem fM_16 : aw_F "ScopeTreeModel" 16 9 3 := ⟨_, tn_M, 33, rfl, by decide, in_M, Or.inl wT_3_209⟩
theorem fM_19 : aw_F "ScopeTreeModel" 19 9 4 := ⟨_, tn_M, 33, rfl, by decide, in_M, Or.inl wT_3_210⟩
theorem cM_114 : aw_CV "ScopeTreeModel" 114 mM_fileOf 9 2 := ⟨cb_M_fileOf, ⟨tn_M, 33, rfl⟩, wT_4_125, wS_42, wT_4_123⟩
theorem cM_118 : aw_CV "ScopeTreeModel" 118 mM_described 9 2 := ⟨cb_M_described, ⟨tn_M, 33, rfl⟩, wT_4_129, wS_43, wT_4_127⟩
theorem cM_121 : aw_CV "ScopeTreeModel" 121 mM_freeLoader 9 0 := ⟨cb_M_freeLoader, ⟨tn_M, 33, rfl⟩, wT_4_137, wS_45, wT_4_135⟩
theorem fM_26 : aw_F "ScopeTreeModel" 26 9 6 := ⟨_, tn_M, 33, rfl, by decide, in_M, Or.inl wT_3_212⟩
theorem fM_32 : aw_F "ScopeTreeModel" 32 9 8 := ⟨_, tn_M, 33, rfl, by decide, in_M, Or.inl wT_3_214⟩
theorem fM_58 : aw_F "ScopeTreeModel" 58 9 16 := ⟨_, tn_M, 33, rfl, by decide, in_M, Or.inl wT_3_222⟩
theorem fM_55 : aw_F "ScopeTreeModel" 55 9 15 := ⟨_, tn_M, 33, rfl, by decide, in_M, Or.inl wT_3_221⟩
theorem cM_125 : aw_CV "ScopeTreeModel" 125 mM_alike 9 2 := ⟨cb_M_alike, ⟨tn_M, 33, rfl⟩, wT_4_121, wS_41, wT_4_119⟩
theorem cM_129 : aw_CV "ScopeTreeModel" 129 mM_begin 9 2 := ⟨cb_M_begin, ⟨tn_M, 33, rfl⟩, wT_4_133, wS_44, wT_4_131⟩
theorem cM_132 : aw_CV "ScopeTreeModel" 132 mM_copySheet 9 2 := ⟨cb_M_copySheet, ⟨tn_M, 33, rfl⟩, wT_4_141, wS_46, wT_4_139⟩
theorem fM_61 : aw_F "ScopeTreeModel" 61 9 17 := ⟨_, tn_M, 33, rfl, by decide, in_M, Or.inl wT_3_223⟩
theorem fM_35 : aw_F "ScopeTreeModel" 35 9 9 := ⟨_, tn_M, 33, rfl, by decide, in_M, Or.inl wT_3_215⟩
theorem fM_64 : aw_F "ScopeTreeModel" 64 9 18 := ⟨_, tn_M, 33, rfl, by decide, in_M, Or.inl wT_3_224⟩
theorem fM_38 : aw_F "ScopeTreeModel" 38 9 10 := ⟨_, tn_M, 33, rfl, by decide, in_M, Or.inl wT_3_216⟩
theorem fM_67 : aw_F "ScopeTreeModel" 67 9 19 := ⟨_, tn_M, 33, rfl, by decide, in_M, Or.inl wT_3_225⟩
theorem fM_42 : aw_F "ScopeTreeModel" 42 9 11 := ⟨_, tn_M, 33, rfl, by decide, in_M, Or.inl wT_3_217⟩
theorem fM_70 : aw_F "ScopeTreeModel" 70 9 20 := ⟨_, tn_M, 33, rfl, by decide, in_M, Or.inl wT_3_226⟩
theorem fM_45 : aw_F "ScopeTreeModel" 45 9 12 := ⟨_, tn_M, 33, rfl, by decide, in_M, Or.inl wT_3_218⟩
theorem fM_73 : aw_F "ScopeTreeModel" 73 9 21 := ⟨_, tn_M, 33, rfl, by decide, in_M, Or.inl wT_3_227⟩
theorem cM_136 : aw_CV "ScopeTreeModel" 136 mM_holders 9 1 := ⟨cb_M_holders, ⟨tn_M, 33, rfl⟩, wT_4_157, wS_49, wT_4_155⟩
theorem fM_82 : aw_F "ScopeTreeModel" 82 9 24 := ⟨_, tn_M, 33, rfl, by decide, in_M, Or.inl wT_3_230⟩
theorem fM_88 : aw_F "ScopeTreeModel" 88 9 26 := ⟨_, tn_M, 33, rfl, by decide, in_M, Or.inl wT_3_232⟩
theorem cM_140 : aw_CV "ScopeTreeModel" 140 mM_noScope 9 1 := ⟨cb_M_noScope, ⟨tn_M, 33, rfl⟩, wT_4_97, wS_38, wT_4_95⟩
theorem fM_52 : aw_F "ScopeTreeModel" 52 9 14 := ⟨_, tn_M, 33, rfl, by decide, in_M, Or.inl wT_3_220⟩
theorem cM_144 : aw_CV "ScopeTreeModel" 144 mM_freeLoaders 9 0 := ⟨cb_M_freeLoaders, ⟨tn_M, 33, rfl⟩, wT_4_113, wS_39, wT_4_111⟩
theorem cM_147 : aw_CV "ScopeTreeModel" 147 mM_defining 9 3 := ⟨cb_M_defining, ⟨tn_M, 33, rfl⟩, wT_4_117, wS_40, wT_4_115⟩
theorem cM_151 : aw_CV "ScopeTreeModel" 151 mM_filtering 9 2 := ⟨cb_M_filtering, ⟨tn_M, 33, rfl⟩, wT_4_145, wS_47, wT_4_143⟩
theorem cM_154 : aw_CV "ScopeTreeModel" 154 mM_sweep 9 0 := ⟨cb_M_sweep, ⟨tn_M, 33, rfl⟩, wT_4_153, wS_48, wT_4_151⟩
theorem sM_157 : aw_S "ScopeTreeModel" 157 9 30 (.int) false := ⟨_, tn_M, 33, ty_M, rfl, by decide, in_M, tk_M, nm_M, rfl, by decide +kernel, Or.inl wT_3_236, fun h => by cases h⟩
theorem fM_157 : aw_F "ScopeTreeModel" 157 9 30 := ⟨_, tn_M, 33, rfl, by decide, in_M, Or.inl wT_3_236⟩
theorem cM_160 : aw_CV "ScopeTreeModel" 160 mM_admits 9 2 := ⟨cb_M_admits, ⟨tn_M, 33, rfl⟩, wT_4_185, wS_53, wT_4_183⟩
theorem sM_163 : aw_S "ScopeTreeModel" 163 9 29 (.int) false := ⟨_, tn_M, 33, ty_M, rfl, by decide, in_M, tk_M, nm_M, rfl, by decide +kernel, Or.inl wT_3_235, fun h => by cases h⟩
theorem cM_166 : aw_CV "ScopeTreeModel" 166 mM_seek 9 2 := ⟨cb_M_seek, ⟨tn_M, 33, rfl⟩, wT_4_181, wS_52, wT_4_179⟩
theorem fM_163 : aw_F "ScopeTreeModel" 163 9 29 := ⟨_, tn_M, 33, rfl, by decide, in_M, Or.inl wT_3_235⟩
theorem cM_169 : aw_CV "ScopeTreeModel" 169 mM_definedBy 9 2 := ⟨cb_M_definedBy, ⟨tn_M, 33, rfl⟩, wT_4_189, wS_54, wT_4_187⟩
theorem fM_97 : aw_F "ScopeTreeModel" 97 9 31 := ⟨_, tn_M, 33, rfl, by decide, in_M, Or.inl wT_3_237⟩
theorem fM_100 : aw_F "ScopeTreeModel" 100 9 32 := ⟨_, tn_M, 33, rfl, by decide, in_M, Or.inl wT_3_238⟩
theorem fM_91 : aw_F "ScopeTreeModel" 91 9 27 := ⟨_, tn_M, 33, rfl, by decide, in_M, Or.inl wT_3_233⟩
theorem cM_172 : aw_CV "ScopeTreeModel" 172 mM_resolve 9 2 := ⟨cb_M_resolve, ⟨tn_M, 33, rfl⟩, wT_4_177, wS_51, wT_4_175⟩
theorem cM_175 : aw_CV "ScopeTreeModel" 175 mM_loads 9 2 := ⟨cb_M_loads, ⟨tn_M, 33, rfl⟩, wT_4_173, wS_50, wT_4_171⟩
theorem cM_178 : aw_CV "ScopeTreeModel" 178 mM_descends 9 2 := ⟨cb_M_descends, ⟨tn_M, 33, rfl⟩, wT_4_201, wS_55, wT_4_199⟩
theorem cM_181 : aw_CV "ScopeTreeModel" 181 mM_describedFrom 9 2 := ⟨cb_M_describedFrom, ⟨tn_M, 33, rfl⟩, wT_4_209, wS_56, wT_4_207⟩
theorem fM_79 : aw_F "ScopeTreeModel" 79 9 23 := ⟨_, tn_M, 33, rfl, by decide, in_M, Or.inl wT_3_229⟩
theorem fM_76 : aw_F "ScopeTreeModel" 76 9 22 := ⟨_, tn_M, 33, rfl, by decide, in_M, Or.inl wT_3_228⟩
theorem sA_11 : aw_S "ScopeTree$Archive" 11 0 0 (.array (.object "ScopeTree$ClassFile")) true := ⟨_, tn_A, 4, ty_A, rfl, by decide, in_A, tk_A, nm_A, rfl, by decide +kernel, Or.inl wT_1_47, fun _ => rfl⟩
theorem sA_19 : aw_S "ScopeTree$Archive" 19 0 2 (.array (.object "ScopeTree$Descriptor")) true := ⟨_, tn_A, 4, ty_A, rfl, by decide, in_A, tk_A, nm_A, rfl, by decide +kernel, Or.inl wT_1_50, fun _ => rfl⟩
theorem cA_23 : aw_CV "ScopeTree$Archive" 23 mA_placeOfFile 0 1 := ⟨cb_A_placeOfFile, ⟨tn_A, 4, rfl⟩, wT_2_90, wS_3, wT_2_88⟩
theorem fA_27 : aw_F "ScopeTree$Archive" 27 0 1 := ⟨_, tn_A, 4, rfl, by decide, in_A, Or.inl wT_1_48⟩
theorem fA_11 : aw_F "ScopeTree$Archive" 11 0 0 := ⟨_, tn_A, 4, rfl, by decide, in_A, Or.inl wT_1_47⟩
theorem cA_31 : aw_CV "ScopeTree$Archive" 31 mA_placeOfDescriptor 0 1 := ⟨cb_A_placeOfDescriptor, ⟨tn_A, 4, rfl⟩, wT_2_140, wS_5, wT_2_138⟩
theorem fA_34 : aw_F "ScopeTree$Archive" 34 0 3 := ⟨_, tn_A, 4, rfl, by decide, in_A, Or.inl wT_1_51⟩
theorem fA_19 : aw_F "ScopeTree$Archive" 19 0 2 := ⟨_, tn_A, 4, rfl, by decide, in_A, Or.inl wT_1_50⟩
theorem fA_37 : aw_F "ScopeTree$Archive" 37 1 0 := ⟨_, tn_C, 3, rfl, by decide, in_C, Or.inr ⟨_, wN_2_71⟩⟩
theorem sA_27 : aw_S "ScopeTree$Archive" 27 0 1 (.int) false := ⟨_, tn_A, 4, ty_A, rfl, by decide, in_A, tk_A, nm_A, rfl, by decide +kernel, Or.inl wT_1_48, fun h => by cases h⟩
theorem fA_46 : aw_F "ScopeTree$Archive" 46 2 0 := ⟨_, tn_D, 2, rfl, by decide, in_D, Or.inr ⟨_, wN_2_126⟩⟩
theorem sA_34 : aw_S "ScopeTree$Archive" 34 0 3 (.int) false := ⟨_, tn_A, 4, ty_A, rfl, by decide, in_A, tk_A, nm_A, rfl, by decide +kernel, Or.inl wT_1_51, fun h => by cases h⟩
theorem nA_12 : aw_N "ScopeTree$Archive" 12 0 4 [.null, .int 0, .null, .int 0] := ⟨_, tn_A, ty_A, rfl, in_A, tk_A, wT_3_11, wT_1_38, wT_1_2, by decide +kernel⟩
theorem cA_49 : aw_CI "ScopeTree$Archive" 49 mA_init 0 := ⟨cb_A_init, rfl, rfl, wT_1_40, wT_3_12⟩
theorem cA_50 : aw_CV "ScopeTree$Archive" 50 mA_fileOf 0 1 := ⟨cb_A_fileOf, ⟨tn_A, 4, rfl⟩, wT_3_23, wS_15, wT_3_21⟩
theorem cA_54 : aw_CVN "ScopeTree$Archive" 54 mC_isSame 1 1 := ⟨cb_C_isSame, ⟨tn_C, 3, rfl⟩, wT_3_27, wS_16, _, wN_3_25⟩
theorem cA_58 : aw_CV "ScopeTree$Archive" 58 mA_descriptorOf 0 1 := ⟨cb_A_descriptorOf, ⟨tn_A, 4, rfl⟩, wT_3_31, wS_17, wT_3_29⟩
theorem cA_62 : aw_CVN "ScopeTree$Archive" 62 mD_isSame 2 1 := ⟨cb_D_isSame, ⟨tn_D, 2, rfl⟩, wT_3_35, wS_18, _, wN_3_33⟩
theorem cC_1 : aw_CI "ScopeTree$ClassFile" 1 mR_init 0 := ⟨cb_R_init, rfl, rfl, wT_2_67, wT_2_66⟩
theorem sC_7 : aw_S "ScopeTree$ClassFile" 7 1 0 (.int) true := ⟨_, tn_C, 3, ty_C, rfl, by decide, in_C, tk_C, nm_C, rfl, by decide +kernel, Or.inl wT_2_70, fun _ => rfl⟩
theorem sC_13 : aw_S "ScopeTree$ClassFile" 13 1 1 (.int) true := ⟨_, tn_C, 3, ty_C, rfl, by decide, in_C, tk_C, nm_C, rfl, by decide +kernel, Or.inl wT_2_73, fun _ => rfl⟩
theorem sC_16 : aw_S "ScopeTree$ClassFile" 16 1 2 (.int) true := ⟨_, tn_C, 3, ty_C, rfl, by decide, in_C, tk_C, nm_C, rfl, by decide +kernel, Or.inl wT_2_75, fun _ => rfl⟩
theorem fC_7 : aw_F "ScopeTree$ClassFile" 7 1 0 := ⟨_, tn_C, 3, rfl, by decide, in_C, Or.inl wT_2_70⟩
theorem fC_13 : aw_F "ScopeTree$ClassFile" 13 1 1 := ⟨_, tn_C, 3, rfl, by decide, in_C, Or.inl wT_2_73⟩
theorem fC_16 : aw_F "ScopeTree$ClassFile" 16 1 2 := ⟨_, tn_C, 3, rfl, by decide, in_C, Or.inl wT_2_75⟩
theorem cD_1 : aw_CI "ScopeTree$Descriptor" 1 mR_init 0 := ⟨cb_R_init, rfl, rfl, wT_2_67, wT_2_124⟩
theorem sD_7 : aw_S "ScopeTree$Descriptor" 7 2 0 (.int) true := ⟨_, tn_D, 2, ty_D, rfl, by decide, in_D, tk_D, nm_D, rfl, by decide +kernel, Or.inl wT_2_125, fun _ => rfl⟩
theorem sD_13 : aw_S "ScopeTree$Descriptor" 13 2 1 (.int) true := ⟨_, tn_D, 2, ty_D, rfl, by decide, in_D, tk_D, nm_D, rfl, by decide +kernel, Or.inl wT_2_127, fun _ => rfl⟩
theorem fD_7 : aw_F "ScopeTree$Descriptor" 7 2 0 := ⟨_, tn_D, 2, rfl, by decide, in_D, Or.inl wT_2_125⟩
theorem fD_13 : aw_F "ScopeTree$Descriptor" 13 2 1 := ⟨_, tn_D, 2, rfl, by decide, in_D, Or.inl wT_2_127⟩
theorem cF_1 : aw_CI "ScopeTree$Filter" 1 mR_init 0 := ⟨cb_R_init, rfl, rfl, wT_2_67, wT_2_199⟩
theorem sF_7 : aw_S "ScopeTree$Filter" 7 3 0 (.int) true := ⟨_, tn_F, 3, ty_F, rfl, by decide, in_F, tk_F, nm_F, rfl, by decide +kernel, Or.inl wT_2_200, fun _ => rfl⟩
theorem sF_13 : aw_S "ScopeTree$Filter" 13 3 1 (.long) true := ⟨_, tn_F, 3, ty_F, rfl, by decide, in_F, tk_F, nm_F, rfl, by decide +kernel, Or.inl wT_2_201, fun _ => rfl⟩
theorem sF_17 : aw_S "ScopeTree$Filter" 17 3 2 (.long) true := ⟨_, tn_F, 3, ty_F, rfl, by decide, in_F, tk_F, nm_F, rfl, by decide +kernel, Or.inl wT_2_202, fun _ => rfl⟩
theorem fF_17 : aw_F "ScopeTree$Filter" 17 3 2 := ⟨_, tn_F, 3, rfl, by decide, in_F, Or.inl wT_2_202⟩
theorem fF_13 : aw_F "ScopeTree$Filter" 13 3 1 := ⟨_, tn_F, 3, rfl, by decide, in_F, Or.inl wT_2_201⟩
theorem fF_7 : aw_F "ScopeTree$Filter" 7 3 0 := ⟨_, tn_F, 3, rfl, by decide, in_F, Or.inl wT_2_200⟩
theorem sL_7 : aw_S "ScopeTree$Loader" 7 4 0 (.int) true := ⟨_, tn_L, 8, ty_L, rfl, by decide, in_L, tk_L, nm_L, rfl, by decide +kernel, Or.inl wT_1_68, fun _ => rfl⟩
theorem sL_13 : aw_S "ScopeTree$Loader" 13 4 1 (.int) true := ⟨_, tn_L, 8, ty_L, rfl, by decide, in_L, tk_L, nm_L, rfl, by decide +kernel, Or.inl wT_1_70, fun _ => rfl⟩
theorem sL_16 : aw_S "ScopeTree$Loader" 16 4 2 (.object "ScopeTree$Loader") true := ⟨_, tn_L, 8, ty_L, rfl, by decide, in_L, tk_L, nm_L, rfl, by decide +kernel, Or.inl wT_1_72, fun _ => rfl⟩
theorem sL_20 : aw_S "ScopeTree$Loader" 20 4 3 (.array (.object "ScopeTree$Archive")) true := ⟨_, tn_L, 8, ty_L, rfl, by decide, in_L, tk_L, nm_L, rfl, by decide +kernel, Or.inl wT_1_74, fun _ => rfl⟩
theorem sL_24 : aw_S "ScopeTree$Loader" 24 4 4 (.object "ScopeTree$Filter") true := ⟨_, tn_L, 8, ty_L, rfl, by decide, in_L, tk_L, nm_L, rfl, by decide +kernel, Or.inl wT_1_75, fun _ => rfl⟩
theorem fL_20 : aw_F "ScopeTree$Loader" 20 4 3 := ⟨_, tn_L, 8, rfl, by decide, in_L, Or.inl wT_1_74⟩
theorem cL_28 : aw_CVN "ScopeTree$Loader" 28 mA_fileOf 0 1 := ⟨cb_A_fileOf, ⟨tn_A, 4, rfl⟩, wT_3_23, wS_15, _, wN_3_106⟩
theorem cL_34 : aw_CVN "ScopeTree$Loader" 34 mA_descriptorOf 0 1 := ⟨cb_A_descriptorOf, ⟨tn_A, 4, rfl⟩, wT_3_31, wS_17, _, wN_3_181⟩
theorem cL_38 : aw_CVN "ScopeTree$Loader" 38 mA_isLike 0 1 := ⟨cb_A_isLike, ⟨tn_A, 4, rfl⟩, wT_3_19, wS_14, _, wN_3_17⟩
theorem sP_9 : aw_S "ScopeTree$Path" 9 5 0 (.array (.int)) true := ⟨_, tn_P, 2, ty_P, rfl, by decide, in_P, tk_P, nm_P, rfl, by decide +kernel, Or.inl wT_1_134, fun _ => rfl⟩
theorem fP_15 : aw_F "ScopeTree$Path" 15 5 1 := ⟨_, tn_P, 2, rfl, by decide, in_P, Or.inl wT_1_136⟩
theorem cP_19 : aw_CV "ScopeTree$Path" 19 mP_contains 5 1 := ⟨cb_P_contains, ⟨tn_P, 2, rfl⟩, wT_2_184, wS_8, wT_2_182⟩
theorem fP_9 : aw_F "ScopeTree$Path" 9 5 0 := ⟨_, tn_P, 2, rfl, by decide, in_P, Or.inl wT_1_134⟩
theorem sP_15 : aw_S "ScopeTree$Path" 15 5 1 (.int) false := ⟨_, tn_P, 2, ty_P, rfl, by decide, in_P, tk_P, nm_P, rfl, by decide +kernel, Or.inl wT_1_136, fun h => by cases h⟩
theorem nS_9 : aw_N "ScopeTree$Scope" 9 5 2 [.null, .int 0] := ⟨_, tn_P, ty_P, rfl, in_P, tk_P, wT_1_128, wT_1_129, wT_1_6, by decide +kernel⟩
theorem cS_11 : aw_CIN "ScopeTree$Scope" 11 mP_init 0 := ⟨cb_P_init, rfl, rfl, wT_1_131, _, wN_1_130⟩
theorem sS_12 : aw_S "ScopeTree$Scope" 12 6 1 (.object "ScopeTree$Path") true := ⟨_, tn_S, 10, ty_S, rfl, by decide, in_S, tk_S, nm_S, rfl, by decide +kernel, Or.inl wT_1_148, fun _ => rfl⟩
theorem sS_18 : aw_S "ScopeTree$Scope" 18 6 2 (.object "ScopeTree$Path") true := ⟨_, tn_S, 10, ty_S, rfl, by decide, in_S, tk_S, nm_S, rfl, by decide +kernel, Or.inl wT_1_150, fun _ => rfl⟩
theorem sS_27 : aw_S "ScopeTree$Scope" 27 6 4 (.object "ScopeTree$State") false := ⟨_, tn_S, 10, ty_S, rfl, by decide, in_S, tk_S, nm_S, rfl, by decide +kernel, Or.inl wT_1_153, fun h => by cases h⟩
theorem sS_32 : aw_S "ScopeTree$Scope" 32 6 8 (.array (.object "ScopeTree$Type")) true := ⟨_, tn_S, 10, ty_S, rfl, by decide, in_S, tk_S, nm_S, rfl, by decide +kernel, Or.inl wT_1_158, fun _ => rfl⟩
theorem sS_36 : aw_S "ScopeTree$Scope" 36 6 0 (.object "ScopeTree$Scope") true := ⟨_, tn_S, 10, ty_S, rfl, by decide, in_S, tk_S, nm_S, rfl, by decide +kernel, Or.inl wT_1_146, fun _ => rfl⟩
theorem fS_40 : aw_F "ScopeTree$Scope" 40 6 9 := ⟨_, tn_S, 10, rfl, by decide, in_S, Or.inl wT_1_160⟩
theorem fS_32 : aw_F "ScopeTree$Scope" 32 6 8 := ⟨_, tn_S, 10, rfl, by decide, in_S, Or.inl wT_1_158⟩
theorem sS_40 : aw_S "ScopeTree$Scope" 40 6 9 (.int) false := ⟨_, tn_S, 10, ty_S, rfl, by decide, in_S, tk_S, nm_S, rfl, by decide +kernel, Or.inl wT_1_160, fun h => by cases h⟩
theorem sY_7 : aw_S "ScopeTree$Type" 7 7 0 (.int) true := ⟨_, tn_Y, 5, ty_Y, rfl, by decide, in_Y, tk_Y, nm_Y, rfl, by decide +kernel, Or.inl wT_1_102, fun _ => rfl⟩
theorem sY_13 : aw_S "ScopeTree$Type" 13 7 1 (.int) true := ⟨_, tn_Y, 5, ty_Y, rfl, by decide, in_Y, tk_Y, nm_Y, rfl, by decide +kernel, Or.inl wT_1_104, fun _ => rfl⟩
theorem sY_16 : aw_S "ScopeTree$Type" 16 7 2 (.int) true := ⟨_, tn_Y, 5, ty_Y, rfl, by decide, in_Y, tk_Y, nm_Y, rfl, by decide +kernel, Or.inl wT_1_106, fun _ => rfl⟩
theorem sY_19 : aw_S "ScopeTree$Type" 19 7 3 (.object "ScopeTree$Loader") true := ⟨_, tn_Y, 5, ty_Y, rfl, by decide, in_Y, tk_Y, nm_Y, rfl, by decide +kernel, Or.inl wT_1_108, fun _ => rfl⟩
theorem sY_23 : aw_S "ScopeTree$Type" 23 7 4 (.object "ScopeTree$Type") true := ⟨_, tn_Y, 5, ty_Y, rfl, by decide, in_Y, tk_Y, nm_Y, rfl, by decide +kernel, Or.inl wT_1_110, fun _ => rfl⟩
theorem cW_7 : aw_CV "ScopeTreeLaw" 7 mT_file 8 4 := ⟨cb_T_file, ⟨tn_T, 8, rfl⟩, wT_1_223, wT_1_224, wT_1_222⟩
theorem cW_17 : aw_CV "ScopeTreeLaw" 17 mT_descriptor 8 3 := ⟨cb_T_descriptor, ⟨tn_T, 8, rfl⟩, wT_2_115, wT_2_116, wT_2_114⟩
theorem cW_21 : aw_CV "ScopeTreeLaw" 21 mT_wipe 8 1 := ⟨cb_T_wipe, ⟨tn_T, 8, rfl⟩, wT_2_147, wT_2_148, wT_2_146⟩
theorem cW_25 : aw_CV "ScopeTreeLaw" 25 mT_child 8 1 := ⟨cb_T_child, ⟨tn_T, 8, rfl⟩, wT_2_154, wT_2_155, wT_2_153⟩
theorem cW_29 : aw_CV "ScopeTreeLaw" 29 mT_add 8 3 := ⟨cb_T_add, ⟨tn_T, 8, rfl⟩, wT_2_170, wT_2_171, wT_2_169⟩
theorem cW_33 : aw_CV "ScopeTreeLaw" 33 mT_filter 8 4 := ⟨cb_T_filter, ⟨tn_T, 8, rfl⟩, wT_2_190, wT_2_191, wT_2_189⟩
theorem cW_37 : aw_CV "ScopeTreeLaw" 37 mT_lock 8 1 := ⟨cb_T_lock, ⟨tn_T, 8, rfl⟩, wT_2_215, wT_2_216, wT_2_214⟩
theorem cW_42 : aw_CV "ScopeTreeLaw" 42 mT_release 8 1 := ⟨cb_T_release, ⟨tn_T, 8, rfl⟩, wT_3_57, wT_3_58, wT_3_56⟩
theorem cW_45 : aw_CV "ScopeTreeLaw" 45 mT_loader 8 2 := ⟨cb_T_loader, ⟨tn_T, 8, rfl⟩, wT_3_74, wT_3_75, wT_3_73⟩
theorem cW_49 : aw_CV "ScopeTreeLaw" 49 mT_load 8 2 := ⟨cb_T_load, ⟨tn_T, 8, rfl⟩, wT_3_82, wT_3_83, wT_3_81⟩
theorem cW_55 : aw_CV "ScopeTreeLaw" 55 mT_info 8 2 := ⟨cb_T_info, ⟨tn_T, 8, rfl⟩, wT_3_147, wT_3_148, wT_3_146⟩
theorem cW_58 : aw_CV "ScopeTreeLaw" 58 mT_isA 8 2 := ⟨cb_T_isA, ⟨tn_T, 8, rfl⟩, wT_3_160, wT_3_161, wT_3_159⟩
theorem cW_62 : aw_CV "ScopeTreeLaw" 62 mT_apply 8 2 := ⟨cb_T_apply, ⟨tn_T, 8, rfl⟩, wT_3_170, wT_3_171, wT_3_169⟩
theorem cW_65 : aw_CV "ScopeTreeLaw" 65 mT_applied 8 2 := ⟨cb_T_applied, ⟨tn_T, 8, rfl⟩, wT_3_197, wT_3_198, wT_3_196⟩
theorem nW_8 : aw_N "ScopeTreeLaw" 8 8 8 [.null, .null, .int 0, .null, .null, .int 0, .null, .null] := ⟨_, tn_T, ty_T, rfl, in_T, tk_T, wT_1_22, wT_1_23, wT_1_1, by decide +kernel⟩
theorem cW_68 : aw_CI "ScopeTreeLaw" 68 mT_init 0 := ⟨cb_T_init, rfl, rfl, wT_1_25, wT_1_24⟩
theorem nW_69 : aw_N "ScopeTreeLaw" 69 9 33 [.int 0, .null, .null, .null, .null, .null, .null, .null, .null, .null, .null, .null, .int 0, .null, .null, .null, .null, .null, .null, .null, .null, .null, .null, .null, .int 0, .null, .null, .null, .null, .int 0, .int 0, .null, .null] := ⟨_, tn_M, ty_M, rfl, in_M, tk_M, wT_3_200, wT_3_201, wT_1_9, by decide +kernel⟩
theorem cW_71 : aw_CI "ScopeTreeLaw" 71 mM_init 0 := ⟨cb_M_init, rfl, rfl, wT_3_203, wT_3_202⟩
theorem cW_72 : aw_CSW "ScopeTreeLaw" 72 mW_file 6 := ⟨cb_W_file, wT_1_218, wT_1_217⟩
theorem cW_77 : aw_CV "ScopeTreeLaw" 77 mM_file 9 4 := ⟨cb_M_file, ⟨tn_M, 33, rfl⟩, wT_4_73, wT_4_74, wT_4_72⟩
theorem cW_78 : aw_CV "ScopeTreeLaw" 78 mM_thrown 9 0 := ⟨cb_M_thrown, ⟨tn_M, 33, rfl⟩, wT_4_69, wT_4_70, wT_4_68⟩
theorem cW_82 : aw_CSW "ScopeTreeLaw" 82 mW_descriptor 5 := ⟨cb_W_descriptor, wT_2_112, wT_2_111⟩
theorem cW_85 : aw_CV "ScopeTreeLaw" 85 mM_descriptor 9 3 := ⟨cb_M_descriptor, ⟨tn_M, 33, rfl⟩, wT_4_84, wT_4_85, wT_4_83⟩
theorem cW_86 : aw_CSW "ScopeTreeLaw" 86 mW_wipe 2 := ⟨cb_W_wipe, wT_2_144, wT_2_143⟩
theorem cW_89 : aw_CV "ScopeTreeLaw" 89 mM_wipe 9 1 := ⟨cb_M_wipe, ⟨tn_M, 33, rfl⟩, wT_4_88, wT_4_89, wT_4_87⟩
theorem cW_90 : aw_CSW "ScopeTreeLaw" 90 mW_child 3 := ⟨cb_W_child, wT_2_151, wT_2_150⟩
theorem cW_93 : aw_CV "ScopeTreeLaw" 93 mM_child 9 1 := ⟨cb_M_child, ⟨tn_M, 33, rfl⟩, wT_4_92, wT_4_93, wT_4_91⟩
theorem cW_94 : aw_CSW "ScopeTreeLaw" 94 mW_add 5 := ⟨cb_W_add, wT_2_167, wT_2_166⟩
theorem cW_97 : aw_CV "ScopeTreeLaw" 97 mM_add 9 3 := ⟨cb_M_add, ⟨tn_M, 33, rfl⟩, wT_4_100, wT_4_101, wT_4_99⟩
theorem cW_100 : aw_CSW "ScopeTreeLaw" 100 mW_filter 5 := ⟨cb_W_filter, wT_2_187, wT_2_186⟩
theorem cW_103 : aw_CV "ScopeTreeLaw" 103 mM_filter 9 4 := ⟨cb_M_filter, ⟨tn_M, 33, rfl⟩, wT_4_104, wT_4_105, wT_4_103⟩
theorem cW_104 : aw_CSW "ScopeTreeLaw" 104 mW_lock 3 := ⟨cb_W_lock, wT_2_211, wT_2_210⟩
theorem cW_106 : aw_CV "ScopeTreeLaw" 106 mM_lock 9 1 := ⟨cb_M_lock, ⟨tn_M, 33, rfl⟩, wT_4_108, wT_4_109, wT_4_107⟩
theorem cW_107 : aw_CSW "ScopeTreeLaw" 107 mW_release 3 := ⟨cb_W_release, wT_3_54, wT_3_53⟩
theorem cW_109 : aw_CV "ScopeTreeLaw" 109 mM_release 9 1 := ⟨cb_M_release, ⟨tn_M, 33, rfl⟩, wT_4_148, wT_4_149, wT_4_147⟩
theorem cW_110 : aw_CSW "ScopeTreeLaw" 110 mW_loader 4 := ⟨cb_W_loader, wT_3_71, wT_3_70⟩
theorem cW_113 : aw_CV "ScopeTreeLaw" 113 mM_loader 9 2 := ⟨cb_M_loader, ⟨tn_M, 33, rfl⟩, wT_4_160, wT_4_161, wT_4_159⟩
theorem cW_114 : aw_CV "ScopeTreeLaw" 114 mT_look 8 2 := ⟨cb_T_look, ⟨tn_T, 8, rfl⟩, wT_1_211, wT_1_212, wT_1_210⟩
theorem cW_117 : aw_CV "ScopeTreeLaw" 117 mM_look 9 2 := ⟨cb_M_look, ⟨tn_M, 33, rfl⟩, wT_4_164, wT_4_165, wT_4_163⟩
theorem cW_118 : aw_CSW "ScopeTreeLaw" 118 mW_load 4 := ⟨cb_W_load, wT_3_78, wT_3_77⟩
theorem cW_121 : aw_CV "ScopeTreeLaw" 121 mM_load 9 2 := ⟨cb_M_load, ⟨tn_M, 33, rfl⟩, wT_4_168, wT_4_169, wT_4_167⟩
theorem cW_122 : aw_CSW "ScopeTreeLaw" 122 mW_info 4 := ⟨cb_W_info, wT_3_144, wT_3_143⟩
theorem cW_124 : aw_CV "ScopeTreeLaw" 124 mM_info 9 2 := ⟨cb_M_info, ⟨tn_M, 33, rfl⟩, wT_4_192, wT_4_193, wT_4_191⟩
theorem cW_125 : aw_CSW "ScopeTreeLaw" 125 mW_isA 4 := ⟨cb_W_isA, wT_3_157, wT_3_156⟩
theorem cW_127 : aw_CV "ScopeTreeLaw" 127 mM_isA 9 2 := ⟨cb_M_isA, ⟨tn_M, 33, rfl⟩, wT_4_196, wT_4_197, wT_4_195⟩
theorem cW_128 : aw_CSW "ScopeTreeLaw" 128 mW_apply 4 := ⟨cb_W_apply, wT_3_167, wT_3_166⟩
theorem cW_130 : aw_CV "ScopeTreeLaw" 130 mM_apply 9 2 := ⟨cb_M_apply, ⟨tn_M, 33, rfl⟩, wT_4_204, wT_4_205, wT_4_203⟩
theorem cW_131 : aw_CSW "ScopeTreeLaw" 131 mW_applied 4 := ⟨cb_W_applied, wT_3_194, wT_3_193⟩
theorem cW_133 : aw_CV "ScopeTreeLaw" 133 mM_applied 9 2 := ⟨cb_M_applied, ⟨tn_M, 33, rfl⟩, wT_4_212, wT_4_213, wT_4_211⟩
set_option maxRecDepth 100000 in
theorem tw_IA : ∀ w ∈ vx_atS "ScopeTree" 88 "java/lang/IllegalArgumentException" ["java/lang/RuntimeException", "java/lang/Exception"], w ∈ aw_TB ∨ w ∈ aw_NB := by decide +kernel
set_option maxRecDepth 100000 in
theorem tg_IA : ∀ w ∈ Cond.classLink "ScopeTree" 84 "java/lang/IllegalArgumentException" :: Cond.initialized "java/lang/IllegalArgumentException" :: vx_atS "ScopeTree" 88 "java/lang/IllegalArgumentException" ["java/lang/RuntimeException", "java/lang/Exception"], vx_ot w = true := by decide +kernel
theorem t_86 : aw_TS "ScopeTree" 84 86 88 "java/lang/IllegalArgumentException" "no name of a class file" ["java/lang/RuntimeException", "java/lang/Exception"] := ⟨by decide +kernel, by decide +kernel, by decide, wT_1_230, wT_1_13, by decide +kernel, tw_IA, tg_IA⟩
theorem t_91 : aw_TS "ScopeTree" 84 91 88 "java/lang/IllegalArgumentException" "no such super or version" ["java/lang/RuntimeException", "java/lang/Exception"] := ⟨by decide +kernel, by decide +kernel, by decide, wT_1_230, wT_1_13, by decide +kernel, tw_IA, tg_IA⟩
set_option maxRecDepth 100000 in
theorem tw_IS : ∀ w ∈ vx_atS "ScopeTree" 106 "java/lang/IllegalStateException" ["java/lang/RuntimeException", "java/lang/Exception"], w ∈ aw_TB ∨ w ∈ aw_NB := by decide +kernel
set_option maxRecDepth 100000 in
theorem tg_IS : ∀ w ∈ Cond.classLink "ScopeTree" 102 "java/lang/IllegalStateException" :: Cond.initialized "java/lang/IllegalStateException" :: vx_atS "ScopeTree" 106 "java/lang/IllegalStateException" ["java/lang/RuntimeException", "java/lang/Exception"], vx_ot w = true := by decide +kernel
theorem t_104 : aw_TS "ScopeTree" 102 104 106 "java/lang/IllegalStateException" "the archive is full of class files" ["java/lang/RuntimeException", "java/lang/Exception"] := ⟨by decide +kernel, by decide +kernel, by decide, wT_2_95, wT_1_17, by decide +kernel, tw_IS, tg_IS⟩
theorem t_110 : aw_TS "ScopeTree" 84 110 88 "java/lang/IllegalArgumentException" "no such plugin or name" ["java/lang/RuntimeException", "java/lang/Exception"] := ⟨by decide +kernel, by decide +kernel, by decide, wT_1_230, wT_1_13, by decide +kernel, tw_IA, tg_IA⟩
theorem t_121 : aw_TS "ScopeTree" 102 121 106 "java/lang/IllegalStateException" "the archive is full of descriptors" ["java/lang/RuntimeException", "java/lang/Exception"] := ⟨by decide +kernel, by decide +kernel, by decide, wT_2_95, wT_1_17, by decide +kernel, tw_IS, tg_IS⟩
theorem t_133 : aw_TS "ScopeTree" 84 133 88 "java/lang/IllegalArgumentException" "the parent is released" ["java/lang/RuntimeException", "java/lang/Exception"] := ⟨by decide +kernel, by decide +kernel, by decide, wT_1_230, wT_1_13, by decide +kernel, tw_IA, tg_IA⟩
theorem t_135 : aw_TS "ScopeTree" 102 135 106 "java/lang/IllegalStateException" "no scope number is left" ["java/lang/RuntimeException", "java/lang/Exception"] := ⟨by decide +kernel, by decide +kernel, by decide, wT_2_95, wT_1_17, by decide +kernel, tw_IS, tg_IS⟩
theorem t_137 : aw_TS "ScopeTree" 84 137 88 "java/lang/IllegalArgumentException" "no such archive" ["java/lang/RuntimeException", "java/lang/Exception"] := ⟨by decide +kernel, by decide +kernel, by decide, wT_1_230, wT_1_13, by decide +kernel, tw_IA, tg_IA⟩
theorem t_155 : aw_TS "ScopeTree" 84 155 88 "java/lang/IllegalArgumentException" "no such set of packages" ["java/lang/RuntimeException", "java/lang/Exception"] := ⟨by decide +kernel, by decide +kernel, by decide, wT_1_230, wT_1_13, by decide +kernel, tw_IA, tg_IA⟩
theorem t_170 : aw_TS "ScopeTree" 102 170 106 "java/lang/IllegalStateException" "the parent is not locked" ["java/lang/RuntimeException", "java/lang/Exception"] := ⟨by decide +kernel, by decide +kernel, by decide, wT_2_95, wT_1_17, by decide +kernel, tw_IS, tg_IS⟩
set_option maxRecDepth 100000 in
theorem tw_UO : ∀ w ∈ vx_atS "ScopeTree" 180 "java/lang/UnsupportedOperationException" ["java/lang/RuntimeException", "java/lang/Exception"], w ∈ aw_TB ∨ w ∈ aw_NB := by decide +kernel
set_option maxRecDepth 100000 in
theorem tg_UO : ∀ w ∈ Cond.classLink "ScopeTree" 176 "java/lang/UnsupportedOperationException" :: Cond.initialized "java/lang/UnsupportedOperationException" :: vx_atS "ScopeTree" 180 "java/lang/UnsupportedOperationException" ["java/lang/RuntimeException", "java/lang/Exception"], vx_ot w = true := by decide +kernel
theorem t_178 : aw_TS "ScopeTree" 176 178 180 "java/lang/UnsupportedOperationException" "too few loader numbers are free" ["java/lang/RuntimeException", "java/lang/Exception"] := ⟨by decide +kernel, by decide +kernel, by decide, wT_2_223, wT_1_20, by decide +kernel, tw_UO, tg_UO⟩
theorem t_195 : aw_TS "ScopeTree" 84 195 88 "java/lang/IllegalArgumentException" "scope 0 is never released" ["java/lang/RuntimeException", "java/lang/Exception"] := ⟨by decide +kernel, by decide +kernel, by decide, wT_1_230, wT_1_13, by decide +kernel, tw_IA, tg_IA⟩
theorem t_201 : aw_TS "ScopeTree" 102 201 106 "java/lang/IllegalStateException" "released, or a child is not" ["java/lang/RuntimeException", "java/lang/Exception"] := ⟨by decide +kernel, by decide +kernel, by decide, wT_2_95, wT_1_17, by decide +kernel, tw_IS, tg_IS⟩
theorem t_215 : aw_TS "ScopeTree" 84 215 88 "java/lang/IllegalArgumentException" "no such name" ["java/lang/RuntimeException", "java/lang/Exception"] := ⟨by decide +kernel, by decide +kernel, by decide, wT_1_230, wT_1_13, by decide +kernel, tw_IA, tg_IA⟩
theorem t_255 : aw_TS "ScopeTree" 84 255 88 "java/lang/IllegalArgumentException" "no such plugin" ["java/lang/RuntimeException", "java/lang/Exception"] := ⟨by decide +kernel, by decide +kernel, by decide, wT_1_230, wT_1_13, by decide +kernel, tw_IA, tg_IA⟩
theorem t_275 : aw_TS "ScopeTree" 84 275 88 "java/lang/IllegalArgumentException" "no such scope" ["java/lang/RuntimeException", "java/lang/Exception"] := ⟨by decide +kernel, by decide +kernel, by decide, wT_1_230, wT_1_13, by decide +kernel, tw_IA, tg_IA⟩
theorem t_282 : aw_TS "ScopeTree" 102 282 106 "java/lang/IllegalStateException" "the scope is locked or released" ["java/lang/RuntimeException", "java/lang/Exception"] := ⟨by decide +kernel, by decide +kernel, by decide, wT_2_95, wT_1_17, by decide +kernel, tw_IS, tg_IS⟩
theorem t_284 : aw_TS "ScopeTree" 102 284 106 "java/lang/IllegalStateException" "the scope is not locked, or released" ["java/lang/RuntimeException", "java/lang/Exception"] := ⟨by decide +kernel, by decide +kernel, by decide, wT_2_95, wT_1_17, by decide +kernel, tw_IS, tg_IS⟩
theorem t_341 : aw_TS "ScopeTree" 176 341 180 "java/lang/UnsupportedOperationException" "circular" ["java/lang/RuntimeException", "java/lang/Exception"] := ⟨by decide +kernel, by decide +kernel, by decide, wT_2_223, wT_1_20, by decide +kernel, tw_UO, tg_UO⟩
theorem t_343 : aw_TS "ScopeTree" 176 343 180 "java/lang/UnsupportedOperationException" "deep" ["java/lang/RuntimeException", "java/lang/Exception"] := ⟨by decide +kernel, by decide +kernel, by decide, wT_2_223, wT_1_20, by decide +kernel, tw_UO, tg_UO⟩
theorem t_348 : aw_TS "ScopeTree" 176 348 180 "java/lang/UnsupportedOperationException" "link error" ["java/lang/RuntimeException", "java/lang/Exception"] := ⟨by decide +kernel, by decide +kernel, by decide, wT_2_223, wT_1_20, by decide +kernel, tw_UO, tg_UO⟩
theorem t_354 : aw_TS "ScopeTree" 176 354 180 "java/lang/UnsupportedOperationException" "no class number is left" ["java/lang/RuntimeException", "java/lang/Exception"] := ⟨by decide +kernel, by decide +kernel, by decide, wT_2_223, wT_1_20, by decide +kernel, tw_UO, tg_UO⟩
theorem stA_0 : Cond.arrayOver (.object "ScopeTree$Archive") ∈ lw_tbl := wA_1_31
theorem stA_1 : Cond.arrayOver (.object "ScopeTree$Scope") ∈ lw_tbl := wA_1_33
theorem stA_2 : Cond.arrayOver (.object "ScopeTree$Loader") ∈ lw_tbl := wA_1_35
theorem stA_3 : Cond.arrayOver (.object "ScopeTree$Type") ∈ lw_tbl := wA_1_37
theorem stA_4 : Cond.arrayOver (.object "ScopeTree$ClassFile") ∈ lw_tbl := wA_1_44
theorem stA_5 : Cond.arrayOver (.object "ScopeTree$Descriptor") ∈ lw_tbl := wA_1_46
theorem stE_0 : Cond.laysStatic "ScopeTree$State" "OPEN" "LScopeTree$State;" ∈ lw_tbl := wA_1_144
theorem stE_1 : Cond.laysStatic "ScopeTree$State" "LOCKED" "LScopeTree$State;" ∈ lw_tbl := wA_1_184
theorem stE_2 : Cond.laysStatic "ScopeTree$State" "RELEASED" "LScopeTree$State;" ∈ lw_tbl := wA_2_163
theorem stU : Cond.laysStatic "java/lang/Throwable" "UNASSIGNED_STACK" "[Ljava/lang/StackTraceElement;" ∈ lw_tbl := wA_2_17
theorem stN : Cond.laysStatic "java/lang/Throwable" "SUPPRESSED_SENTINEL" "Ljava/util/List;" ∈ lw_tbl := wA_2_19
theorem stIT : Cond.initialized "java/lang/Throwable" ∈ aw_TB := wT_1_10
theorem stIS : Cond.initialized "ScopeTree$State" ∈ aw_TB := wT_1_8
theorem stC_A : Cond.instantiable "ScopeTree$Archive" 4 ∈ aw_TB := wT_1_38
theorem stC_C : Cond.instantiable "ScopeTree$ClassFile" 3 ∈ aw_TB := wT_2_62
theorem stC_D : Cond.instantiable "ScopeTree$Descriptor" 2 ∈ aw_TB := wT_2_120
theorem stC_F : Cond.instantiable "ScopeTree$Filter" 3 ∈ aw_TB := wT_2_195
theorem stC_L : Cond.instantiable "ScopeTree$Loader" 8 ∈ aw_TB := wT_1_63
theorem stC_P : Cond.instantiable "ScopeTree$Path" 2 ∈ aw_TB := wT_1_129
theorem stC_S : Cond.instantiable "ScopeTree$Scope" 10 ∈ aw_TB := wT_1_123
theorem stC_Y : Cond.instantiable "ScopeTree$Type" 5 ∈ aw_TB := wT_1_97
theorem stC_T : Cond.instantiable "ScopeTree" 8 ∈ aw_TB := wT_1_23
theorem stC_M : Cond.instantiable "ScopeTreeModel" 33 ∈ aw_TB := wT_3_201
theorem wP_I : Cond.arrayClass .int ∈ aw_TB := wT_1_62
theorem wP_Z : Cond.arrayClass .boolean ∈ aw_TB := wT_4_66
theorem wP_J : Cond.arrayClass .long ∈ aw_TB := wT_4_67
theorem wOI : Cond.instanceMethod objectInit ∈ aw_TB := wT_1_28
theorem wOC : Cond.code objectInit ⟨#[0xb1]⟩ 1 none ∈ aw_TB := wT_1_29
end
section
/-! each instruction, decoded: printed by program -/
theorem dA_init_0 : decode prog_2_method_1_code 0 = .ok (.aload_n 0, 1) := by decide +kernel
theorem dA_init_1 : decode prog_2_method_1_code 1 = .ok (.invokespecial 3, 3) := by decide +kernel
theorem dA_init_4 : decode prog_2_method_1_code 4 = .ok (.aload_n 0, 1) := by decide +kernel
theorem dA_init_5 : decode prog_2_method_1_code 5 = .ok (.bipush 8, 2) := by decide +kernel
theorem dA_init_7 : decode prog_2_method_1_code 7 = .ok (.anewarray 9, 3) := by decide +kernel
theorem dA_init_10 : decode prog_2_method_1_code 10 = .ok (.putfield 11, 3) := by decide +kernel
theorem dA_init_13 : decode prog_2_method_1_code 13 = .ok (.aload_n 0, 1) := by decide +kernel
theorem dA_init_14 : decode prog_2_method_1_code 14 = .ok (.iconst 4, 1) := by decide +kernel
theorem dA_init_15 : decode prog_2_method_1_code 15 = .ok (.anewarray 17, 3) := by decide +kernel
theorem dA_init_18 : decode prog_2_method_1_code 18 = .ok (.putfield 19, 3) := by decide +kernel
theorem dA_init_21 : decode prog_2_method_1_code 21 = .ok (.return_, 1) := by decide +kernel
theorem dA_fileOf_0 : decode prog_2_method_2_code 0 = .ok (.aload_n 0, 1) := by decide +kernel
theorem dA_fileOf_1 : decode prog_2_method_2_code 1 = .ok (.iload_n 1, 1) := by decide +kernel
theorem dA_fileOf_2 : decode prog_2_method_2_code 2 = .ok (.invokevirtual 23, 3) := by decide +kernel
theorem dA_fileOf_5 : decode prog_2_method_2_code 5 = .ok (.istore_n 2, 1) := by decide +kernel
theorem dA_fileOf_6 : decode prog_2_method_2_code 6 = .ok (.iload_n 2, 1) := by decide +kernel
theorem dA_fileOf_7 : decode prog_2_method_2_code 7 = .ok (.aload_n 0, 1) := by decide +kernel
theorem dA_fileOf_8 : decode prog_2_method_2_code 8 = .ok (.getfield 27, 3) := by decide +kernel
theorem dA_fileOf_11 : decode prog_2_method_2_code 11 = .ok (.if_icmp .ge 12, 3) := by decide +kernel
theorem dA_fileOf_14 : decode prog_2_method_2_code 14 = .ok (.aload_n 0, 1) := by decide +kernel
theorem dA_fileOf_15 : decode prog_2_method_2_code 15 = .ok (.getfield 11, 3) := by decide +kernel
theorem dA_fileOf_18 : decode prog_2_method_2_code 18 = .ok (.iload_n 2, 1) := by decide +kernel
theorem dA_fileOf_19 : decode prog_2_method_2_code 19 = .ok (.aaload, 1) := by decide +kernel
theorem dA_fileOf_20 : decode prog_2_method_2_code 20 = .ok (.goto 4, 3) := by decide +kernel
theorem dA_fileOf_23 : decode prog_2_method_2_code 23 = .ok (.aconst_null, 1) := by decide +kernel
theorem dA_fileOf_24 : decode prog_2_method_2_code 24 = .ok (.areturn, 1) := by decide +kernel
theorem dA_descriptorOf_0 : decode prog_2_method_3_code 0 = .ok (.aload_n 0, 1) := by decide +kernel
theorem dA_descriptorOf_1 : decode prog_2_method_3_code 1 = .ok (.iload_n 1, 1) := by decide +kernel
theorem dA_descriptorOf_2 : decode prog_2_method_3_code 2 = .ok (.invokevirtual 31, 3) := by decide +kernel
theorem dA_descriptorOf_5 : decode prog_2_method_3_code 5 = .ok (.istore_n 2, 1) := by decide +kernel
theorem dA_descriptorOf_6 : decode prog_2_method_3_code 6 = .ok (.iload_n 2, 1) := by decide +kernel
theorem dA_descriptorOf_7 : decode prog_2_method_3_code 7 = .ok (.aload_n 0, 1) := by decide +kernel
theorem dA_descriptorOf_8 : decode prog_2_method_3_code 8 = .ok (.getfield 34, 3) := by decide +kernel
theorem dA_descriptorOf_11 : decode prog_2_method_3_code 11 = .ok (.if_icmp .ge 12, 3) := by decide +kernel
theorem dA_descriptorOf_14 : decode prog_2_method_3_code 14 = .ok (.aload_n 0, 1) := by decide +kernel
theorem dA_descriptorOf_15 : decode prog_2_method_3_code 15 = .ok (.getfield 19, 3) := by decide +kernel
theorem dA_descriptorOf_18 : decode prog_2_method_3_code 18 = .ok (.iload_n 2, 1) := by decide +kernel
theorem dA_descriptorOf_19 : decode prog_2_method_3_code 19 = .ok (.aaload, 1) := by decide +kernel
theorem dA_descriptorOf_20 : decode prog_2_method_3_code 20 = .ok (.goto 4, 3) := by decide +kernel
theorem dA_descriptorOf_23 : decode prog_2_method_3_code 23 = .ok (.aconst_null, 1) := by decide +kernel
theorem dA_descriptorOf_24 : decode prog_2_method_3_code 24 = .ok (.areturn, 1) := by decide +kernel
theorem dA_putFile_0 : decode prog_2_method_4_code 0 = .ok (.aload_n 0, 1) := by decide +kernel
theorem dA_putFile_1 : decode prog_2_method_4_code 1 = .ok (.aload_n 1, 1) := by decide +kernel
theorem dA_putFile_2 : decode prog_2_method_4_code 2 = .ok (.getfield 37, 3) := by decide +kernel
theorem dA_putFile_5 : decode prog_2_method_4_code 5 = .ok (.invokevirtual 23, 3) := by decide +kernel
theorem dA_putFile_8 : decode prog_2_method_4_code 8 = .ok (.istore_n 2, 1) := by decide +kernel
theorem dA_putFile_9 : decode prog_2_method_4_code 9 = .ok (.iload_n 2, 1) := by decide +kernel
theorem dA_putFile_10 : decode prog_2_method_4_code 10 = .ok (.bipush 8, 2) := by decide +kernel
theorem dA_putFile_12 : decode prog_2_method_4_code 12 = .ok (.if_icmp .lt 5, 3) := by decide +kernel
theorem dA_putFile_15 : decode prog_2_method_4_code 15 = .ok (.iconst 0, 1) := by decide +kernel
theorem dA_putFile_16 : decode prog_2_method_4_code 16 = .ok (.ireturn, 1) := by decide +kernel
theorem dA_putFile_17 : decode prog_2_method_4_code 17 = .ok (.aload_n 0, 1) := by decide +kernel
theorem dA_putFile_18 : decode prog_2_method_4_code 18 = .ok (.getfield 11, 3) := by decide +kernel
theorem dA_putFile_21 : decode prog_2_method_4_code 21 = .ok (.iload_n 2, 1) := by decide +kernel
theorem dA_putFile_22 : decode prog_2_method_4_code 22 = .ok (.aload_n 1, 1) := by decide +kernel
theorem dA_putFile_23 : decode prog_2_method_4_code 23 = .ok (.aastore, 1) := by decide +kernel
theorem dA_putFile_24 : decode prog_2_method_4_code 24 = .ok (.aload_n 0, 1) := by decide +kernel
theorem dA_putFile_25 : decode prog_2_method_4_code 25 = .ok (.aload_n 0, 1) := by decide +kernel
theorem dA_putFile_26 : decode prog_2_method_4_code 26 = .ok (.getfield 27, 3) := by decide +kernel
theorem dA_putFile_29 : decode prog_2_method_4_code 29 = .ok (.iload_n 2, 1) := by decide +kernel
theorem dA_putFile_30 : decode prog_2_method_4_code 30 = .ok (.iconst 1, 1) := by decide +kernel
theorem dA_putFile_31 : decode prog_2_method_4_code 31 = .ok (.iadd, 1) := by decide +kernel
theorem dA_putFile_32 : decode prog_2_method_4_code 32 = .ok (.invokestatic 40, 3) := by decide +kernel
theorem dA_putFile_35 : decode prog_2_method_4_code 35 = .ok (.putfield 27, 3) := by decide +kernel
theorem dA_putFile_38 : decode prog_2_method_4_code 38 = .ok (.iconst 1, 1) := by decide +kernel
theorem dA_putFile_39 : decode prog_2_method_4_code 39 = .ok (.ireturn, 1) := by decide +kernel
theorem dA_putDescriptor_0 : decode prog_2_method_5_code 0 = .ok (.aload_n 0, 1) := by decide +kernel
theorem dA_putDescriptor_1 : decode prog_2_method_5_code 1 = .ok (.aload_n 1, 1) := by decide +kernel
theorem dA_putDescriptor_2 : decode prog_2_method_5_code 2 = .ok (.getfield 46, 3) := by decide +kernel
theorem dA_putDescriptor_5 : decode prog_2_method_5_code 5 = .ok (.invokevirtual 31, 3) := by decide +kernel
theorem dA_putDescriptor_8 : decode prog_2_method_5_code 8 = .ok (.istore_n 2, 1) := by decide +kernel
theorem dA_putDescriptor_9 : decode prog_2_method_5_code 9 = .ok (.iload_n 2, 1) := by decide +kernel
theorem dA_putDescriptor_10 : decode prog_2_method_5_code 10 = .ok (.iconst 4, 1) := by decide +kernel
theorem dA_putDescriptor_11 : decode prog_2_method_5_code 11 = .ok (.if_icmp .lt 5, 3) := by decide +kernel
theorem dA_putDescriptor_14 : decode prog_2_method_5_code 14 = .ok (.iconst 0, 1) := by decide +kernel
theorem dA_putDescriptor_15 : decode prog_2_method_5_code 15 = .ok (.ireturn, 1) := by decide +kernel
theorem dA_putDescriptor_16 : decode prog_2_method_5_code 16 = .ok (.aload_n 0, 1) := by decide +kernel
theorem dA_putDescriptor_17 : decode prog_2_method_5_code 17 = .ok (.getfield 19, 3) := by decide +kernel
theorem dA_putDescriptor_20 : decode prog_2_method_5_code 20 = .ok (.iload_n 2, 1) := by decide +kernel
theorem dA_putDescriptor_21 : decode prog_2_method_5_code 21 = .ok (.aload_n 1, 1) := by decide +kernel
theorem dA_putDescriptor_22 : decode prog_2_method_5_code 22 = .ok (.aastore, 1) := by decide +kernel
theorem dA_putDescriptor_23 : decode prog_2_method_5_code 23 = .ok (.aload_n 0, 1) := by decide +kernel
theorem dA_putDescriptor_24 : decode prog_2_method_5_code 24 = .ok (.aload_n 0, 1) := by decide +kernel
theorem dA_putDescriptor_25 : decode prog_2_method_5_code 25 = .ok (.getfield 34, 3) := by decide +kernel
theorem dA_putDescriptor_28 : decode prog_2_method_5_code 28 = .ok (.iload_n 2, 1) := by decide +kernel
theorem dA_putDescriptor_29 : decode prog_2_method_5_code 29 = .ok (.iconst 1, 1) := by decide +kernel
theorem dA_putDescriptor_30 : decode prog_2_method_5_code 30 = .ok (.iadd, 1) := by decide +kernel
theorem dA_putDescriptor_31 : decode prog_2_method_5_code 31 = .ok (.invokestatic 40, 3) := by decide +kernel
theorem dA_putDescriptor_34 : decode prog_2_method_5_code 34 = .ok (.putfield 34, 3) := by decide +kernel
theorem dA_putDescriptor_37 : decode prog_2_method_5_code 37 = .ok (.iconst 1, 1) := by decide +kernel
theorem dA_putDescriptor_38 : decode prog_2_method_5_code 38 = .ok (.ireturn, 1) := by decide +kernel
theorem dA_placeOfFile_0 : decode prog_2_method_6_code 0 = .ok (.iconst 0, 1) := by decide +kernel
theorem dA_placeOfFile_1 : decode prog_2_method_6_code 1 = .ok (.istore_n 2, 1) := by decide +kernel
theorem dA_placeOfFile_2 : decode prog_2_method_6_code 2 = .ok (.iload_n 2, 1) := by decide +kernel
theorem dA_placeOfFile_3 : decode prog_2_method_6_code 3 = .ok (.aload_n 0, 1) := by decide +kernel
theorem dA_placeOfFile_4 : decode prog_2_method_6_code 4 = .ok (.getfield 27, 3) := by decide +kernel
theorem dA_placeOfFile_7 : decode prog_2_method_6_code 7 = .ok (.if_icmp .ge 22, 3) := by decide +kernel
theorem dA_placeOfFile_10 : decode prog_2_method_6_code 10 = .ok (.aload_n 0, 1) := by decide +kernel
theorem dA_placeOfFile_11 : decode prog_2_method_6_code 11 = .ok (.getfield 11, 3) := by decide +kernel
theorem dA_placeOfFile_14 : decode prog_2_method_6_code 14 = .ok (.iload_n 2, 1) := by decide +kernel
theorem dA_placeOfFile_15 : decode prog_2_method_6_code 15 = .ok (.aaload, 1) := by decide +kernel
theorem dA_placeOfFile_16 : decode prog_2_method_6_code 16 = .ok (.getfield 37, 3) := by decide +kernel
theorem dA_placeOfFile_19 : decode prog_2_method_6_code 19 = .ok (.iload_n 1, 1) := by decide +kernel
theorem dA_placeOfFile_20 : decode prog_2_method_6_code 20 = .ok (.if_icmp .eq 9, 3) := by decide +kernel
theorem dA_placeOfFile_23 : decode prog_2_method_6_code 23 = .ok (.iinc 2 1, 3) := by decide +kernel
theorem dA_placeOfFile_26 : decode prog_2_method_6_code 26 = .ok (.goto (-24), 3) := by decide +kernel
theorem dA_placeOfFile_29 : decode prog_2_method_6_code 29 = .ok (.iload_n 2, 1) := by decide +kernel
theorem dA_placeOfFile_30 : decode prog_2_method_6_code 30 = .ok (.ireturn, 1) := by decide +kernel
theorem dA_placeOfDescriptor_0 : decode prog_2_method_7_code 0 = .ok (.iconst 0, 1) := by decide +kernel
theorem dA_placeOfDescriptor_1 : decode prog_2_method_7_code 1 = .ok (.istore_n 2, 1) := by decide +kernel
theorem dA_placeOfDescriptor_2 : decode prog_2_method_7_code 2 = .ok (.iload_n 2, 1) := by decide +kernel
theorem dA_placeOfDescriptor_3 : decode prog_2_method_7_code 3 = .ok (.aload_n 0, 1) := by decide +kernel
theorem dA_placeOfDescriptor_4 : decode prog_2_method_7_code 4 = .ok (.getfield 34, 3) := by decide +kernel
theorem dA_placeOfDescriptor_7 : decode prog_2_method_7_code 7 = .ok (.if_icmp .ge 22, 3) := by decide +kernel
theorem dA_placeOfDescriptor_10 : decode prog_2_method_7_code 10 = .ok (.aload_n 0, 1) := by decide +kernel
theorem dA_placeOfDescriptor_11 : decode prog_2_method_7_code 11 = .ok (.getfield 19, 3) := by decide +kernel
theorem dA_placeOfDescriptor_14 : decode prog_2_method_7_code 14 = .ok (.iload_n 2, 1) := by decide +kernel
theorem dA_placeOfDescriptor_15 : decode prog_2_method_7_code 15 = .ok (.aaload, 1) := by decide +kernel
theorem dA_placeOfDescriptor_16 : decode prog_2_method_7_code 16 = .ok (.getfield 46, 3) := by decide +kernel
theorem dA_placeOfDescriptor_19 : decode prog_2_method_7_code 19 = .ok (.iload_n 1, 1) := by decide +kernel
theorem dA_placeOfDescriptor_20 : decode prog_2_method_7_code 20 = .ok (.if_icmp .eq 9, 3) := by decide +kernel
theorem dA_placeOfDescriptor_23 : decode prog_2_method_7_code 23 = .ok (.iinc 2 1, 3) := by decide +kernel
theorem dA_placeOfDescriptor_26 : decode prog_2_method_7_code 26 = .ok (.goto (-24), 3) := by decide +kernel
theorem dA_placeOfDescriptor_29 : decode prog_2_method_7_code 29 = .ok (.iload_n 2, 1) := by decide +kernel
theorem dA_placeOfDescriptor_30 : decode prog_2_method_7_code 30 = .ok (.ireturn, 1) := by decide +kernel
theorem dA_copy_0 : decode prog_2_method_8_code 0 = .ok (.new 12, 3) := by decide +kernel
theorem dA_copy_3 : decode prog_2_method_8_code 3 = .ok (.dup, 1) := by decide +kernel
theorem dA_copy_4 : decode prog_2_method_8_code 4 = .ok (.invokespecial 49, 3) := by decide +kernel
theorem dA_copy_7 : decode prog_2_method_8_code 7 = .ok (.astore_n 1, 1) := by decide +kernel
theorem dA_copy_8 : decode prog_2_method_8_code 8 = .ok (.iconst 0, 1) := by decide +kernel
theorem dA_copy_9 : decode prog_2_method_8_code 9 = .ok (.istore_n 2, 1) := by decide +kernel
theorem dA_copy_10 : decode prog_2_method_8_code 10 = .ok (.iload_n 2, 1) := by decide +kernel
theorem dA_copy_11 : decode prog_2_method_8_code 11 = .ok (.aload_n 0, 1) := by decide +kernel
theorem dA_copy_12 : decode prog_2_method_8_code 12 = .ok (.getfield 27, 3) := by decide +kernel
theorem dA_copy_15 : decode prog_2_method_8_code 15 = .ok (.if_icmp .ge 21, 3) := by decide +kernel
theorem dA_copy_18 : decode prog_2_method_8_code 18 = .ok (.aload_n 1, 1) := by decide +kernel
theorem dA_copy_19 : decode prog_2_method_8_code 19 = .ok (.getfield 11, 3) := by decide +kernel
theorem dA_copy_22 : decode prog_2_method_8_code 22 = .ok (.iload_n 2, 1) := by decide +kernel
theorem dA_copy_23 : decode prog_2_method_8_code 23 = .ok (.aload_n 0, 1) := by decide +kernel
theorem dA_copy_24 : decode prog_2_method_8_code 24 = .ok (.getfield 11, 3) := by decide +kernel
theorem dA_copy_27 : decode prog_2_method_8_code 27 = .ok (.iload_n 2, 1) := by decide +kernel
theorem dA_copy_28 : decode prog_2_method_8_code 28 = .ok (.aaload, 1) := by decide +kernel
theorem dA_copy_29 : decode prog_2_method_8_code 29 = .ok (.aastore, 1) := by decide +kernel
theorem dA_copy_30 : decode prog_2_method_8_code 30 = .ok (.iinc 2 1, 3) := by decide +kernel
theorem dA_copy_33 : decode prog_2_method_8_code 33 = .ok (.goto (-23), 3) := by decide +kernel
theorem dA_copy_36 : decode prog_2_method_8_code 36 = .ok (.iconst 0, 1) := by decide +kernel
theorem dA_copy_37 : decode prog_2_method_8_code 37 = .ok (.istore_n 2, 1) := by decide +kernel
theorem dA_copy_38 : decode prog_2_method_8_code 38 = .ok (.iload_n 2, 1) := by decide +kernel
theorem dA_copy_39 : decode prog_2_method_8_code 39 = .ok (.aload_n 0, 1) := by decide +kernel
theorem dA_copy_40 : decode prog_2_method_8_code 40 = .ok (.getfield 34, 3) := by decide +kernel
theorem dA_copy_43 : decode prog_2_method_8_code 43 = .ok (.if_icmp .ge 21, 3) := by decide +kernel
theorem dA_copy_46 : decode prog_2_method_8_code 46 = .ok (.aload_n 1, 1) := by decide +kernel
theorem dA_copy_47 : decode prog_2_method_8_code 47 = .ok (.getfield 19, 3) := by decide +kernel
theorem dA_copy_50 : decode prog_2_method_8_code 50 = .ok (.iload_n 2, 1) := by decide +kernel
theorem dA_copy_51 : decode prog_2_method_8_code 51 = .ok (.aload_n 0, 1) := by decide +kernel
theorem dA_copy_52 : decode prog_2_method_8_code 52 = .ok (.getfield 19, 3) := by decide +kernel
theorem dA_copy_55 : decode prog_2_method_8_code 55 = .ok (.iload_n 2, 1) := by decide +kernel
theorem dA_copy_56 : decode prog_2_method_8_code 56 = .ok (.aaload, 1) := by decide +kernel
theorem dA_copy_57 : decode prog_2_method_8_code 57 = .ok (.aastore, 1) := by decide +kernel
theorem dA_copy_58 : decode prog_2_method_8_code 58 = .ok (.iinc 2 1, 3) := by decide +kernel
theorem dA_copy_61 : decode prog_2_method_8_code 61 = .ok (.goto (-23), 3) := by decide +kernel
theorem dA_copy_64 : decode prog_2_method_8_code 64 = .ok (.aload_n 1, 1) := by decide +kernel
theorem dA_copy_65 : decode prog_2_method_8_code 65 = .ok (.aload_n 0, 1) := by decide +kernel
theorem dA_copy_66 : decode prog_2_method_8_code 66 = .ok (.getfield 27, 3) := by decide +kernel
theorem dA_copy_69 : decode prog_2_method_8_code 69 = .ok (.putfield 27, 3) := by decide +kernel
theorem dA_copy_72 : decode prog_2_method_8_code 72 = .ok (.aload_n 1, 1) := by decide +kernel
theorem dA_copy_73 : decode prog_2_method_8_code 73 = .ok (.aload_n 0, 1) := by decide +kernel
theorem dA_copy_74 : decode prog_2_method_8_code 74 = .ok (.getfield 34, 3) := by decide +kernel
theorem dA_copy_77 : decode prog_2_method_8_code 77 = .ok (.putfield 34, 3) := by decide +kernel
theorem dA_copy_80 : decode prog_2_method_8_code 80 = .ok (.aload_n 1, 1) := by decide +kernel
theorem dA_copy_81 : decode prog_2_method_8_code 81 = .ok (.areturn, 1) := by decide +kernel
theorem dA_isLike_0 : decode prog_2_method_9_code 0 = .ok (.aload_n 0, 1) := by decide +kernel
theorem dA_isLike_1 : decode prog_2_method_9_code 1 = .ok (.getfield 27, 3) := by decide +kernel
theorem dA_isLike_4 : decode prog_2_method_9_code 4 = .ok (.aload_n 1, 1) := by decide +kernel
theorem dA_isLike_5 : decode prog_2_method_9_code 5 = .ok (.getfield 27, 3) := by decide +kernel
theorem dA_isLike_8 : decode prog_2_method_9_code 8 = .ok (.if_icmp .ne 14, 3) := by decide +kernel
theorem dA_isLike_11 : decode prog_2_method_9_code 11 = .ok (.aload_n 0, 1) := by decide +kernel
theorem dA_isLike_12 : decode prog_2_method_9_code 12 = .ok (.getfield 34, 3) := by decide +kernel
theorem dA_isLike_15 : decode prog_2_method_9_code 15 = .ok (.aload_n 1, 1) := by decide +kernel
theorem dA_isLike_16 : decode prog_2_method_9_code 16 = .ok (.getfield 34, 3) := by decide +kernel
theorem dA_isLike_19 : decode prog_2_method_9_code 19 = .ok (.if_icmp .eq 5, 3) := by decide +kernel
theorem dA_isLike_22 : decode prog_2_method_9_code 22 = .ok (.iconst 0, 1) := by decide +kernel
theorem dA_isLike_23 : decode prog_2_method_9_code 23 = .ok (.ireturn, 1) := by decide +kernel
theorem dA_isLike_24 : decode prog_2_method_9_code 24 = .ok (.iconst 0, 1) := by decide +kernel
theorem dA_isLike_25 : decode prog_2_method_9_code 25 = .ok (.istore_n 2, 1) := by decide +kernel
theorem dA_isLike_26 : decode prog_2_method_9_code 26 = .ok (.iload_n 2, 1) := by decide +kernel
theorem dA_isLike_27 : decode prog_2_method_9_code 27 = .ok (.aload_n 0, 1) := by decide +kernel
theorem dA_isLike_28 : decode prog_2_method_9_code 28 = .ok (.getfield 27, 3) := by decide +kernel
theorem dA_isLike_31 : decode prog_2_method_9_code 31 = .ok (.if_icmp .ge 36, 3) := by decide +kernel
theorem dA_isLike_34 : decode prog_2_method_9_code 34 = .ok (.aload_n 0, 1) := by decide +kernel
theorem dA_isLike_35 : decode prog_2_method_9_code 35 = .ok (.getfield 11, 3) := by decide +kernel
theorem dA_isLike_38 : decode prog_2_method_9_code 38 = .ok (.iload_n 2, 1) := by decide +kernel
theorem dA_isLike_39 : decode prog_2_method_9_code 39 = .ok (.aaload, 1) := by decide +kernel
theorem dA_isLike_40 : decode prog_2_method_9_code 40 = .ok (.aload_n 1, 1) := by decide +kernel
theorem dA_isLike_41 : decode prog_2_method_9_code 41 = .ok (.aload_n 0, 1) := by decide +kernel
theorem dA_isLike_42 : decode prog_2_method_9_code 42 = .ok (.getfield 11, 3) := by decide +kernel
theorem dA_isLike_45 : decode prog_2_method_9_code 45 = .ok (.iload_n 2, 1) := by decide +kernel
theorem dA_isLike_46 : decode prog_2_method_9_code 46 = .ok (.aaload, 1) := by decide +kernel
theorem dA_isLike_47 : decode prog_2_method_9_code 47 = .ok (.getfield 37, 3) := by decide +kernel
theorem dA_isLike_50 : decode prog_2_method_9_code 50 = .ok (.invokevirtual 50, 3) := by decide +kernel
theorem dA_isLike_53 : decode prog_2_method_9_code 53 = .ok (.invokevirtual 54, 3) := by decide +kernel
theorem dA_isLike_56 : decode prog_2_method_9_code 56 = .ok (.ifCond .ne 5, 3) := by decide +kernel
theorem dA_isLike_59 : decode prog_2_method_9_code 59 = .ok (.iconst 0, 1) := by decide +kernel
theorem dA_isLike_60 : decode prog_2_method_9_code 60 = .ok (.ireturn, 1) := by decide +kernel
theorem dA_isLike_61 : decode prog_2_method_9_code 61 = .ok (.iinc 2 1, 3) := by decide +kernel
theorem dA_isLike_64 : decode prog_2_method_9_code 64 = .ok (.goto (-38), 3) := by decide +kernel
theorem dA_isLike_67 : decode prog_2_method_9_code 67 = .ok (.iconst 0, 1) := by decide +kernel
theorem dA_isLike_68 : decode prog_2_method_9_code 68 = .ok (.istore_n 2, 1) := by decide +kernel
theorem dA_isLike_69 : decode prog_2_method_9_code 69 = .ok (.iload_n 2, 1) := by decide +kernel
theorem dA_isLike_70 : decode prog_2_method_9_code 70 = .ok (.aload_n 0, 1) := by decide +kernel
theorem dA_isLike_71 : decode prog_2_method_9_code 71 = .ok (.getfield 34, 3) := by decide +kernel
theorem dA_isLike_74 : decode prog_2_method_9_code 74 = .ok (.if_icmp .ge 36, 3) := by decide +kernel
theorem dA_isLike_77 : decode prog_2_method_9_code 77 = .ok (.aload_n 0, 1) := by decide +kernel
theorem dA_isLike_78 : decode prog_2_method_9_code 78 = .ok (.getfield 19, 3) := by decide +kernel
theorem dA_isLike_81 : decode prog_2_method_9_code 81 = .ok (.iload_n 2, 1) := by decide +kernel
theorem dA_isLike_82 : decode prog_2_method_9_code 82 = .ok (.aaload, 1) := by decide +kernel
theorem dA_isLike_83 : decode prog_2_method_9_code 83 = .ok (.aload_n 1, 1) := by decide +kernel
theorem dA_isLike_84 : decode prog_2_method_9_code 84 = .ok (.aload_n 0, 1) := by decide +kernel
theorem dA_isLike_85 : decode prog_2_method_9_code 85 = .ok (.getfield 19, 3) := by decide +kernel
theorem dA_isLike_88 : decode prog_2_method_9_code 88 = .ok (.iload_n 2, 1) := by decide +kernel
theorem dA_isLike_89 : decode prog_2_method_9_code 89 = .ok (.aaload, 1) := by decide +kernel
theorem dA_isLike_90 : decode prog_2_method_9_code 90 = .ok (.getfield 46, 3) := by decide +kernel
theorem dA_isLike_93 : decode prog_2_method_9_code 93 = .ok (.invokevirtual 58, 3) := by decide +kernel
theorem dA_isLike_96 : decode prog_2_method_9_code 96 = .ok (.invokevirtual 62, 3) := by decide +kernel
theorem dA_isLike_99 : decode prog_2_method_9_code 99 = .ok (.ifCond .ne 5, 3) := by decide +kernel
theorem dA_isLike_102 : decode prog_2_method_9_code 102 = .ok (.iconst 0, 1) := by decide +kernel
theorem dA_isLike_103 : decode prog_2_method_9_code 103 = .ok (.ireturn, 1) := by decide +kernel
theorem dA_isLike_104 : decode prog_2_method_9_code 104 = .ok (.iinc 2 1, 3) := by decide +kernel
theorem dA_isLike_107 : decode prog_2_method_9_code 107 = .ok (.goto (-38), 3) := by decide +kernel
theorem dA_isLike_110 : decode prog_2_method_9_code 110 = .ok (.iconst 1, 1) := by decide +kernel
theorem dA_isLike_111 : decode prog_2_method_9_code 111 = .ok (.ireturn, 1) := by decide +kernel
theorem dC_init_0 : decode prog_3_method_1_code 0 = .ok (.aload_n 0, 1) := by decide +kernel
theorem dC_init_1 : decode prog_3_method_1_code 1 = .ok (.invokespecial 1, 3) := by decide +kernel
theorem dC_init_4 : decode prog_3_method_1_code 4 = .ok (.aload_n 0, 1) := by decide +kernel
theorem dC_init_5 : decode prog_3_method_1_code 5 = .ok (.iload_n 1, 1) := by decide +kernel
theorem dC_init_6 : decode prog_3_method_1_code 6 = .ok (.putfield 7, 3) := by decide +kernel
theorem dC_init_9 : decode prog_3_method_1_code 9 = .ok (.aload_n 0, 1) := by decide +kernel
theorem dC_init_10 : decode prog_3_method_1_code 10 = .ok (.iload_n 2, 1) := by decide +kernel
theorem dC_init_11 : decode prog_3_method_1_code 11 = .ok (.putfield 13, 3) := by decide +kernel
theorem dC_init_14 : decode prog_3_method_1_code 14 = .ok (.aload_n 0, 1) := by decide +kernel
theorem dC_init_15 : decode prog_3_method_1_code 15 = .ok (.iload_n 3, 1) := by decide +kernel
theorem dC_init_16 : decode prog_3_method_1_code 16 = .ok (.putfield 16, 3) := by decide +kernel
theorem dC_init_19 : decode prog_3_method_1_code 19 = .ok (.return_, 1) := by decide +kernel
theorem dC_isSame_0 : decode prog_3_method_2_code 0 = .ok (.aload_n 1, 1) := by decide +kernel
theorem dC_isSame_1 : decode prog_3_method_2_code 1 = .ok (.ifnull 40, 3) := by decide +kernel
theorem dC_isSame_4 : decode prog_3_method_2_code 4 = .ok (.aload_n 0, 1) := by decide +kernel
theorem dC_isSame_5 : decode prog_3_method_2_code 5 = .ok (.getfield 7, 3) := by decide +kernel
theorem dC_isSame_8 : decode prog_3_method_2_code 8 = .ok (.aload_n 1, 1) := by decide +kernel
theorem dC_isSame_9 : decode prog_3_method_2_code 9 = .ok (.getfield 7, 3) := by decide +kernel
theorem dC_isSame_12 : decode prog_3_method_2_code 12 = .ok (.if_icmp .ne 29, 3) := by decide +kernel
theorem dC_isSame_15 : decode prog_3_method_2_code 15 = .ok (.aload_n 0, 1) := by decide +kernel
theorem dC_isSame_16 : decode prog_3_method_2_code 16 = .ok (.getfield 13, 3) := by decide +kernel
theorem dC_isSame_19 : decode prog_3_method_2_code 19 = .ok (.aload_n 1, 1) := by decide +kernel
theorem dC_isSame_20 : decode prog_3_method_2_code 20 = .ok (.getfield 13, 3) := by decide +kernel
theorem dC_isSame_23 : decode prog_3_method_2_code 23 = .ok (.if_icmp .ne 18, 3) := by decide +kernel
theorem dC_isSame_26 : decode prog_3_method_2_code 26 = .ok (.aload_n 0, 1) := by decide +kernel
theorem dC_isSame_27 : decode prog_3_method_2_code 27 = .ok (.getfield 16, 3) := by decide +kernel
theorem dC_isSame_30 : decode prog_3_method_2_code 30 = .ok (.aload_n 1, 1) := by decide +kernel
theorem dC_isSame_31 : decode prog_3_method_2_code 31 = .ok (.getfield 16, 3) := by decide +kernel
theorem dC_isSame_34 : decode prog_3_method_2_code 34 = .ok (.if_icmp .ne 7, 3) := by decide +kernel
theorem dC_isSame_37 : decode prog_3_method_2_code 37 = .ok (.iconst 1, 1) := by decide +kernel
theorem dC_isSame_38 : decode prog_3_method_2_code 38 = .ok (.goto 4, 3) := by decide +kernel
theorem dC_isSame_41 : decode prog_3_method_2_code 41 = .ok (.iconst 0, 1) := by decide +kernel
theorem dC_isSame_42 : decode prog_3_method_2_code 42 = .ok (.ireturn, 1) := by decide +kernel
theorem dD_init_0 : decode prog_4_method_1_code 0 = .ok (.aload_n 0, 1) := by decide +kernel
theorem dD_init_1 : decode prog_4_method_1_code 1 = .ok (.invokespecial 1, 3) := by decide +kernel
theorem dD_init_4 : decode prog_4_method_1_code 4 = .ok (.aload_n 0, 1) := by decide +kernel
theorem dD_init_5 : decode prog_4_method_1_code 5 = .ok (.iload_n 1, 1) := by decide +kernel
theorem dD_init_6 : decode prog_4_method_1_code 6 = .ok (.putfield 7, 3) := by decide +kernel
theorem dD_init_9 : decode prog_4_method_1_code 9 = .ok (.aload_n 0, 1) := by decide +kernel
theorem dD_init_10 : decode prog_4_method_1_code 10 = .ok (.iload_n 2, 1) := by decide +kernel
theorem dD_init_11 : decode prog_4_method_1_code 11 = .ok (.putfield 13, 3) := by decide +kernel
theorem dD_init_14 : decode prog_4_method_1_code 14 = .ok (.return_, 1) := by decide +kernel
theorem dD_isSame_0 : decode prog_4_method_2_code 0 = .ok (.aload_n 1, 1) := by decide +kernel
theorem dD_isSame_1 : decode prog_4_method_2_code 1 = .ok (.ifnull 29, 3) := by decide +kernel
theorem dD_isSame_4 : decode prog_4_method_2_code 4 = .ok (.aload_n 0, 1) := by decide +kernel
theorem dD_isSame_5 : decode prog_4_method_2_code 5 = .ok (.getfield 7, 3) := by decide +kernel
theorem dD_isSame_8 : decode prog_4_method_2_code 8 = .ok (.aload_n 1, 1) := by decide +kernel
theorem dD_isSame_9 : decode prog_4_method_2_code 9 = .ok (.getfield 7, 3) := by decide +kernel
theorem dD_isSame_12 : decode prog_4_method_2_code 12 = .ok (.if_icmp .ne 18, 3) := by decide +kernel
theorem dD_isSame_15 : decode prog_4_method_2_code 15 = .ok (.aload_n 0, 1) := by decide +kernel
theorem dD_isSame_16 : decode prog_4_method_2_code 16 = .ok (.getfield 13, 3) := by decide +kernel
theorem dD_isSame_19 : decode prog_4_method_2_code 19 = .ok (.aload_n 1, 1) := by decide +kernel
theorem dD_isSame_20 : decode prog_4_method_2_code 20 = .ok (.getfield 13, 3) := by decide +kernel
theorem dD_isSame_23 : decode prog_4_method_2_code 23 = .ok (.if_icmp .ne 7, 3) := by decide +kernel
theorem dD_isSame_26 : decode prog_4_method_2_code 26 = .ok (.iconst 1, 1) := by decide +kernel
theorem dD_isSame_27 : decode prog_4_method_2_code 27 = .ok (.goto 4, 3) := by decide +kernel
theorem dD_isSame_30 : decode prog_4_method_2_code 30 = .ok (.iconst 0, 1) := by decide +kernel
theorem dD_isSame_31 : decode prog_4_method_2_code 31 = .ok (.ireturn, 1) := by decide +kernel
theorem dF_init_0 : decode prog_5_method_1_code 0 = .ok (.aload_n 0, 1) := by decide +kernel
theorem dF_init_1 : decode prog_5_method_1_code 1 = .ok (.invokespecial 1, 3) := by decide +kernel
theorem dF_init_4 : decode prog_5_method_1_code 4 = .ok (.aload_n 0, 1) := by decide +kernel
theorem dF_init_5 : decode prog_5_method_1_code 5 = .ok (.iload_n 1, 1) := by decide +kernel
theorem dF_init_6 : decode prog_5_method_1_code 6 = .ok (.putfield 7, 3) := by decide +kernel
theorem dF_init_9 : decode prog_5_method_1_code 9 = .ok (.aload_n 0, 1) := by decide +kernel
theorem dF_init_10 : decode prog_5_method_1_code 10 = .ok (.lload_n 2, 1) := by decide +kernel
theorem dF_init_11 : decode prog_5_method_1_code 11 = .ok (.putfield 13, 3) := by decide +kernel
theorem dF_init_14 : decode prog_5_method_1_code 14 = .ok (.aload_n 0, 1) := by decide +kernel
theorem dF_init_15 : decode prog_5_method_1_code 15 = .ok (.lload 4, 2) := by decide +kernel
theorem dF_init_17 : decode prog_5_method_1_code 17 = .ok (.putfield 17, 3) := by decide +kernel
theorem dF_init_20 : decode prog_5_method_1_code 20 = .ok (.return_, 1) := by decide +kernel
theorem dF_admits_0 : decode prog_5_method_2_code 0 = .ok (.aload_n 0, 1) := by decide +kernel
theorem dF_admits_1 : decode prog_5_method_2_code 1 = .ok (.getfield 17, 3) := by decide +kernel
theorem dF_admits_4 : decode prog_5_method_2_code 4 = .ok (.iload_n 1, 1) := by decide +kernel
theorem dF_admits_5 : decode prog_5_method_2_code 5 = .ok (.lushr, 1) := by decide +kernel
theorem dF_admits_6 : decode prog_5_method_2_code 6 = .ok (.lconst 1, 1) := by decide +kernel
theorem dF_admits_7 : decode prog_5_method_2_code 7 = .ok (.land, 1) := by decide +kernel
theorem dF_admits_8 : decode prog_5_method_2_code 8 = .ok (.lconst 0, 1) := by decide +kernel
theorem dF_admits_9 : decode prog_5_method_2_code 9 = .ok (.lcmp, 1) := by decide +kernel
theorem dF_admits_10 : decode prog_5_method_2_code 10 = .ok (.ifCond .eq 5, 3) := by decide +kernel
theorem dF_admits_13 : decode prog_5_method_2_code 13 = .ok (.iconst 0, 1) := by decide +kernel
theorem dF_admits_14 : decode prog_5_method_2_code 14 = .ok (.ireturn, 1) := by decide +kernel
theorem dF_admits_15 : decode prog_5_method_2_code 15 = .ok (.aload_n 0, 1) := by decide +kernel
theorem dF_admits_16 : decode prog_5_method_2_code 16 = .ok (.getfield 13, 3) := by decide +kernel
theorem dF_admits_19 : decode prog_5_method_2_code 19 = .ok (.iload_n 1, 1) := by decide +kernel
theorem dF_admits_20 : decode prog_5_method_2_code 20 = .ok (.lushr, 1) := by decide +kernel
theorem dF_admits_21 : decode prog_5_method_2_code 21 = .ok (.lconst 1, 1) := by decide +kernel
theorem dF_admits_22 : decode prog_5_method_2_code 22 = .ok (.land, 1) := by decide +kernel
theorem dF_admits_23 : decode prog_5_method_2_code 23 = .ok (.lconst 0, 1) := by decide +kernel
theorem dF_admits_24 : decode prog_5_method_2_code 24 = .ok (.lcmp, 1) := by decide +kernel
theorem dF_admits_25 : decode prog_5_method_2_code 25 = .ok (.ifCond .ne 16, 3) := by decide +kernel
theorem dF_admits_28 : decode prog_5_method_2_code 28 = .ok (.aload_n 0, 1) := by decide +kernel
theorem dF_admits_29 : decode prog_5_method_2_code 29 = .ok (.getfield 7, 3) := by decide +kernel
theorem dF_admits_32 : decode prog_5_method_2_code 32 = .ok (.iload_n 1, 1) := by decide +kernel
theorem dF_admits_33 : decode prog_5_method_2_code 33 = .ok (.iconst 3, 1) := by decide +kernel
theorem dF_admits_34 : decode prog_5_method_2_code 34 = .ok (.ishr, 1) := by decide +kernel
theorem dF_admits_35 : decode prog_5_method_2_code 35 = .ok (.iushr, 1) := by decide +kernel
theorem dF_admits_36 : decode prog_5_method_2_code 36 = .ok (.iconst 1, 1) := by decide +kernel
theorem dF_admits_37 : decode prog_5_method_2_code 37 = .ok (.iand, 1) := by decide +kernel
theorem dF_admits_38 : decode prog_5_method_2_code 38 = .ok (.ifCond .eq 7, 3) := by decide +kernel
theorem dF_admits_41 : decode prog_5_method_2_code 41 = .ok (.iconst 1, 1) := by decide +kernel
theorem dF_admits_42 : decode prog_5_method_2_code 42 = .ok (.goto 4, 3) := by decide +kernel
theorem dF_admits_45 : decode prog_5_method_2_code 45 = .ok (.iconst 0, 1) := by decide +kernel
theorem dF_admits_46 : decode prog_5_method_2_code 46 = .ok (.ireturn, 1) := by decide +kernel
theorem dF_isSame_0 : decode prog_5_method_3_code 0 = .ok (.aload_n 1, 1) := by decide +kernel
theorem dF_isSame_1 : decode prog_5_method_3_code 1 = .ok (.ifnull 42, 3) := by decide +kernel
theorem dF_isSame_4 : decode prog_5_method_3_code 4 = .ok (.aload_n 0, 1) := by decide +kernel
theorem dF_isSame_5 : decode prog_5_method_3_code 5 = .ok (.getfield 7, 3) := by decide +kernel
theorem dF_isSame_8 : decode prog_5_method_3_code 8 = .ok (.aload_n 1, 1) := by decide +kernel
theorem dF_isSame_9 : decode prog_5_method_3_code 9 = .ok (.getfield 7, 3) := by decide +kernel
theorem dF_isSame_12 : decode prog_5_method_3_code 12 = .ok (.if_icmp .ne 31, 3) := by decide +kernel
theorem dF_isSame_15 : decode prog_5_method_3_code 15 = .ok (.aload_n 0, 1) := by decide +kernel
theorem dF_isSame_16 : decode prog_5_method_3_code 16 = .ok (.getfield 13, 3) := by decide +kernel
theorem dF_isSame_19 : decode prog_5_method_3_code 19 = .ok (.aload_n 1, 1) := by decide +kernel
theorem dF_isSame_20 : decode prog_5_method_3_code 20 = .ok (.getfield 13, 3) := by decide +kernel
theorem dF_isSame_23 : decode prog_5_method_3_code 23 = .ok (.lcmp, 1) := by decide +kernel
theorem dF_isSame_24 : decode prog_5_method_3_code 24 = .ok (.ifCond .ne 19, 3) := by decide +kernel
theorem dF_isSame_27 : decode prog_5_method_3_code 27 = .ok (.aload_n 0, 1) := by decide +kernel
theorem dF_isSame_28 : decode prog_5_method_3_code 28 = .ok (.getfield 17, 3) := by decide +kernel
theorem dF_isSame_31 : decode prog_5_method_3_code 31 = .ok (.aload_n 1, 1) := by decide +kernel
theorem dF_isSame_32 : decode prog_5_method_3_code 32 = .ok (.getfield 17, 3) := by decide +kernel
theorem dF_isSame_35 : decode prog_5_method_3_code 35 = .ok (.lcmp, 1) := by decide +kernel
theorem dF_isSame_36 : decode prog_5_method_3_code 36 = .ok (.ifCond .ne 7, 3) := by decide +kernel
theorem dF_isSame_39 : decode prog_5_method_3_code 39 = .ok (.iconst 1, 1) := by decide +kernel
theorem dF_isSame_40 : decode prog_5_method_3_code 40 = .ok (.goto 4, 3) := by decide +kernel
theorem dF_isSame_43 : decode prog_5_method_3_code 43 = .ok (.iconst 0, 1) := by decide +kernel
theorem dF_isSame_44 : decode prog_5_method_3_code 44 = .ok (.ireturn, 1) := by decide +kernel
theorem dL_init_0 : decode prog_6_method_1_code 0 = .ok (.aload_n 0, 1) := by decide +kernel
theorem dL_init_1 : decode prog_6_method_1_code 1 = .ok (.invokespecial 1, 3) := by decide +kernel
theorem dL_init_4 : decode prog_6_method_1_code 4 = .ok (.aload_n 0, 1) := by decide +kernel
theorem dL_init_5 : decode prog_6_method_1_code 5 = .ok (.iload_n 1, 1) := by decide +kernel
theorem dL_init_6 : decode prog_6_method_1_code 6 = .ok (.putfield 7, 3) := by decide +kernel
theorem dL_init_9 : decode prog_6_method_1_code 9 = .ok (.aload_n 0, 1) := by decide +kernel
theorem dL_init_10 : decode prog_6_method_1_code 10 = .ok (.iload_n 2, 1) := by decide +kernel
theorem dL_init_11 : decode prog_6_method_1_code 11 = .ok (.putfield 13, 3) := by decide +kernel
theorem dL_init_14 : decode prog_6_method_1_code 14 = .ok (.aload_n 0, 1) := by decide +kernel
theorem dL_init_15 : decode prog_6_method_1_code 15 = .ok (.aload_n 3, 1) := by decide +kernel
theorem dL_init_16 : decode prog_6_method_1_code 16 = .ok (.putfield 16, 3) := by decide +kernel
theorem dL_init_19 : decode prog_6_method_1_code 19 = .ok (.aload_n 0, 1) := by decide +kernel
theorem dL_init_20 : decode prog_6_method_1_code 20 = .ok (.aload 4, 2) := by decide +kernel
theorem dL_init_22 : decode prog_6_method_1_code 22 = .ok (.putfield 20, 3) := by decide +kernel
theorem dL_init_25 : decode prog_6_method_1_code 25 = .ok (.aload_n 0, 1) := by decide +kernel
theorem dL_init_26 : decode prog_6_method_1_code 26 = .ok (.aload 5, 2) := by decide +kernel
theorem dL_init_28 : decode prog_6_method_1_code 28 = .ok (.putfield 24, 3) := by decide +kernel
theorem dL_init_31 : decode prog_6_method_1_code 31 = .ok (.return_, 1) := by decide +kernel
theorem dL_fileOf_0 : decode prog_6_method_2_code 0 = .ok (.iconst 0, 1) := by decide +kernel
theorem dL_fileOf_1 : decode prog_6_method_2_code 1 = .ok (.istore_n 2, 1) := by decide +kernel
theorem dL_fileOf_2 : decode prog_6_method_2_code 2 = .ok (.iload_n 2, 1) := by decide +kernel
theorem dL_fileOf_3 : decode prog_6_method_2_code 3 = .ok (.aload_n 0, 1) := by decide +kernel
theorem dL_fileOf_4 : decode prog_6_method_2_code 4 = .ok (.getfield 20, 3) := by decide +kernel
theorem dL_fileOf_7 : decode prog_6_method_2_code 7 = .ok (.arraylength, 1) := by decide +kernel
theorem dL_fileOf_8 : decode prog_6_method_2_code 8 = .ok (.if_icmp .ge 26, 3) := by decide +kernel
theorem dL_fileOf_11 : decode prog_6_method_2_code 11 = .ok (.aload_n 0, 1) := by decide +kernel
theorem dL_fileOf_12 : decode prog_6_method_2_code 12 = .ok (.getfield 20, 3) := by decide +kernel
theorem dL_fileOf_15 : decode prog_6_method_2_code 15 = .ok (.iload_n 2, 1) := by decide +kernel
theorem dL_fileOf_16 : decode prog_6_method_2_code 16 = .ok (.aaload, 1) := by decide +kernel
theorem dL_fileOf_17 : decode prog_6_method_2_code 17 = .ok (.iload_n 1, 1) := by decide +kernel
theorem dL_fileOf_18 : decode prog_6_method_2_code 18 = .ok (.invokevirtual 28, 3) := by decide +kernel
theorem dL_fileOf_21 : decode prog_6_method_2_code 21 = .ok (.astore_n 3, 1) := by decide +kernel
theorem dL_fileOf_22 : decode prog_6_method_2_code 22 = .ok (.aload_n 3, 1) := by decide +kernel
theorem dL_fileOf_23 : decode prog_6_method_2_code 23 = .ok (.ifnull 5, 3) := by decide +kernel
theorem dL_fileOf_26 : decode prog_6_method_2_code 26 = .ok (.aload_n 3, 1) := by decide +kernel
theorem dL_fileOf_27 : decode prog_6_method_2_code 27 = .ok (.areturn, 1) := by decide +kernel
theorem dL_fileOf_28 : decode prog_6_method_2_code 28 = .ok (.iinc 2 1, 3) := by decide +kernel
theorem dL_fileOf_31 : decode prog_6_method_2_code 31 = .ok (.goto (-29), 3) := by decide +kernel
theorem dL_fileOf_34 : decode prog_6_method_2_code 34 = .ok (.aconst_null, 1) := by decide +kernel
theorem dL_fileOf_35 : decode prog_6_method_2_code 35 = .ok (.areturn, 1) := by decide +kernel
theorem dL_descriptorOf_0 : decode prog_6_method_3_code 0 = .ok (.iconst 0, 1) := by decide +kernel
theorem dL_descriptorOf_1 : decode prog_6_method_3_code 1 = .ok (.istore_n 2, 1) := by decide +kernel
theorem dL_descriptorOf_2 : decode prog_6_method_3_code 2 = .ok (.iload_n 2, 1) := by decide +kernel
theorem dL_descriptorOf_3 : decode prog_6_method_3_code 3 = .ok (.aload_n 0, 1) := by decide +kernel
theorem dL_descriptorOf_4 : decode prog_6_method_3_code 4 = .ok (.getfield 20, 3) := by decide +kernel
theorem dL_descriptorOf_7 : decode prog_6_method_3_code 7 = .ok (.arraylength, 1) := by decide +kernel
theorem dL_descriptorOf_8 : decode prog_6_method_3_code 8 = .ok (.if_icmp .ge 26, 3) := by decide +kernel
theorem dL_descriptorOf_11 : decode prog_6_method_3_code 11 = .ok (.aload_n 0, 1) := by decide +kernel
theorem dL_descriptorOf_12 : decode prog_6_method_3_code 12 = .ok (.getfield 20, 3) := by decide +kernel
theorem dL_descriptorOf_15 : decode prog_6_method_3_code 15 = .ok (.iload_n 2, 1) := by decide +kernel
theorem dL_descriptorOf_16 : decode prog_6_method_3_code 16 = .ok (.aaload, 1) := by decide +kernel
theorem dL_descriptorOf_17 : decode prog_6_method_3_code 17 = .ok (.iload_n 1, 1) := by decide +kernel
theorem dL_descriptorOf_18 : decode prog_6_method_3_code 18 = .ok (.invokevirtual 34, 3) := by decide +kernel
theorem dL_descriptorOf_21 : decode prog_6_method_3_code 21 = .ok (.astore_n 3, 1) := by decide +kernel
theorem dL_descriptorOf_22 : decode prog_6_method_3_code 22 = .ok (.aload_n 3, 1) := by decide +kernel
theorem dL_descriptorOf_23 : decode prog_6_method_3_code 23 = .ok (.ifnull 5, 3) := by decide +kernel
theorem dL_descriptorOf_26 : decode prog_6_method_3_code 26 = .ok (.aload_n 3, 1) := by decide +kernel
theorem dL_descriptorOf_27 : decode prog_6_method_3_code 27 = .ok (.areturn, 1) := by decide +kernel
theorem dL_descriptorOf_28 : decode prog_6_method_3_code 28 = .ok (.iinc 2 1, 3) := by decide +kernel
theorem dL_descriptorOf_31 : decode prog_6_method_3_code 31 = .ok (.goto (-29), 3) := by decide +kernel
theorem dL_descriptorOf_34 : decode prog_6_method_3_code 34 = .ok (.aconst_null, 1) := by decide +kernel
theorem dL_descriptorOf_35 : decode prog_6_method_3_code 35 = .ok (.areturn, 1) := by decide +kernel
theorem dL_hasPathLike_0 : decode prog_6_method_4_code 0 = .ok (.aload_n 0, 1) := by decide +kernel
theorem dL_hasPathLike_1 : decode prog_6_method_4_code 1 = .ok (.getfield 20, 3) := by decide +kernel
theorem dL_hasPathLike_4 : decode prog_6_method_4_code 4 = .ok (.arraylength, 1) := by decide +kernel
theorem dL_hasPathLike_5 : decode prog_6_method_4_code 5 = .ok (.aload_n 1, 1) := by decide +kernel
theorem dL_hasPathLike_6 : decode prog_6_method_4_code 6 = .ok (.arraylength, 1) := by decide +kernel
theorem dL_hasPathLike_7 : decode prog_6_method_4_code 7 = .ok (.if_icmp .eq 5, 3) := by decide +kernel
theorem dL_hasPathLike_10 : decode prog_6_method_4_code 10 = .ok (.iconst 0, 1) := by decide +kernel
theorem dL_hasPathLike_11 : decode prog_6_method_4_code 11 = .ok (.ireturn, 1) := by decide +kernel
theorem dL_hasPathLike_12 : decode prog_6_method_4_code 12 = .ok (.iconst 0, 1) := by decide +kernel
theorem dL_hasPathLike_13 : decode prog_6_method_4_code 13 = .ok (.istore_n 2, 1) := by decide +kernel
theorem dL_hasPathLike_14 : decode prog_6_method_4_code 14 = .ok (.iload_n 2, 1) := by decide +kernel
theorem dL_hasPathLike_15 : decode prog_6_method_4_code 15 = .ok (.aload_n 0, 1) := by decide +kernel
theorem dL_hasPathLike_16 : decode prog_6_method_4_code 16 = .ok (.getfield 20, 3) := by decide +kernel
theorem dL_hasPathLike_19 : decode prog_6_method_4_code 19 = .ok (.arraylength, 1) := by decide +kernel
theorem dL_hasPathLike_20 : decode prog_6_method_4_code 20 = .ok (.if_icmp .ge 26, 3) := by decide +kernel
theorem dL_hasPathLike_23 : decode prog_6_method_4_code 23 = .ok (.aload_n 0, 1) := by decide +kernel
theorem dL_hasPathLike_24 : decode prog_6_method_4_code 24 = .ok (.getfield 20, 3) := by decide +kernel
theorem dL_hasPathLike_27 : decode prog_6_method_4_code 27 = .ok (.iload_n 2, 1) := by decide +kernel
theorem dL_hasPathLike_28 : decode prog_6_method_4_code 28 = .ok (.aaload, 1) := by decide +kernel
theorem dL_hasPathLike_29 : decode prog_6_method_4_code 29 = .ok (.aload_n 1, 1) := by decide +kernel
theorem dL_hasPathLike_30 : decode prog_6_method_4_code 30 = .ok (.iload_n 2, 1) := by decide +kernel
theorem dL_hasPathLike_31 : decode prog_6_method_4_code 31 = .ok (.aaload, 1) := by decide +kernel
theorem dL_hasPathLike_32 : decode prog_6_method_4_code 32 = .ok (.invokevirtual 38, 3) := by decide +kernel
theorem dL_hasPathLike_35 : decode prog_6_method_4_code 35 = .ok (.ifCond .ne 5, 3) := by decide +kernel
theorem dL_hasPathLike_38 : decode prog_6_method_4_code 38 = .ok (.iconst 0, 1) := by decide +kernel
theorem dL_hasPathLike_39 : decode prog_6_method_4_code 39 = .ok (.ireturn, 1) := by decide +kernel
theorem dL_hasPathLike_40 : decode prog_6_method_4_code 40 = .ok (.iinc 2 1, 3) := by decide +kernel
theorem dL_hasPathLike_43 : decode prog_6_method_4_code 43 = .ok (.goto (-29), 3) := by decide +kernel
theorem dL_hasPathLike_46 : decode prog_6_method_4_code 46 = .ok (.iconst 1, 1) := by decide +kernel
theorem dL_hasPathLike_47 : decode prog_6_method_4_code 47 = .ok (.ireturn, 1) := by decide +kernel
theorem dP_init_0 : decode prog_7_method_1_code 0 = .ok (.aload_n 0, 1) := by decide +kernel
theorem dP_init_1 : decode prog_7_method_1_code 1 = .ok (.invokespecial 3, 3) := by decide +kernel
theorem dP_init_4 : decode prog_7_method_1_code 4 = .ok (.aload_n 0, 1) := by decide +kernel
theorem dP_init_5 : decode prog_7_method_1_code 5 = .ok (.iconst 4, 1) := by decide +kernel
theorem dP_init_6 : decode prog_7_method_1_code 6 = .ok (.newarray .int, 2) := by decide +kernel
theorem dP_init_8 : decode prog_7_method_1_code 8 = .ok (.putfield 9, 3) := by decide +kernel
theorem dP_init_11 : decode prog_7_method_1_code 11 = .ok (.return_, 1) := by decide +kernel
theorem dP_append_0 : decode prog_7_method_2_code 0 = .ok (.aload_n 0, 1) := by decide +kernel
theorem dP_append_1 : decode prog_7_method_2_code 1 = .ok (.getfield 15, 3) := by decide +kernel
theorem dP_append_4 : decode prog_7_method_2_code 4 = .ok (.iconst 4, 1) := by decide +kernel
theorem dP_append_5 : decode prog_7_method_2_code 5 = .ok (.if_icmp .ge 11, 3) := by decide +kernel
theorem dP_append_8 : decode prog_7_method_2_code 8 = .ok (.aload_n 0, 1) := by decide +kernel
theorem dP_append_9 : decode prog_7_method_2_code 9 = .ok (.iload_n 1, 1) := by decide +kernel
theorem dP_append_10 : decode prog_7_method_2_code 10 = .ok (.invokevirtual 19, 3) := by decide +kernel
theorem dP_append_13 : decode prog_7_method_2_code 13 = .ok (.ifCond .eq 5, 3) := by decide +kernel
theorem dP_append_16 : decode prog_7_method_2_code 16 = .ok (.iconst 0, 1) := by decide +kernel
theorem dP_append_17 : decode prog_7_method_2_code 17 = .ok (.ireturn, 1) := by decide +kernel
theorem dP_append_18 : decode prog_7_method_2_code 18 = .ok (.aload_n 0, 1) := by decide +kernel
theorem dP_append_19 : decode prog_7_method_2_code 19 = .ok (.getfield 9, 3) := by decide +kernel
theorem dP_append_22 : decode prog_7_method_2_code 22 = .ok (.aload_n 0, 1) := by decide +kernel
theorem dP_append_23 : decode prog_7_method_2_code 23 = .ok (.getfield 15, 3) := by decide +kernel
theorem dP_append_26 : decode prog_7_method_2_code 26 = .ok (.iload_n 1, 1) := by decide +kernel
theorem dP_append_27 : decode prog_7_method_2_code 27 = .ok (.iastore, 1) := by decide +kernel
theorem dP_append_28 : decode prog_7_method_2_code 28 = .ok (.aload_n 0, 1) := by decide +kernel
theorem dP_append_29 : decode prog_7_method_2_code 29 = .ok (.dup, 1) := by decide +kernel
theorem dP_append_30 : decode prog_7_method_2_code 30 = .ok (.getfield 15, 3) := by decide +kernel
theorem dP_append_33 : decode prog_7_method_2_code 33 = .ok (.iconst 1, 1) := by decide +kernel
theorem dP_append_34 : decode prog_7_method_2_code 34 = .ok (.iadd, 1) := by decide +kernel
theorem dP_append_35 : decode prog_7_method_2_code 35 = .ok (.putfield 15, 3) := by decide +kernel
theorem dP_append_38 : decode prog_7_method_2_code 38 = .ok (.iconst 1, 1) := by decide +kernel
theorem dP_append_39 : decode prog_7_method_2_code 39 = .ok (.ireturn, 1) := by decide +kernel
theorem dP_contains_0 : decode prog_7_method_3_code 0 = .ok (.iconst 0, 1) := by decide +kernel
theorem dP_contains_1 : decode prog_7_method_3_code 1 = .ok (.istore_n 2, 1) := by decide +kernel
theorem dP_contains_2 : decode prog_7_method_3_code 2 = .ok (.iload_n 2, 1) := by decide +kernel
theorem dP_contains_3 : decode prog_7_method_3_code 3 = .ok (.aload_n 0, 1) := by decide +kernel
theorem dP_contains_4 : decode prog_7_method_3_code 4 = .ok (.getfield 15, 3) := by decide +kernel
theorem dP_contains_7 : decode prog_7_method_3_code 7 = .ok (.if_icmp .ge 21, 3) := by decide +kernel
theorem dP_contains_10 : decode prog_7_method_3_code 10 = .ok (.aload_n 0, 1) := by decide +kernel
theorem dP_contains_11 : decode prog_7_method_3_code 11 = .ok (.getfield 9, 3) := by decide +kernel
theorem dP_contains_14 : decode prog_7_method_3_code 14 = .ok (.iload_n 2, 1) := by decide +kernel
theorem dP_contains_15 : decode prog_7_method_3_code 15 = .ok (.iaload, 1) := by decide +kernel
theorem dP_contains_16 : decode prog_7_method_3_code 16 = .ok (.iload_n 1, 1) := by decide +kernel
theorem dP_contains_17 : decode prog_7_method_3_code 17 = .ok (.if_icmp .ne 5, 3) := by decide +kernel
theorem dP_contains_20 : decode prog_7_method_3_code 20 = .ok (.iconst 1, 1) := by decide +kernel
theorem dP_contains_21 : decode prog_7_method_3_code 21 = .ok (.ireturn, 1) := by decide +kernel
theorem dP_contains_22 : decode prog_7_method_3_code 22 = .ok (.iinc 2 1, 3) := by decide +kernel
theorem dP_contains_25 : decode prog_7_method_3_code 25 = .ok (.goto (-23), 3) := by decide +kernel
theorem dP_contains_28 : decode prog_7_method_3_code 28 = .ok (.iconst 0, 1) := by decide +kernel
theorem dP_contains_29 : decode prog_7_method_3_code 29 = .ok (.ireturn, 1) := by decide +kernel
theorem dS_init_0 : decode prog_8_method_1_code 0 = .ok (.aload_n 0, 1) := by decide +kernel
theorem dS_init_1 : decode prog_8_method_1_code 1 = .ok (.invokespecial 3, 3) := by decide +kernel
theorem dS_init_4 : decode prog_8_method_1_code 4 = .ok (.aload_n 0, 1) := by decide +kernel
theorem dS_init_5 : decode prog_8_method_1_code 5 = .ok (.new 9, 3) := by decide +kernel
theorem dS_init_8 : decode prog_8_method_1_code 8 = .ok (.dup, 1) := by decide +kernel
theorem dS_init_9 : decode prog_8_method_1_code 9 = .ok (.invokespecial 11, 3) := by decide +kernel
theorem dS_init_12 : decode prog_8_method_1_code 12 = .ok (.putfield 12, 3) := by decide +kernel
theorem dS_init_15 : decode prog_8_method_1_code 15 = .ok (.aload_n 0, 1) := by decide +kernel
theorem dS_init_16 : decode prog_8_method_1_code 16 = .ok (.new 9, 3) := by decide +kernel
theorem dS_init_19 : decode prog_8_method_1_code 19 = .ok (.dup, 1) := by decide +kernel
theorem dS_init_20 : decode prog_8_method_1_code 20 = .ok (.invokespecial 11, 3) := by decide +kernel
theorem dS_init_23 : decode prog_8_method_1_code 23 = .ok (.putfield 18, 3) := by decide +kernel
theorem dS_init_26 : decode prog_8_method_1_code 26 = .ok (.aload_n 0, 1) := by decide +kernel
theorem dS_init_27 : decode prog_8_method_1_code 27 = .ok (.getstatic 21, 3) := by decide +kernel
theorem dS_init_30 : decode prog_8_method_1_code 30 = .ok (.putfield 27, 3) := by decide +kernel
theorem dS_init_33 : decode prog_8_method_1_code 33 = .ok (.aload_n 0, 1) := by decide +kernel
theorem dS_init_34 : decode prog_8_method_1_code 34 = .ok (.bipush 8, 2) := by decide +kernel
theorem dS_init_36 : decode prog_8_method_1_code 36 = .ok (.anewarray 30, 3) := by decide +kernel
theorem dS_init_39 : decode prog_8_method_1_code 39 = .ok (.putfield 32, 3) := by decide +kernel
theorem dS_init_42 : decode prog_8_method_1_code 42 = .ok (.aload_n 0, 1) := by decide +kernel
theorem dS_init_43 : decode prog_8_method_1_code 43 = .ok (.aload_n 1, 1) := by decide +kernel
theorem dS_init_44 : decode prog_8_method_1_code 44 = .ok (.putfield 36, 3) := by decide +kernel
theorem dS_init_47 : decode prog_8_method_1_code 47 = .ok (.return_, 1) := by decide +kernel
theorem dS_hasApplied_0 : decode prog_8_method_2_code 0 = .ok (.iconst 0, 1) := by decide +kernel
theorem dS_hasApplied_1 : decode prog_8_method_2_code 1 = .ok (.istore_n 2, 1) := by decide +kernel
theorem dS_hasApplied_2 : decode prog_8_method_2_code 2 = .ok (.iload_n 2, 1) := by decide +kernel
theorem dS_hasApplied_3 : decode prog_8_method_2_code 3 = .ok (.aload_n 0, 1) := by decide +kernel
theorem dS_hasApplied_4 : decode prog_8_method_2_code 4 = .ok (.getfield 40, 3) := by decide +kernel
theorem dS_hasApplied_7 : decode prog_8_method_2_code 7 = .ok (.if_icmp .ge 21, 3) := by decide +kernel
theorem dS_hasApplied_10 : decode prog_8_method_2_code 10 = .ok (.aload_n 0, 1) := by decide +kernel
theorem dS_hasApplied_11 : decode prog_8_method_2_code 11 = .ok (.getfield 32, 3) := by decide +kernel
theorem dS_hasApplied_14 : decode prog_8_method_2_code 14 = .ok (.iload_n 2, 1) := by decide +kernel
theorem dS_hasApplied_15 : decode prog_8_method_2_code 15 = .ok (.aaload, 1) := by decide +kernel
theorem dS_hasApplied_16 : decode prog_8_method_2_code 16 = .ok (.aload_n 1, 1) := by decide +kernel
theorem dS_hasApplied_17 : decode prog_8_method_2_code 17 = .ok (.if_acmp .ne 5, 3) := by decide +kernel
theorem dS_hasApplied_20 : decode prog_8_method_2_code 20 = .ok (.iconst 1, 1) := by decide +kernel
theorem dS_hasApplied_21 : decode prog_8_method_2_code 21 = .ok (.ireturn, 1) := by decide +kernel
theorem dS_hasApplied_22 : decode prog_8_method_2_code 22 = .ok (.iinc 2 1, 3) := by decide +kernel
theorem dS_hasApplied_25 : decode prog_8_method_2_code 25 = .ok (.goto (-23), 3) := by decide +kernel
theorem dS_hasApplied_28 : decode prog_8_method_2_code 28 = .ok (.iconst 0, 1) := by decide +kernel
theorem dS_hasApplied_29 : decode prog_8_method_2_code 29 = .ok (.ireturn, 1) := by decide +kernel
theorem dS_appendApplied_0 : decode prog_8_method_3_code 0 = .ok (.aload_n 0, 1) := by decide +kernel
theorem dS_appendApplied_1 : decode prog_8_method_3_code 1 = .ok (.getfield 40, 3) := by decide +kernel
theorem dS_appendApplied_4 : decode prog_8_method_3_code 4 = .ok (.bipush 8, 2) := by decide +kernel
theorem dS_appendApplied_6 : decode prog_8_method_3_code 6 = .ok (.if_icmp .lt 5, 3) := by decide +kernel
theorem dS_appendApplied_9 : decode prog_8_method_3_code 9 = .ok (.iconst 0, 1) := by decide +kernel
theorem dS_appendApplied_10 : decode prog_8_method_3_code 10 = .ok (.ireturn, 1) := by decide +kernel
theorem dS_appendApplied_11 : decode prog_8_method_3_code 11 = .ok (.aload_n 0, 1) := by decide +kernel
theorem dS_appendApplied_12 : decode prog_8_method_3_code 12 = .ok (.getfield 32, 3) := by decide +kernel
theorem dS_appendApplied_15 : decode prog_8_method_3_code 15 = .ok (.aload_n 0, 1) := by decide +kernel
theorem dS_appendApplied_16 : decode prog_8_method_3_code 16 = .ok (.getfield 40, 3) := by decide +kernel
theorem dS_appendApplied_19 : decode prog_8_method_3_code 19 = .ok (.aload_n 1, 1) := by decide +kernel
theorem dS_appendApplied_20 : decode prog_8_method_3_code 20 = .ok (.aastore, 1) := by decide +kernel
theorem dS_appendApplied_21 : decode prog_8_method_3_code 21 = .ok (.aload_n 0, 1) := by decide +kernel
theorem dS_appendApplied_22 : decode prog_8_method_3_code 22 = .ok (.dup, 1) := by decide +kernel
theorem dS_appendApplied_23 : decode prog_8_method_3_code 23 = .ok (.getfield 40, 3) := by decide +kernel
theorem dS_appendApplied_26 : decode prog_8_method_3_code 26 = .ok (.iconst 1, 1) := by decide +kernel
theorem dS_appendApplied_27 : decode prog_8_method_3_code 27 = .ok (.iadd, 1) := by decide +kernel
theorem dS_appendApplied_28 : decode prog_8_method_3_code 28 = .ok (.putfield 40, 3) := by decide +kernel
theorem dS_appendApplied_31 : decode prog_8_method_3_code 31 = .ok (.iconst 1, 1) := by decide +kernel
theorem dS_appendApplied_32 : decode prog_8_method_3_code 32 = .ok (.ireturn, 1) := by decide +kernel
theorem dY_init_0 : decode prog_10_method_1_code 0 = .ok (.aload_n 0, 1) := by decide +kernel
theorem dY_init_1 : decode prog_10_method_1_code 1 = .ok (.invokespecial 1, 3) := by decide +kernel
theorem dY_init_4 : decode prog_10_method_1_code 4 = .ok (.aload_n 0, 1) := by decide +kernel
theorem dY_init_5 : decode prog_10_method_1_code 5 = .ok (.iload_n 1, 1) := by decide +kernel
theorem dY_init_6 : decode prog_10_method_1_code 6 = .ok (.putfield 7, 3) := by decide +kernel
theorem dY_init_9 : decode prog_10_method_1_code 9 = .ok (.aload_n 0, 1) := by decide +kernel
theorem dY_init_10 : decode prog_10_method_1_code 10 = .ok (.iload_n 2, 1) := by decide +kernel
theorem dY_init_11 : decode prog_10_method_1_code 11 = .ok (.putfield 13, 3) := by decide +kernel
theorem dY_init_14 : decode prog_10_method_1_code 14 = .ok (.aload_n 0, 1) := by decide +kernel
theorem dY_init_15 : decode prog_10_method_1_code 15 = .ok (.iload_n 3, 1) := by decide +kernel
theorem dY_init_16 : decode prog_10_method_1_code 16 = .ok (.putfield 16, 3) := by decide +kernel
theorem dY_init_19 : decode prog_10_method_1_code 19 = .ok (.aload_n 0, 1) := by decide +kernel
theorem dY_init_20 : decode prog_10_method_1_code 20 = .ok (.aload 4, 2) := by decide +kernel
theorem dY_init_22 : decode prog_10_method_1_code 22 = .ok (.putfield 19, 3) := by decide +kernel
theorem dY_init_25 : decode prog_10_method_1_code 25 = .ok (.aload_n 0, 1) := by decide +kernel
theorem dY_init_26 : decode prog_10_method_1_code 26 = .ok (.aload 5, 2) := by decide +kernel
theorem dY_init_28 : decode prog_10_method_1_code 28 = .ok (.putfield 23, 3) := by decide +kernel
theorem dY_init_31 : decode prog_10_method_1_code 31 = .ok (.return_, 1) := by decide +kernel
end
section
/-! each instruction, decoded: printed by program -/
theorem dT_init_0 : decode prog_1_method_1_code 0 = .ok (.aload_n 0, 1) := by decide +kernel
theorem dT_init_1 : decode prog_1_method_1_code 1 = .ok (.invokespecial 1, 3) := by decide +kernel
theorem dT_init_4 : decode prog_1_method_1_code 4 = .ok (.aload_n 0, 1) := by decide +kernel
theorem dT_init_5 : decode prog_1_method_1_code 5 = .ok (.bipush 10, 2) := by decide +kernel
theorem dT_init_7 : decode prog_1_method_1_code 7 = .ok (.anewarray 9, 3) := by decide +kernel
theorem dT_init_10 : decode prog_1_method_1_code 10 = .ok (.putfield 11, 3) := by decide +kernel
theorem dT_init_13 : decode prog_1_method_1_code 13 = .ok (.aload_n 0, 1) := by decide +kernel
theorem dT_init_14 : decode prog_1_method_1_code 14 = .ok (.bipush 12, 2) := by decide +kernel
theorem dT_init_16 : decode prog_1_method_1_code 16 = .ok (.anewarray 15, 3) := by decide +kernel
theorem dT_init_19 : decode prog_1_method_1_code 19 = .ok (.putfield 17, 3) := by decide +kernel
theorem dT_init_22 : decode prog_1_method_1_code 22 = .ok (.aload_n 0, 1) := by decide +kernel
theorem dT_init_23 : decode prog_1_method_1_code 23 = .ok (.bipush 41, 2) := by decide +kernel
theorem dT_init_25 : decode prog_1_method_1_code 25 = .ok (.anewarray 21, 3) := by decide +kernel
theorem dT_init_28 : decode prog_1_method_1_code 28 = .ok (.putfield 23, 3) := by decide +kernel
theorem dT_init_31 : decode prog_1_method_1_code 31 = .ok (.aload_n 0, 1) := by decide +kernel
theorem dT_init_32 : decode prog_1_method_1_code 32 = .ok (.bipush 120, 2) := by decide +kernel
theorem dT_init_34 : decode prog_1_method_1_code 34 = .ok (.anewarray 27, 3) := by decide +kernel
theorem dT_init_37 : decode prog_1_method_1_code 37 = .ok (.putfield 29, 3) := by decide +kernel
theorem dT_init_40 : decode prog_1_method_1_code 40 = .ok (.aload_n 0, 1) := by decide +kernel
theorem dT_init_41 : decode prog_1_method_1_code 41 = .ok (.bipush 8, 2) := by decide +kernel
theorem dT_init_43 : decode prog_1_method_1_code 43 = .ok (.anewarray 21, 3) := by decide +kernel
theorem dT_init_46 : decode prog_1_method_1_code 46 = .ok (.putfield 33, 3) := by decide +kernel
theorem dT_init_49 : decode prog_1_method_1_code 49 = .ok (.aload_n 0, 1) := by decide +kernel
theorem dT_init_50 : decode prog_1_method_1_code 50 = .ok (.bipush 8, 2) := by decide +kernel
theorem dT_init_52 : decode prog_1_method_1_code 52 = .ok (.newarray .int, 2) := by decide +kernel
theorem dT_init_54 : decode prog_1_method_1_code 54 = .ok (.putfield 36, 3) := by decide +kernel
theorem dT_init_57 : decode prog_1_method_1_code 57 = .ok (.iconst 0, 1) := by decide +kernel
theorem dT_init_58 : decode prog_1_method_1_code 58 = .ok (.istore_n 1, 1) := by decide +kernel
theorem dT_init_59 : decode prog_1_method_1_code 59 = .ok (.iload_n 1, 1) := by decide +kernel
theorem dT_init_60 : decode prog_1_method_1_code 60 = .ok (.bipush 10, 2) := by decide +kernel
theorem dT_init_62 : decode prog_1_method_1_code 62 = .ok (.if_icmp .ge 22, 3) := by decide +kernel
theorem dT_init_65 : decode prog_1_method_1_code 65 = .ok (.aload_n 0, 1) := by decide +kernel
theorem dT_init_66 : decode prog_1_method_1_code 66 = .ok (.getfield 11, 3) := by decide +kernel
theorem dT_init_69 : decode prog_1_method_1_code 69 = .ok (.iload_n 1, 1) := by decide +kernel
theorem dT_init_70 : decode prog_1_method_1_code 70 = .ok (.new 9, 3) := by decide +kernel
theorem dT_init_73 : decode prog_1_method_1_code 73 = .ok (.dup, 1) := by decide +kernel
theorem dT_init_74 : decode prog_1_method_1_code 74 = .ok (.invokespecial 40, 3) := by decide +kernel
theorem dT_init_77 : decode prog_1_method_1_code 77 = .ok (.aastore, 1) := by decide +kernel
theorem dT_init_78 : decode prog_1_method_1_code 78 = .ok (.iinc 1 1, 3) := by decide +kernel
theorem dT_init_81 : decode prog_1_method_1_code 81 = .ok (.goto (-22), 3) := by decide +kernel
theorem dT_init_84 : decode prog_1_method_1_code 84 = .ok (.new 21, 3) := by decide +kernel
theorem dT_init_87 : decode prog_1_method_1_code 87 = .ok (.dup, 1) := by decide +kernel
theorem dT_init_88 : decode prog_1_method_1_code 88 = .ok (.iconst 0, 1) := by decide +kernel
theorem dT_init_89 : decode prog_1_method_1_code 89 = .ok (.iconst 0, 1) := by decide +kernel
theorem dT_init_90 : decode prog_1_method_1_code 90 = .ok (.aconst_null, 1) := by decide +kernel
theorem dT_init_91 : decode prog_1_method_1_code 91 = .ok (.iconst 0, 1) := by decide +kernel
theorem dT_init_92 : decode prog_1_method_1_code 92 = .ok (.anewarray 9, 3) := by decide +kernel
theorem dT_init_95 : decode prog_1_method_1_code 95 = .ok (.aconst_null, 1) := by decide +kernel
theorem dT_init_96 : decode prog_1_method_1_code 96 = .ok (.invokespecial 41, 3) := by decide +kernel
theorem dT_init_99 : decode prog_1_method_1_code 99 = .ok (.astore_n 1, 1) := by decide +kernel
theorem dT_init_100 : decode prog_1_method_1_code 100 = .ok (.aload_n 0, 1) := by decide +kernel
theorem dT_init_101 : decode prog_1_method_1_code 101 = .ok (.getfield 23, 3) := by decide +kernel
theorem dT_init_104 : decode prog_1_method_1_code 104 = .ok (.iconst 0, 1) := by decide +kernel
theorem dT_init_105 : decode prog_1_method_1_code 105 = .ok (.aload_n 1, 1) := by decide +kernel
theorem dT_init_106 : decode prog_1_method_1_code 106 = .ok (.aastore, 1) := by decide +kernel
theorem dT_init_107 : decode prog_1_method_1_code 107 = .ok (.iconst 0, 1) := by decide +kernel
theorem dT_init_108 : decode prog_1_method_1_code 108 = .ok (.istore_n 2, 1) := by decide +kernel
theorem dT_init_109 : decode prog_1_method_1_code 109 = .ok (.iload_n 2, 1) := by decide +kernel
theorem dT_init_110 : decode prog_1_method_1_code 110 = .ok (.bipush 8, 2) := by decide +kernel
theorem dT_init_112 : decode prog_1_method_1_code 112 = .ok (.if_icmp .ge 27, 3) := by decide +kernel
theorem dT_init_115 : decode prog_1_method_1_code 115 = .ok (.aload_n 0, 1) := by decide +kernel
theorem dT_init_116 : decode prog_1_method_1_code 116 = .ok (.getfield 29, 3) := by decide +kernel
theorem dT_init_119 : decode prog_1_method_1_code 119 = .ok (.iload_n 2, 1) := by decide +kernel
theorem dT_init_120 : decode prog_1_method_1_code 120 = .ok (.new 27, 3) := by decide +kernel
theorem dT_init_123 : decode prog_1_method_1_code 123 = .ok (.dup, 1) := by decide +kernel
theorem dT_init_124 : decode prog_1_method_1_code 124 = .ok (.iload_n 2, 1) := by decide +kernel
theorem dT_init_125 : decode prog_1_method_1_code 125 = .ok (.iload_n 2, 1) := by decide +kernel
theorem dT_init_126 : decode prog_1_method_1_code 126 = .ok (.iconst 0, 1) := by decide +kernel
theorem dT_init_127 : decode prog_1_method_1_code 127 = .ok (.aload_n 1, 1) := by decide +kernel
theorem dT_init_128 : decode prog_1_method_1_code 128 = .ok (.aconst_null, 1) := by decide +kernel
theorem dT_init_129 : decode prog_1_method_1_code 129 = .ok (.invokespecial 44, 3) := by decide +kernel
theorem dT_init_132 : decode prog_1_method_1_code 132 = .ok (.aastore, 1) := by decide +kernel
theorem dT_init_133 : decode prog_1_method_1_code 133 = .ok (.iinc 2 1, 3) := by decide +kernel
theorem dT_init_136 : decode prog_1_method_1_code 136 = .ok (.goto (-27), 3) := by decide +kernel
theorem dT_init_139 : decode prog_1_method_1_code 139 = .ok (.aload_n 0, 1) := by decide +kernel
theorem dT_init_140 : decode prog_1_method_1_code 140 = .ok (.bipush 8, 2) := by decide +kernel
theorem dT_init_142 : decode prog_1_method_1_code 142 = .ok (.putfield 47, 3) := by decide +kernel
theorem dT_init_145 : decode prog_1_method_1_code 145 = .ok (.new 15, 3) := by decide +kernel
theorem dT_init_148 : decode prog_1_method_1_code 148 = .ok (.dup, 1) := by decide +kernel
theorem dT_init_149 : decode prog_1_method_1_code 149 = .ok (.aconst_null, 1) := by decide +kernel
theorem dT_init_150 : decode prog_1_method_1_code 150 = .ok (.invokespecial 51, 3) := by decide +kernel
theorem dT_init_153 : decode prog_1_method_1_code 153 = .ok (.astore_n 2, 1) := by decide +kernel
theorem dT_init_154 : decode prog_1_method_1_code 154 = .ok (.aload_n 2, 1) := by decide +kernel
theorem dT_init_155 : decode prog_1_method_1_code 155 = .ok (.getstatic 54, 3) := by decide +kernel
theorem dT_init_158 : decode prog_1_method_1_code 158 = .ok (.putfield 60, 3) := by decide +kernel
theorem dT_init_161 : decode prog_1_method_1_code 161 = .ok (.aload_n 2, 1) := by decide +kernel
theorem dT_init_162 : decode prog_1_method_1_code 162 = .ok (.aload_n 1, 1) := by decide +kernel
theorem dT_init_163 : decode prog_1_method_1_code 163 = .ok (.putfield 63, 3) := by decide +kernel
theorem dT_init_166 : decode prog_1_method_1_code 166 = .ok (.aload_n 2, 1) := by decide +kernel
theorem dT_init_167 : decode prog_1_method_1_code 167 = .ok (.aload_n 1, 1) := by decide +kernel
theorem dT_init_168 : decode prog_1_method_1_code 168 = .ok (.putfield 67, 3) := by decide +kernel
theorem dT_init_171 : decode prog_1_method_1_code 171 = .ok (.aload_n 1, 1) := by decide +kernel
theorem dT_init_172 : decode prog_1_method_1_code 172 = .ok (.iconst 2, 1) := by decide +kernel
theorem dT_init_173 : decode prog_1_method_1_code 173 = .ok (.putfield 70, 3) := by decide +kernel
theorem dT_init_176 : decode prog_1_method_1_code 176 = .ok (.aload_n 0, 1) := by decide +kernel
theorem dT_init_177 : decode prog_1_method_1_code 177 = .ok (.getfield 17, 3) := by decide +kernel
theorem dT_init_180 : decode prog_1_method_1_code 180 = .ok (.iconst 0, 1) := by decide +kernel
theorem dT_init_181 : decode prog_1_method_1_code 181 = .ok (.aload_n 2, 1) := by decide +kernel
theorem dT_init_182 : decode prog_1_method_1_code 182 = .ok (.aastore, 1) := by decide +kernel
theorem dT_init_183 : decode prog_1_method_1_code 183 = .ok (.aload_n 0, 1) := by decide +kernel
theorem dT_init_184 : decode prog_1_method_1_code 184 = .ok (.iconst 1, 1) := by decide +kernel
theorem dT_init_185 : decode prog_1_method_1_code 185 = .ok (.putfield 73, 3) := by decide +kernel
theorem dT_init_188 : decode prog_1_method_1_code 188 = .ok (.return_, 1) := by decide +kernel
theorem dT_file_0 : decode prog_1_method_2_code 0 = .ok (.aload_n 0, 1) := by decide +kernel
theorem dT_file_1 : decode prog_1_method_2_code 1 = .ok (.iload_n 1, 1) := by decide +kernel
theorem dT_file_2 : decode prog_1_method_2_code 2 = .ok (.invokevirtual 76, 3) := by decide +kernel
theorem dT_file_5 : decode prog_1_method_2_code 5 = .ok (.astore 5, 2) := by decide +kernel
theorem dT_file_7 : decode prog_1_method_2_code 7 = .ok (.iload_n 2, 1) := by decide +kernel
theorem dT_file_8 : decode prog_1_method_2_code 8 = .ok (.bipush 64, 2) := by decide +kernel
theorem dT_file_10 : decode prog_1_method_2_code 10 = .ok (.invokestatic 80, 3) := by decide +kernel
theorem dT_file_13 : decode prog_1_method_2_code 13 = .ok (.ifCond .eq 9, 3) := by decide +kernel
theorem dT_file_16 : decode prog_1_method_2_code 16 = .ok (.iload_n 2, 1) := by decide +kernel
theorem dT_file_17 : decode prog_1_method_2_code 17 = .ok (.bipush 8, 2) := by decide +kernel
theorem dT_file_19 : decode prog_1_method_2_code 19 = .ok (.if_icmp .ge 13, 3) := by decide +kernel
theorem dT_file_22 : decode prog_1_method_2_code 22 = .ok (.new 84, 3) := by decide +kernel
theorem dT_file_25 : decode prog_1_method_2_code 25 = .ok (.dup, 1) := by decide +kernel
theorem dT_file_26 : decode prog_1_method_2_code 26 = .ok (.ldc 86, 2) := by decide +kernel
theorem dT_file_28 : decode prog_1_method_2_code 28 = .ok (.invokespecial 88, 3) := by decide +kernel
theorem dT_file_31 : decode prog_1_method_2_code 31 = .ok (.athrow, 1) := by decide +kernel
theorem dT_file_32 : decode prog_1_method_2_code 32 = .ok (.iload_n 3, 1) := by decide +kernel
theorem dT_file_33 : decode prog_1_method_2_code 33 = .ok (.bipush 64, 2) := by decide +kernel
theorem dT_file_35 : decode prog_1_method_2_code 35 = .ok (.invokestatic 80, 3) := by decide +kernel
theorem dT_file_38 : decode prog_1_method_2_code 38 = .ok (.ifCond .eq 13, 3) := by decide +kernel
theorem dT_file_41 : decode prog_1_method_2_code 41 = .ok (.iload 4, 2) := by decide +kernel
theorem dT_file_43 : decode prog_1_method_2_code 43 = .ok (.bipush 10, 2) := by decide +kernel
theorem dT_file_45 : decode prog_1_method_2_code 45 = .ok (.invokestatic 80, 3) := by decide +kernel
theorem dT_file_48 : decode prog_1_method_2_code 48 = .ok (.ifCond .ne 13, 3) := by decide +kernel
theorem dT_file_51 : decode prog_1_method_2_code 51 = .ok (.new 84, 3) := by decide +kernel
theorem dT_file_54 : decode prog_1_method_2_code 54 = .ok (.dup, 1) := by decide +kernel
theorem dT_file_55 : decode prog_1_method_2_code 55 = .ok (.ldc 91, 2) := by decide +kernel
theorem dT_file_57 : decode prog_1_method_2_code 57 = .ok (.invokespecial 88, 3) := by decide +kernel
theorem dT_file_60 : decode prog_1_method_2_code 60 = .ok (.athrow, 1) := by decide +kernel
theorem dT_file_61 : decode prog_1_method_2_code 61 = .ok (.aload 5, 2) := by decide +kernel
theorem dT_file_63 : decode prog_1_method_2_code 63 = .ok (.new 93, 3) := by decide +kernel
theorem dT_file_66 : decode prog_1_method_2_code 66 = .ok (.dup, 1) := by decide +kernel
theorem dT_file_67 : decode prog_1_method_2_code 67 = .ok (.iload_n 2, 1) := by decide +kernel
theorem dT_file_68 : decode prog_1_method_2_code 68 = .ok (.iload_n 3, 1) := by decide +kernel
theorem dT_file_69 : decode prog_1_method_2_code 69 = .ok (.iload 4, 2) := by decide +kernel
theorem dT_file_71 : decode prog_1_method_2_code 71 = .ok (.invokespecial 95, 3) := by decide +kernel
theorem dT_file_74 : decode prog_1_method_2_code 74 = .ok (.invokevirtual 98, 3) := by decide +kernel
theorem dT_file_77 : decode prog_1_method_2_code 77 = .ok (.ifCond .ne 13, 3) := by decide +kernel
theorem dT_file_80 : decode prog_1_method_2_code 80 = .ok (.new 102, 3) := by decide +kernel
theorem dT_file_83 : decode prog_1_method_2_code 83 = .ok (.dup, 1) := by decide +kernel
theorem dT_file_84 : decode prog_1_method_2_code 84 = .ok (.ldc 104, 2) := by decide +kernel
theorem dT_file_86 : decode prog_1_method_2_code 86 = .ok (.invokespecial 106, 3) := by decide +kernel
theorem dT_file_89 : decode prog_1_method_2_code 89 = .ok (.athrow, 1) := by decide +kernel
theorem dT_file_90 : decode prog_1_method_2_code 90 = .ok (.aload 5, 2) := by decide +kernel
theorem dT_file_92 : decode prog_1_method_2_code 92 = .ok (.getfield 107, 3) := by decide +kernel
theorem dT_file_95 : decode prog_1_method_2_code 95 = .ok (.ireturn, 1) := by decide +kernel
theorem dT_descriptor_0 : decode prog_1_method_3_code 0 = .ok (.aload_n 0, 1) := by decide +kernel
theorem dT_descriptor_1 : decode prog_1_method_3_code 1 = .ok (.iload_n 1, 1) := by decide +kernel
theorem dT_descriptor_2 : decode prog_1_method_3_code 2 = .ok (.invokevirtual 76, 3) := by decide +kernel
theorem dT_descriptor_5 : decode prog_1_method_3_code 5 = .ok (.astore 4, 2) := by decide +kernel
theorem dT_descriptor_7 : decode prog_1_method_3_code 7 = .ok (.iload_n 2, 1) := by decide +kernel
theorem dT_descriptor_8 : decode prog_1_method_3_code 8 = .ok (.bipush 10, 2) := by decide +kernel
theorem dT_descriptor_10 : decode prog_1_method_3_code 10 = .ok (.invokestatic 80, 3) := by decide +kernel
theorem dT_descriptor_13 : decode prog_1_method_3_code 13 = .ok (.ifCond .eq 12, 3) := by decide +kernel
theorem dT_descriptor_16 : decode prog_1_method_3_code 16 = .ok (.iload_n 3, 1) := by decide +kernel
theorem dT_descriptor_17 : decode prog_1_method_3_code 17 = .ok (.bipush 64, 2) := by decide +kernel
theorem dT_descriptor_19 : decode prog_1_method_3_code 19 = .ok (.invokestatic 80, 3) := by decide +kernel
theorem dT_descriptor_22 : decode prog_1_method_3_code 22 = .ok (.ifCond .ne 13, 3) := by decide +kernel
theorem dT_descriptor_25 : decode prog_1_method_3_code 25 = .ok (.new 84, 3) := by decide +kernel
theorem dT_descriptor_28 : decode prog_1_method_3_code 28 = .ok (.dup, 1) := by decide +kernel
theorem dT_descriptor_29 : decode prog_1_method_3_code 29 = .ok (.ldc 110, 2) := by decide +kernel
theorem dT_descriptor_31 : decode prog_1_method_3_code 31 = .ok (.invokespecial 88, 3) := by decide +kernel
theorem dT_descriptor_34 : decode prog_1_method_3_code 34 = .ok (.athrow, 1) := by decide +kernel
theorem dT_descriptor_35 : decode prog_1_method_3_code 35 = .ok (.aload 4, 2) := by decide +kernel
theorem dT_descriptor_37 : decode prog_1_method_3_code 37 = .ok (.new 112, 3) := by decide +kernel
theorem dT_descriptor_40 : decode prog_1_method_3_code 40 = .ok (.dup, 1) := by decide +kernel
theorem dT_descriptor_41 : decode prog_1_method_3_code 41 = .ok (.iload_n 2, 1) := by decide +kernel
theorem dT_descriptor_42 : decode prog_1_method_3_code 42 = .ok (.iload_n 3, 1) := by decide +kernel
theorem dT_descriptor_43 : decode prog_1_method_3_code 43 = .ok (.invokespecial 114, 3) := by decide +kernel
theorem dT_descriptor_46 : decode prog_1_method_3_code 46 = .ok (.invokevirtual 117, 3) := by decide +kernel
theorem dT_descriptor_49 : decode prog_1_method_3_code 49 = .ok (.ifCond .ne 13, 3) := by decide +kernel
theorem dT_descriptor_52 : decode prog_1_method_3_code 52 = .ok (.new 102, 3) := by decide +kernel
theorem dT_descriptor_55 : decode prog_1_method_3_code 55 = .ok (.dup, 1) := by decide +kernel
theorem dT_descriptor_56 : decode prog_1_method_3_code 56 = .ok (.ldc 121, 2) := by decide +kernel
theorem dT_descriptor_58 : decode prog_1_method_3_code 58 = .ok (.invokespecial 106, 3) := by decide +kernel
theorem dT_descriptor_61 : decode prog_1_method_3_code 61 = .ok (.athrow, 1) := by decide +kernel
theorem dT_descriptor_62 : decode prog_1_method_3_code 62 = .ok (.aload 4, 2) := by decide +kernel
theorem dT_descriptor_64 : decode prog_1_method_3_code 64 = .ok (.getfield 123, 3) := by decide +kernel
theorem dT_descriptor_67 : decode prog_1_method_3_code 67 = .ok (.ireturn, 1) := by decide +kernel
theorem dT_wipe_0 : decode prog_1_method_4_code 0 = .ok (.aload_n 0, 1) := by decide +kernel
theorem dT_wipe_1 : decode prog_1_method_4_code 1 = .ok (.iload_n 1, 1) := by decide +kernel
theorem dT_wipe_2 : decode prog_1_method_4_code 2 = .ok (.invokevirtual 76, 3) := by decide +kernel
theorem dT_wipe_5 : decode prog_1_method_4_code 5 = .ok (.astore_n 2, 1) := by decide +kernel
theorem dT_wipe_6 : decode prog_1_method_4_code 6 = .ok (.aload_n 2, 1) := by decide +kernel
theorem dT_wipe_7 : decode prog_1_method_4_code 7 = .ok (.iconst 0, 1) := by decide +kernel
theorem dT_wipe_8 : decode prog_1_method_4_code 8 = .ok (.putfield 107, 3) := by decide +kernel
theorem dT_wipe_11 : decode prog_1_method_4_code 11 = .ok (.aload_n 2, 1) := by decide +kernel
theorem dT_wipe_12 : decode prog_1_method_4_code 12 = .ok (.iconst 0, 1) := by decide +kernel
theorem dT_wipe_13 : decode prog_1_method_4_code 13 = .ok (.putfield 123, 3) := by decide +kernel
theorem dT_wipe_16 : decode prog_1_method_4_code 16 = .ok (.return_, 1) := by decide +kernel
theorem dT_child_0 : decode prog_1_method_5_code 0 = .ok (.aload_n 0, 1) := by decide +kernel
theorem dT_child_1 : decode prog_1_method_5_code 1 = .ok (.iload_n 1, 1) := by decide +kernel
theorem dT_child_2 : decode prog_1_method_5_code 2 = .ok (.invokevirtual 126, 3) := by decide +kernel
theorem dT_child_5 : decode prog_1_method_5_code 5 = .ok (.astore_n 2, 1) := by decide +kernel
theorem dT_child_6 : decode prog_1_method_5_code 6 = .ok (.aload_n 2, 1) := by decide +kernel
theorem dT_child_7 : decode prog_1_method_5_code 7 = .ok (.getfield 60, 3) := by decide +kernel
theorem dT_child_10 : decode prog_1_method_5_code 10 = .ok (.getstatic 130, 3) := by decide +kernel
theorem dT_child_13 : decode prog_1_method_5_code 13 = .ok (.if_acmp .ne 13, 3) := by decide +kernel
theorem dT_child_16 : decode prog_1_method_5_code 16 = .ok (.new 84, 3) := by decide +kernel
theorem dT_child_19 : decode prog_1_method_5_code 19 = .ok (.dup, 1) := by decide +kernel
theorem dT_child_20 : decode prog_1_method_5_code 20 = .ok (.ldc 133, 2) := by decide +kernel
theorem dT_child_22 : decode prog_1_method_5_code 22 = .ok (.invokespecial 88, 3) := by decide +kernel
theorem dT_child_25 : decode prog_1_method_5_code 25 = .ok (.athrow, 1) := by decide +kernel
theorem dT_child_26 : decode prog_1_method_5_code 26 = .ok (.aload_n 0, 1) := by decide +kernel
theorem dT_child_27 : decode prog_1_method_5_code 27 = .ok (.getfield 73, 3) := by decide +kernel
theorem dT_child_30 : decode prog_1_method_5_code 30 = .ok (.bipush 12, 2) := by decide +kernel
theorem dT_child_32 : decode prog_1_method_5_code 32 = .ok (.if_icmp .lt 13, 3) := by decide +kernel
theorem dT_child_35 : decode prog_1_method_5_code 35 = .ok (.new 102, 3) := by decide +kernel
theorem dT_child_38 : decode prog_1_method_5_code 38 = .ok (.dup, 1) := by decide +kernel
theorem dT_child_39 : decode prog_1_method_5_code 39 = .ok (.ldc 135, 2) := by decide +kernel
theorem dT_child_41 : decode prog_1_method_5_code 41 = .ok (.invokespecial 106, 3) := by decide +kernel
theorem dT_child_44 : decode prog_1_method_5_code 44 = .ok (.athrow, 1) := by decide +kernel
theorem dT_child_45 : decode prog_1_method_5_code 45 = .ok (.aload_n 0, 1) := by decide +kernel
theorem dT_child_46 : decode prog_1_method_5_code 46 = .ok (.getfield 17, 3) := by decide +kernel
theorem dT_child_49 : decode prog_1_method_5_code 49 = .ok (.aload_n 0, 1) := by decide +kernel
theorem dT_child_50 : decode prog_1_method_5_code 50 = .ok (.getfield 73, 3) := by decide +kernel
theorem dT_child_53 : decode prog_1_method_5_code 53 = .ok (.new 15, 3) := by decide +kernel
theorem dT_child_56 : decode prog_1_method_5_code 56 = .ok (.dup, 1) := by decide +kernel
theorem dT_child_57 : decode prog_1_method_5_code 57 = .ok (.aload_n 2, 1) := by decide +kernel
theorem dT_child_58 : decode prog_1_method_5_code 58 = .ok (.invokespecial 51, 3) := by decide +kernel
theorem dT_child_61 : decode prog_1_method_5_code 61 = .ok (.aastore, 1) := by decide +kernel
theorem dT_child_62 : decode prog_1_method_5_code 62 = .ok (.aload_n 0, 1) := by decide +kernel
theorem dT_child_63 : decode prog_1_method_5_code 63 = .ok (.dup, 1) := by decide +kernel
theorem dT_child_64 : decode prog_1_method_5_code 64 = .ok (.getfield 73, 3) := by decide +kernel
theorem dT_child_67 : decode prog_1_method_5_code 67 = .ok (.iconst 1, 1) := by decide +kernel
theorem dT_child_68 : decode prog_1_method_5_code 68 = .ok (.iadd, 1) := by decide +kernel
theorem dT_child_69 : decode prog_1_method_5_code 69 = .ok (.putfield 73, 3) := by decide +kernel
theorem dT_child_72 : decode prog_1_method_5_code 72 = .ok (.aload_n 0, 1) := by decide +kernel
theorem dT_child_73 : decode prog_1_method_5_code 73 = .ok (.getfield 73, 3) := by decide +kernel
theorem dT_child_76 : decode prog_1_method_5_code 76 = .ok (.iconst 1, 1) := by decide +kernel
theorem dT_child_77 : decode prog_1_method_5_code 77 = .ok (.isub, 1) := by decide +kernel
theorem dT_child_78 : decode prog_1_method_5_code 78 = .ok (.ireturn, 1) := by decide +kernel
theorem dT_add_0 : decode prog_1_method_6_code 0 = .ok (.aload_n 0, 1) := by decide +kernel
theorem dT_add_1 : decode prog_1_method_6_code 1 = .ok (.iload_n 1, 1) := by decide +kernel
theorem dT_add_2 : decode prog_1_method_6_code 2 = .ok (.invokevirtual 126, 3) := by decide +kernel
theorem dT_add_5 : decode prog_1_method_6_code 5 = .ok (.astore 4, 2) := by decide +kernel
theorem dT_add_7 : decode prog_1_method_6_code 7 = .ok (.iload_n 2, 1) := by decide +kernel
theorem dT_add_8 : decode prog_1_method_6_code 8 = .ok (.bipush 10, 2) := by decide +kernel
theorem dT_add_10 : decode prog_1_method_6_code 10 = .ok (.invokestatic 80, 3) := by decide +kernel
theorem dT_add_13 : decode prog_1_method_6_code 13 = .ok (.ifCond .ne 13, 3) := by decide +kernel
theorem dT_add_16 : decode prog_1_method_6_code 16 = .ok (.new 84, 3) := by decide +kernel
theorem dT_add_19 : decode prog_1_method_6_code 19 = .ok (.dup, 1) := by decide +kernel
theorem dT_add_20 : decode prog_1_method_6_code 20 = .ok (.ldc 137, 2) := by decide +kernel
theorem dT_add_22 : decode prog_1_method_6_code 22 = .ok (.invokespecial 88, 3) := by decide +kernel
theorem dT_add_25 : decode prog_1_method_6_code 25 = .ok (.athrow, 1) := by decide +kernel
theorem dT_add_26 : decode prog_1_method_6_code 26 = .ok (.aload 4, 2) := by decide +kernel
theorem dT_add_28 : decode prog_1_method_6_code 28 = .ok (.invokestatic 139, 3) := by decide +kernel
theorem dT_add_31 : decode prog_1_method_6_code 31 = .ok (.iload_n 3, 1) := by decide +kernel
theorem dT_add_32 : decode prog_1_method_6_code 32 = .ok (.ifCond .eq 15, 3) := by decide +kernel
theorem dT_add_35 : decode prog_1_method_6_code 35 = .ok (.aload 4, 2) := by decide +kernel
theorem dT_add_37 : decode prog_1_method_6_code 37 = .ok (.getfield 142, 3) := by decide +kernel
theorem dT_add_40 : decode prog_1_method_6_code 40 = .ok (.iload_n 2, 1) := by decide +kernel
theorem dT_add_41 : decode prog_1_method_6_code 41 = .ok (.invokevirtual 146, 3) := by decide +kernel
theorem dT_add_44 : decode prog_1_method_6_code 44 = .ok (.goto 12, 3) := by decide +kernel
theorem dT_add_47 : decode prog_1_method_6_code 47 = .ok (.aload 4, 2) := by decide +kernel
theorem dT_add_49 : decode prog_1_method_6_code 49 = .ok (.getfield 152, 3) := by decide +kernel
theorem dT_add_52 : decode prog_1_method_6_code 52 = .ok (.iload_n 2, 1) := by decide +kernel
theorem dT_add_53 : decode prog_1_method_6_code 53 = .ok (.invokevirtual 146, 3) := by decide +kernel
theorem dT_add_56 : decode prog_1_method_6_code 56 = .ok (.ireturn, 1) := by decide +kernel
theorem dT_filter_0 : decode prog_1_method_7_code 0 = .ok (.aload_n 0, 1) := by decide +kernel
theorem dT_filter_1 : decode prog_1_method_7_code 1 = .ok (.iload_n 1, 1) := by decide +kernel
theorem dT_filter_2 : decode prog_1_method_7_code 2 = .ok (.invokevirtual 126, 3) := by decide +kernel
theorem dT_filter_5 : decode prog_1_method_7_code 5 = .ok (.astore 7, 2) := by decide +kernel
theorem dT_filter_7 : decode prog_1_method_7_code 7 = .ok (.iload_n 2, 1) := by decide +kernel
theorem dT_filter_8 : decode prog_1_method_7_code 8 = .ok (.sipush 256, 3) := by decide +kernel
theorem dT_filter_11 : decode prog_1_method_7_code 11 = .ok (.invokestatic 80, 3) := by decide +kernel
theorem dT_filter_14 : decode prog_1_method_7_code 14 = .ok (.ifCond .ne 13, 3) := by decide +kernel
theorem dT_filter_17 : decode prog_1_method_7_code 17 = .ok (.new 84, 3) := by decide +kernel
theorem dT_filter_20 : decode prog_1_method_7_code 20 = .ok (.dup, 1) := by decide +kernel
theorem dT_filter_21 : decode prog_1_method_7_code 21 = .ok (.ldc 155, 2) := by decide +kernel
theorem dT_filter_23 : decode prog_1_method_7_code 23 = .ok (.invokespecial 88, 3) := by decide +kernel
theorem dT_filter_26 : decode prog_1_method_7_code 26 = .ok (.athrow, 1) := by decide +kernel
theorem dT_filter_27 : decode prog_1_method_7_code 27 = .ok (.aload 7, 2) := by decide +kernel
theorem dT_filter_29 : decode prog_1_method_7_code 29 = .ok (.invokestatic 139, 3) := by decide +kernel
theorem dT_filter_32 : decode prog_1_method_7_code 32 = .ok (.aload 7, 2) := by decide +kernel
theorem dT_filter_34 : decode prog_1_method_7_code 34 = .ok (.new 157, 3) := by decide +kernel
theorem dT_filter_37 : decode prog_1_method_7_code 37 = .ok (.dup, 1) := by decide +kernel
theorem dT_filter_38 : decode prog_1_method_7_code 38 = .ok (.iload_n 2, 1) := by decide +kernel
theorem dT_filter_39 : decode prog_1_method_7_code 39 = .ok (.lload_n 3, 1) := by decide +kernel
theorem dT_filter_40 : decode prog_1_method_7_code 40 = .ok (.lload 5, 2) := by decide +kernel
theorem dT_filter_42 : decode prog_1_method_7_code 42 = .ok (.invokespecial 159, 3) := by decide +kernel
theorem dT_filter_45 : decode prog_1_method_7_code 45 = .ok (.putfield 162, 3) := by decide +kernel
theorem dT_filter_48 : decode prog_1_method_7_code 48 = .ok (.return_, 1) := by decide +kernel
theorem dT_lock_0 : decode prog_1_method_8_code 0 = .ok (.aload_n 0, 1) := by decide +kernel
theorem dT_lock_1 : decode prog_1_method_8_code 1 = .ok (.iload_n 1, 1) := by decide +kernel
theorem dT_lock_2 : decode prog_1_method_8_code 2 = .ok (.invokevirtual 126, 3) := by decide +kernel
theorem dT_lock_5 : decode prog_1_method_8_code 5 = .ok (.astore_n 2, 1) := by decide +kernel
theorem dT_lock_6 : decode prog_1_method_8_code 6 = .ok (.aload_n 2, 1) := by decide +kernel
theorem dT_lock_7 : decode prog_1_method_8_code 7 = .ok (.invokestatic 139, 3) := by decide +kernel
theorem dT_lock_10 : decode prog_1_method_8_code 10 = .ok (.aload_n 2, 1) := by decide +kernel
theorem dT_lock_11 : decode prog_1_method_8_code 11 = .ok (.getfield 166, 3) := by decide +kernel
theorem dT_lock_14 : decode prog_1_method_8_code 14 = .ok (.astore_n 3, 1) := by decide +kernel
theorem dT_lock_15 : decode prog_1_method_8_code 15 = .ok (.aload_n 3, 1) := by decide +kernel
theorem dT_lock_16 : decode prog_1_method_8_code 16 = .ok (.ifnull 13, 3) := by decide +kernel
theorem dT_lock_19 : decode prog_1_method_8_code 19 = .ok (.aload_n 3, 1) := by decide +kernel
theorem dT_lock_20 : decode prog_1_method_8_code 20 = .ok (.getfield 60, 3) := by decide +kernel
theorem dT_lock_23 : decode prog_1_method_8_code 23 = .ok (.getstatic 54, 3) := by decide +kernel
theorem dT_lock_26 : decode prog_1_method_8_code 26 = .ok (.if_acmp .eq 13, 3) := by decide +kernel
theorem dT_lock_29 : decode prog_1_method_8_code 29 = .ok (.new 102, 3) := by decide +kernel
theorem dT_lock_32 : decode prog_1_method_8_code 32 = .ok (.dup, 1) := by decide +kernel
theorem dT_lock_33 : decode prog_1_method_8_code 33 = .ok (.ldc 170, 2) := by decide +kernel
theorem dT_lock_35 : decode prog_1_method_8_code 35 = .ok (.invokespecial 106, 3) := by decide +kernel
theorem dT_lock_38 : decode prog_1_method_8_code 38 = .ok (.athrow, 1) := by decide +kernel
theorem dT_lock_39 : decode prog_1_method_8_code 39 = .ok (.aload_n 0, 1) := by decide +kernel
theorem dT_lock_40 : decode prog_1_method_8_code 40 = .ok (.invokevirtual 172, 3) := by decide +kernel
theorem dT_lock_43 : decode prog_1_method_8_code 43 = .ok (.iconst 3, 1) := by decide +kernel
theorem dT_lock_44 : decode prog_1_method_8_code 44 = .ok (.if_icmp .ge 13, 3) := by decide +kernel
theorem dT_lock_47 : decode prog_1_method_8_code 47 = .ok (.new 176, 3) := by decide +kernel
theorem dT_lock_50 : decode prog_1_method_8_code 50 = .ok (.dup, 1) := by decide +kernel
theorem dT_lock_51 : decode prog_1_method_8_code 51 = .ok (.ldc 178, 2) := by decide +kernel
theorem dT_lock_53 : decode prog_1_method_8_code 53 = .ok (.invokespecial 180, 3) := by decide +kernel
theorem dT_lock_56 : decode prog_1_method_8_code 56 = .ok (.athrow, 1) := by decide +kernel
theorem dT_lock_57 : decode prog_1_method_8_code 57 = .ok (.aload_n 2, 1) := by decide +kernel
theorem dT_lock_58 : decode prog_1_method_8_code 58 = .ok (.aload_n 0, 1) := by decide +kernel
theorem dT_lock_59 : decode prog_1_method_8_code 59 = .ok (.aload_n 2, 1) := by decide +kernel
theorem dT_lock_60 : decode prog_1_method_8_code 60 = .ok (.getfield 142, 3) := by decide +kernel
theorem dT_lock_63 : decode prog_1_method_8_code 63 = .ok (.aload_n 3, 1) := by decide +kernel
theorem dT_lock_64 : decode prog_1_method_8_code 64 = .ok (.getfield 63, 3) := by decide +kernel
theorem dT_lock_67 : decode prog_1_method_8_code 67 = .ok (.invokevirtual 181, 3) := by decide +kernel
theorem dT_lock_70 : decode prog_1_method_8_code 70 = .ok (.putfield 185, 3) := by decide +kernel
theorem dT_lock_73 : decode prog_1_method_8_code 73 = .ok (.aload_n 2, 1) := by decide +kernel
theorem dT_lock_74 : decode prog_1_method_8_code 74 = .ok (.aload_n 0, 1) := by decide +kernel
theorem dT_lock_75 : decode prog_1_method_8_code 75 = .ok (.aload_n 2, 1) := by decide +kernel
theorem dT_lock_76 : decode prog_1_method_8_code 76 = .ok (.getfield 162, 3) := by decide +kernel
theorem dT_lock_79 : decode prog_1_method_8_code 79 = .ok (.aload_n 2, 1) := by decide +kernel
theorem dT_lock_80 : decode prog_1_method_8_code 80 = .ok (.getfield 185, 3) := by decide +kernel
theorem dT_lock_83 : decode prog_1_method_8_code 83 = .ok (.invokevirtual 188, 3) := by decide +kernel
theorem dT_lock_86 : decode prog_1_method_8_code 86 = .ok (.putfield 63, 3) := by decide +kernel
theorem dT_lock_89 : decode prog_1_method_8_code 89 = .ok (.aload_n 2, 1) := by decide +kernel
theorem dT_lock_90 : decode prog_1_method_8_code 90 = .ok (.aload_n 0, 1) := by decide +kernel
theorem dT_lock_91 : decode prog_1_method_8_code 91 = .ok (.aload_n 2, 1) := by decide +kernel
theorem dT_lock_92 : decode prog_1_method_8_code 92 = .ok (.getfield 152, 3) := by decide +kernel
theorem dT_lock_95 : decode prog_1_method_8_code 95 = .ok (.aload_n 2, 1) := by decide +kernel
theorem dT_lock_96 : decode prog_1_method_8_code 96 = .ok (.getfield 185, 3) := by decide +kernel
theorem dT_lock_99 : decode prog_1_method_8_code 99 = .ok (.invokevirtual 181, 3) := by decide +kernel
theorem dT_lock_102 : decode prog_1_method_8_code 102 = .ok (.putfield 67, 3) := by decide +kernel
theorem dT_lock_105 : decode prog_1_method_8_code 105 = .ok (.aload_n 2, 1) := by decide +kernel
theorem dT_lock_106 : decode prog_1_method_8_code 106 = .ok (.getfield 185, 3) := by decide +kernel
theorem dT_lock_109 : decode prog_1_method_8_code 109 = .ok (.dup, 1) := by decide +kernel
theorem dT_lock_110 : decode prog_1_method_8_code 110 = .ok (.getfield 70, 3) := by decide +kernel
theorem dT_lock_113 : decode prog_1_method_8_code 113 = .ok (.iconst 1, 1) := by decide +kernel
theorem dT_lock_114 : decode prog_1_method_8_code 114 = .ok (.iadd, 1) := by decide +kernel
theorem dT_lock_115 : decode prog_1_method_8_code 115 = .ok (.putfield 70, 3) := by decide +kernel
theorem dT_lock_118 : decode prog_1_method_8_code 118 = .ok (.aload_n 2, 1) := by decide +kernel
theorem dT_lock_119 : decode prog_1_method_8_code 119 = .ok (.getfield 63, 3) := by decide +kernel
theorem dT_lock_122 : decode prog_1_method_8_code 122 = .ok (.dup, 1) := by decide +kernel
theorem dT_lock_123 : decode prog_1_method_8_code 123 = .ok (.getfield 70, 3) := by decide +kernel
theorem dT_lock_126 : decode prog_1_method_8_code 126 = .ok (.iconst 1, 1) := by decide +kernel
theorem dT_lock_127 : decode prog_1_method_8_code 127 = .ok (.iadd, 1) := by decide +kernel
theorem dT_lock_128 : decode prog_1_method_8_code 128 = .ok (.putfield 70, 3) := by decide +kernel
theorem dT_lock_131 : decode prog_1_method_8_code 131 = .ok (.aload_n 2, 1) := by decide +kernel
theorem dT_lock_132 : decode prog_1_method_8_code 132 = .ok (.getfield 67, 3) := by decide +kernel
theorem dT_lock_135 : decode prog_1_method_8_code 135 = .ok (.dup, 1) := by decide +kernel
theorem dT_lock_136 : decode prog_1_method_8_code 136 = .ok (.getfield 70, 3) := by decide +kernel
theorem dT_lock_139 : decode prog_1_method_8_code 139 = .ok (.iconst 1, 1) := by decide +kernel
theorem dT_lock_140 : decode prog_1_method_8_code 140 = .ok (.iadd, 1) := by decide +kernel
theorem dT_lock_141 : decode prog_1_method_8_code 141 = .ok (.putfield 70, 3) := by decide +kernel
theorem dT_lock_144 : decode prog_1_method_8_code 144 = .ok (.aload_n 2, 1) := by decide +kernel
theorem dT_lock_145 : decode prog_1_method_8_code 145 = .ok (.getstatic 54, 3) := by decide +kernel
theorem dT_lock_148 : decode prog_1_method_8_code 148 = .ok (.putfield 60, 3) := by decide +kernel
theorem dT_lock_151 : decode prog_1_method_8_code 151 = .ok (.aload_n 2, 1) := by decide +kernel
theorem dT_lock_152 : decode prog_1_method_8_code 152 = .ok (.getfield 67, 3) := by decide +kernel
theorem dT_lock_155 : decode prog_1_method_8_code 155 = .ok (.getfield 192, 3) := by decide +kernel
theorem dT_lock_158 : decode prog_1_method_8_code 158 = .ok (.ireturn, 1) := by decide +kernel
theorem dT_release_0 : decode prog_1_method_9_code 0 = .ok (.aload_n 0, 1) := by decide +kernel
theorem dT_release_1 : decode prog_1_method_9_code 1 = .ok (.iload_n 1, 1) := by decide +kernel
theorem dT_release_2 : decode prog_1_method_9_code 2 = .ok (.invokevirtual 126, 3) := by decide +kernel
theorem dT_release_5 : decode prog_1_method_9_code 5 = .ok (.astore_n 2, 1) := by decide +kernel
theorem dT_release_6 : decode prog_1_method_9_code 6 = .ok (.aload_n 2, 1) := by decide +kernel
theorem dT_release_7 : decode prog_1_method_9_code 7 = .ok (.getfield 166, 3) := by decide +kernel
theorem dT_release_10 : decode prog_1_method_9_code 10 = .ok (.ifnonnull 13, 3) := by decide +kernel
theorem dT_release_13 : decode prog_1_method_9_code 13 = .ok (.new 84, 3) := by decide +kernel
theorem dT_release_16 : decode prog_1_method_9_code 16 = .ok (.dup, 1) := by decide +kernel
theorem dT_release_17 : decode prog_1_method_9_code 17 = .ok (.ldc 195, 2) := by decide +kernel
theorem dT_release_19 : decode prog_1_method_9_code 19 = .ok (.invokespecial 88, 3) := by decide +kernel
theorem dT_release_22 : decode prog_1_method_9_code 22 = .ok (.athrow, 1) := by decide +kernel
theorem dT_release_23 : decode prog_1_method_9_code 23 = .ok (.aload_n 2, 1) := by decide +kernel
theorem dT_release_24 : decode prog_1_method_9_code 24 = .ok (.getfield 60, 3) := by decide +kernel
theorem dT_release_27 : decode prog_1_method_9_code 27 = .ok (.getstatic 130, 3) := by decide +kernel
theorem dT_release_30 : decode prog_1_method_9_code 30 = .ok (.if_acmp .eq 11, 3) := by decide +kernel
theorem dT_release_33 : decode prog_1_method_9_code 33 = .ok (.aload_n 0, 1) := by decide +kernel
theorem dT_release_34 : decode prog_1_method_9_code 34 = .ok (.aload_n 2, 1) := by decide +kernel
theorem dT_release_35 : decode prog_1_method_9_code 35 = .ok (.invokevirtual 197, 3) := by decide +kernel
theorem dT_release_38 : decode prog_1_method_9_code 38 = .ok (.ifCond .eq 13, 3) := by decide +kernel
theorem dT_release_41 : decode prog_1_method_9_code 41 = .ok (.new 102, 3) := by decide +kernel
theorem dT_release_44 : decode prog_1_method_9_code 44 = .ok (.dup, 1) := by decide +kernel
theorem dT_release_45 : decode prog_1_method_9_code 45 = .ok (.ldc 201, 2) := by decide +kernel
theorem dT_release_47 : decode prog_1_method_9_code 47 = .ok (.invokespecial 106, 3) := by decide +kernel
theorem dT_release_50 : decode prog_1_method_9_code 50 = .ok (.athrow, 1) := by decide +kernel
theorem dT_release_51 : decode prog_1_method_9_code 51 = .ok (.aload_n 2, 1) := by decide +kernel
theorem dT_release_52 : decode prog_1_method_9_code 52 = .ok (.getfield 60, 3) := by decide +kernel
theorem dT_release_55 : decode prog_1_method_9_code 55 = .ok (.getstatic 54, 3) := by decide +kernel
theorem dT_release_58 : decode prog_1_method_9_code 58 = .ok (.if_acmp .ne 7, 3) := by decide +kernel
theorem dT_release_61 : decode prog_1_method_9_code 61 = .ok (.iconst 1, 1) := by decide +kernel
theorem dT_release_62 : decode prog_1_method_9_code 62 = .ok (.goto 4, 3) := by decide +kernel
theorem dT_release_65 : decode prog_1_method_9_code 65 = .ok (.iconst 0, 1) := by decide +kernel
theorem dT_release_66 : decode prog_1_method_9_code 66 = .ok (.istore_n 3, 1) := by decide +kernel
theorem dT_release_67 : decode prog_1_method_9_code 67 = .ok (.aload_n 2, 1) := by decide +kernel
theorem dT_release_68 : decode prog_1_method_9_code 68 = .ok (.getstatic 130, 3) := by decide +kernel
theorem dT_release_71 : decode prog_1_method_9_code 71 = .ok (.putfield 60, 3) := by decide +kernel
theorem dT_release_74 : decode prog_1_method_9_code 74 = .ok (.iload_n 3, 1) := by decide +kernel
theorem dT_release_75 : decode prog_1_method_9_code 75 = .ok (.ifCond .ne 5, 3) := by decide +kernel
theorem dT_release_78 : decode prog_1_method_9_code 78 = .ok (.iconst 0, 1) := by decide +kernel
theorem dT_release_79 : decode prog_1_method_9_code 79 = .ok (.ireturn, 1) := by decide +kernel
theorem dT_release_80 : decode prog_1_method_9_code 80 = .ok (.aload_n 0, 1) := by decide +kernel
theorem dT_release_81 : decode prog_1_method_9_code 81 = .ok (.aload_n 2, 1) := by decide +kernel
theorem dT_release_82 : decode prog_1_method_9_code 82 = .ok (.getfield 67, 3) := by decide +kernel
theorem dT_release_85 : decode prog_1_method_9_code 85 = .ok (.invokevirtual 203, 3) := by decide +kernel
theorem dT_release_88 : decode prog_1_method_9_code 88 = .ok (.aload_n 0, 1) := by decide +kernel
theorem dT_release_89 : decode prog_1_method_9_code 89 = .ok (.aload_n 2, 1) := by decide +kernel
theorem dT_release_90 : decode prog_1_method_9_code 90 = .ok (.getfield 63, 3) := by decide +kernel
theorem dT_release_93 : decode prog_1_method_9_code 93 = .ok (.invokevirtual 203, 3) := by decide +kernel
theorem dT_release_96 : decode prog_1_method_9_code 96 = .ok (.iadd, 1) := by decide +kernel
theorem dT_release_97 : decode prog_1_method_9_code 97 = .ok (.aload_n 0, 1) := by decide +kernel
theorem dT_release_98 : decode prog_1_method_9_code 98 = .ok (.aload_n 2, 1) := by decide +kernel
theorem dT_release_99 : decode prog_1_method_9_code 99 = .ok (.getfield 185, 3) := by decide +kernel
theorem dT_release_102 : decode prog_1_method_9_code 102 = .ok (.invokevirtual 203, 3) := by decide +kernel
theorem dT_release_105 : decode prog_1_method_9_code 105 = .ok (.iadd, 1) := by decide +kernel
theorem dT_release_106 : decode prog_1_method_9_code 106 = .ok (.ireturn, 1) := by decide +kernel
theorem dT_loader_0 : decode prog_1_method_10_code 0 = .ok (.aload_n 0, 1) := by decide +kernel
theorem dT_loader_1 : decode prog_1_method_10_code 1 = .ok (.iload_n 1, 1) := by decide +kernel
theorem dT_loader_2 : decode prog_1_method_10_code 2 = .ok (.invokevirtual 126, 3) := by decide +kernel
theorem dT_loader_5 : decode prog_1_method_10_code 5 = .ok (.astore_n 3, 1) := by decide +kernel
theorem dT_loader_6 : decode prog_1_method_10_code 6 = .ok (.aload_n 3, 1) := by decide +kernel
theorem dT_loader_7 : decode prog_1_method_10_code 7 = .ok (.getfield 60, 3) := by decide +kernel
theorem dT_loader_10 : decode prog_1_method_10_code 10 = .ok (.getstatic 54, 3) := by decide +kernel
theorem dT_loader_13 : decode prog_1_method_10_code 13 = .ok (.if_acmp .eq 5, 3) := by decide +kernel
theorem dT_loader_16 : decode prog_1_method_10_code 16 = .ok (.iconst (-1), 1) := by decide +kernel
theorem dT_loader_17 : decode prog_1_method_10_code 17 = .ok (.ireturn, 1) := by decide +kernel
theorem dT_loader_18 : decode prog_1_method_10_code 18 = .ok (.iload_n 2, 1) := by decide +kernel
theorem dT_loader_19 : decode prog_1_method_10_code 19 = .ok (.ifCond .eq 13, 3) := by decide +kernel
theorem dT_loader_22 : decode prog_1_method_10_code 22 = .ok (.aload_n 3, 1) := by decide +kernel
theorem dT_loader_23 : decode prog_1_method_10_code 23 = .ok (.getfield 63, 3) := by decide +kernel
theorem dT_loader_26 : decode prog_1_method_10_code 26 = .ok (.getfield 192, 3) := by decide +kernel
theorem dT_loader_29 : decode prog_1_method_10_code 29 = .ok (.goto 10, 3) := by decide +kernel
theorem dT_loader_32 : decode prog_1_method_10_code 32 = .ok (.aload_n 3, 1) := by decide +kernel
theorem dT_loader_33 : decode prog_1_method_10_code 33 = .ok (.getfield 67, 3) := by decide +kernel
theorem dT_loader_36 : decode prog_1_method_10_code 36 = .ok (.getfield 192, 3) := by decide +kernel
theorem dT_loader_39 : decode prog_1_method_10_code 39 = .ok (.ireturn, 1) := by decide +kernel
theorem dT_look_0 : decode prog_1_method_11_code 0 = .ok (.iload_n 1, 1) := by decide +kernel
theorem dT_look_1 : decode prog_1_method_11_code 1 = .ok (.bipush 41, 2) := by decide +kernel
theorem dT_look_3 : decode prog_1_method_11_code 3 = .ok (.invokestatic 80, 3) := by decide +kernel
theorem dT_look_6 : decode prog_1_method_11_code 6 = .ok (.ifCond .eq 12, 3) := by decide +kernel
theorem dT_look_9 : decode prog_1_method_11_code 9 = .ok (.aload_n 0, 1) := by decide +kernel
theorem dT_look_10 : decode prog_1_method_11_code 10 = .ok (.getfield 23, 3) := by decide +kernel
theorem dT_look_13 : decode prog_1_method_11_code 13 = .ok (.iload_n 1, 1) := by decide +kernel
theorem dT_look_14 : decode prog_1_method_11_code 14 = .ok (.aaload, 1) := by decide +kernel
theorem dT_look_15 : decode prog_1_method_11_code 15 = .ok (.ifnonnull 5, 3) := by decide +kernel
theorem dT_look_18 : decode prog_1_method_11_code 18 = .ok (.iconst (-1), 1) := by decide +kernel
theorem dT_look_19 : decode prog_1_method_11_code 19 = .ok (.ireturn, 1) := by decide +kernel
theorem dT_look_20 : decode prog_1_method_11_code 20 = .ok (.aload_n 0, 1) := by decide +kernel
theorem dT_look_21 : decode prog_1_method_11_code 21 = .ok (.getfield 23, 3) := by decide +kernel
theorem dT_look_24 : decode prog_1_method_11_code 24 = .ok (.iload_n 1, 1) := by decide +kernel
theorem dT_look_25 : decode prog_1_method_11_code 25 = .ok (.aaload, 1) := by decide +kernel
theorem dT_look_26 : decode prog_1_method_11_code 26 = .ok (.astore_n 3, 1) := by decide +kernel
theorem dT_look_27 : decode prog_1_method_11_code 27 = .ok (.iload_n 2, 1) := by decide +kernel
theorem dT_look_28 : decode prog_1_method_11_code 28 = .ok (.tableswitch 66 0 3 #[32, 37, 56, 61], 32) := by decide +kernel
theorem dT_look_60 : decode prog_1_method_11_code 60 = .ok (.aload_n 3, 1) := by decide +kernel
theorem dT_look_61 : decode prog_1_method_11_code 61 = .ok (.getfield 207, 3) := by decide +kernel
theorem dT_look_64 : decode prog_1_method_11_code 64 = .ok (.ireturn, 1) := by decide +kernel
theorem dT_look_65 : decode prog_1_method_11_code 65 = .ok (.aload_n 3, 1) := by decide +kernel
theorem dT_look_66 : decode prog_1_method_11_code 66 = .ok (.getfield 210, 3) := by decide +kernel
theorem dT_look_69 : decode prog_1_method_11_code 69 = .ok (.ifnonnull 7, 3) := by decide +kernel
theorem dT_look_72 : decode prog_1_method_11_code 72 = .ok (.iconst (-1), 1) := by decide +kernel
theorem dT_look_73 : decode prog_1_method_11_code 73 = .ok (.goto 10, 3) := by decide +kernel
theorem dT_look_76 : decode prog_1_method_11_code 76 = .ok (.aload_n 3, 1) := by decide +kernel
theorem dT_look_77 : decode prog_1_method_11_code 77 = .ok (.getfield 210, 3) := by decide +kernel
theorem dT_look_80 : decode prog_1_method_11_code 80 = .ok (.getfield 192, 3) := by decide +kernel
theorem dT_look_83 : decode prog_1_method_11_code 83 = .ok (.ireturn, 1) := by decide +kernel
theorem dT_look_84 : decode prog_1_method_11_code 84 = .ok (.aload_n 3, 1) := by decide +kernel
theorem dT_look_85 : decode prog_1_method_11_code 85 = .ok (.getfield 70, 3) := by decide +kernel
theorem dT_look_88 : decode prog_1_method_11_code 88 = .ok (.ireturn, 1) := by decide +kernel
theorem dT_look_89 : decode prog_1_method_11_code 89 = .ok (.aload_n 3, 1) := by decide +kernel
theorem dT_look_90 : decode prog_1_method_11_code 90 = .ok (.getfield 212, 3) := by decide +kernel
theorem dT_look_93 : decode prog_1_method_11_code 93 = .ok (.ireturn, 1) := by decide +kernel
theorem dT_look_94 : decode prog_1_method_11_code 94 = .ok (.iconst (-1), 1) := by decide +kernel
theorem dT_look_95 : decode prog_1_method_11_code 95 = .ok (.ireturn, 1) := by decide +kernel
theorem dT_load_0 : decode prog_1_method_12_code 0 = .ok (.aload_n 0, 1) := by decide +kernel
theorem dT_load_1 : decode prog_1_method_12_code 1 = .ok (.iload_n 1, 1) := by decide +kernel
theorem dT_load_2 : decode prog_1_method_12_code 2 = .ok (.invokevirtual 126, 3) := by decide +kernel
theorem dT_load_5 : decode prog_1_method_12_code 5 = .ok (.astore_n 3, 1) := by decide +kernel
theorem dT_load_6 : decode prog_1_method_12_code 6 = .ok (.iload_n 2, 1) := by decide +kernel
theorem dT_load_7 : decode prog_1_method_12_code 7 = .ok (.bipush 64, 2) := by decide +kernel
theorem dT_load_9 : decode prog_1_method_12_code 9 = .ok (.invokestatic 80, 3) := by decide +kernel
theorem dT_load_12 : decode prog_1_method_12_code 12 = .ok (.ifCond .ne 13, 3) := by decide +kernel
theorem dT_load_15 : decode prog_1_method_12_code 15 = .ok (.new 84, 3) := by decide +kernel
theorem dT_load_18 : decode prog_1_method_12_code 18 = .ok (.dup, 1) := by decide +kernel
theorem dT_load_19 : decode prog_1_method_12_code 19 = .ok (.ldc 215, 2) := by decide +kernel
theorem dT_load_21 : decode prog_1_method_12_code 21 = .ok (.invokespecial 88, 3) := by decide +kernel
theorem dT_load_24 : decode prog_1_method_12_code 24 = .ok (.athrow, 1) := by decide +kernel
theorem dT_load_25 : decode prog_1_method_12_code 25 = .ok (.aload_n 3, 1) := by decide +kernel
theorem dT_load_26 : decode prog_1_method_12_code 26 = .ok (.invokestatic 217, 3) := by decide +kernel
theorem dT_load_29 : decode prog_1_method_12_code 29 = .ok (.aload_n 0, 1) := by decide +kernel
theorem dT_load_30 : decode prog_1_method_12_code 30 = .ok (.aload_n 3, 1) := by decide +kernel
theorem dT_load_31 : decode prog_1_method_12_code 31 = .ok (.iload_n 2, 1) := by decide +kernel
theorem dT_load_32 : decode prog_1_method_12_code 32 = .ok (.invokevirtual 220, 3) := by decide +kernel
theorem dT_load_35 : decode prog_1_method_12_code 35 = .ok (.getfield 224, 3) := by decide +kernel
theorem dT_load_38 : decode prog_1_method_12_code 38 = .ok (.ireturn, 1) := by decide +kernel
theorem dT_info_0 : decode prog_1_method_13_code 0 = .ok (.aload_n 0, 1) := by decide +kernel
theorem dT_info_1 : decode prog_1_method_13_code 1 = .ok (.iload_n 1, 1) := by decide +kernel
theorem dT_info_2 : decode prog_1_method_13_code 2 = .ok (.invokevirtual 225, 3) := by decide +kernel
theorem dT_info_5 : decode prog_1_method_13_code 5 = .ok (.astore_n 3, 1) := by decide +kernel
theorem dT_info_6 : decode prog_1_method_13_code 6 = .ok (.iload_n 2, 1) := by decide +kernel
theorem dT_info_7 : decode prog_1_method_13_code 7 = .ok (.tableswitch 80 0 3 #[29, 34, 56, 61], 29) := by decide +kernel
theorem dT_info_36 : decode prog_1_method_13_code 36 = .ok (.aload_n 3, 1) := by decide +kernel
theorem dT_info_37 : decode prog_1_method_13_code 37 = .ok (.getfield 229, 3) := by decide +kernel
theorem dT_info_40 : decode prog_1_method_13_code 40 = .ok (.ireturn, 1) := by decide +kernel
theorem dT_info_41 : decode prog_1_method_13_code 41 = .ok (.aload_n 3, 1) := by decide +kernel
theorem dT_info_42 : decode prog_1_method_13_code 42 = .ok (.getfield 232, 3) := by decide +kernel
theorem dT_info_45 : decode prog_1_method_13_code 45 = .ok (.getfield 235, 3) := by decide +kernel
theorem dT_info_48 : decode prog_1_method_13_code 48 = .ok (.ifCond .eq 7, 3) := by decide +kernel
theorem dT_info_51 : decode prog_1_method_13_code 51 = .ok (.iconst (-1), 1) := by decide +kernel
theorem dT_info_52 : decode prog_1_method_13_code 52 = .ok (.goto 10, 3) := by decide +kernel
theorem dT_info_55 : decode prog_1_method_13_code 55 = .ok (.aload_n 3, 1) := by decide +kernel
theorem dT_info_56 : decode prog_1_method_13_code 56 = .ok (.getfield 232, 3) := by decide +kernel
theorem dT_info_59 : decode prog_1_method_13_code 59 = .ok (.getfield 192, 3) := by decide +kernel
theorem dT_info_62 : decode prog_1_method_13_code 62 = .ok (.ireturn, 1) := by decide +kernel
theorem dT_info_63 : decode prog_1_method_13_code 63 = .ok (.aload_n 3, 1) := by decide +kernel
theorem dT_info_64 : decode prog_1_method_13_code 64 = .ok (.getfield 239, 3) := by decide +kernel
theorem dT_info_67 : decode prog_1_method_13_code 67 = .ok (.ireturn, 1) := by decide +kernel
theorem dT_info_68 : decode prog_1_method_13_code 68 = .ok (.aload_n 3, 1) := by decide +kernel
theorem dT_info_69 : decode prog_1_method_13_code 69 = .ok (.getfield 242, 3) := by decide +kernel
theorem dT_info_72 : decode prog_1_method_13_code 72 = .ok (.ifnonnull 7, 3) := by decide +kernel
theorem dT_info_75 : decode prog_1_method_13_code 75 = .ok (.iconst (-1), 1) := by decide +kernel
theorem dT_info_76 : decode prog_1_method_13_code 76 = .ok (.goto 10, 3) := by decide +kernel
theorem dT_info_79 : decode prog_1_method_13_code 79 = .ok (.aload_n 3, 1) := by decide +kernel
theorem dT_info_80 : decode prog_1_method_13_code 80 = .ok (.getfield 242, 3) := by decide +kernel
theorem dT_info_83 : decode prog_1_method_13_code 83 = .ok (.getfield 224, 3) := by decide +kernel
theorem dT_info_86 : decode prog_1_method_13_code 86 = .ok (.ireturn, 1) := by decide +kernel
theorem dT_info_87 : decode prog_1_method_13_code 87 = .ok (.new 246, 3) := by decide +kernel
theorem dT_info_90 : decode prog_1_method_13_code 90 = .ok (.dup, 1) := by decide +kernel
theorem dT_info_91 : decode prog_1_method_13_code 91 = .ok (.ldc 248, 2) := by decide +kernel
theorem dT_info_93 : decode prog_1_method_13_code 93 = .ok (.invokespecial 250, 3) := by decide +kernel
theorem dT_info_96 : decode prog_1_method_13_code 96 = .ok (.athrow, 1) := by decide +kernel
theorem dT_isA_0 : decode prog_1_method_14_code 0 = .ok (.aload_n 0, 1) := by decide +kernel
theorem dT_isA_1 : decode prog_1_method_14_code 1 = .ok (.iload_n 1, 1) := by decide +kernel
theorem dT_isA_2 : decode prog_1_method_14_code 2 = .ok (.invokevirtual 225, 3) := by decide +kernel
theorem dT_isA_5 : decode prog_1_method_14_code 5 = .ok (.aload_n 0, 1) := by decide +kernel
theorem dT_isA_6 : decode prog_1_method_14_code 6 = .ok (.iload_n 2, 1) := by decide +kernel
theorem dT_isA_7 : decode prog_1_method_14_code 7 = .ok (.invokevirtual 225, 3) := by decide +kernel
theorem dT_isA_10 : decode prog_1_method_14_code 10 = .ok (.invokestatic 251, 3) := by decide +kernel
theorem dT_isA_13 : decode prog_1_method_14_code 13 = .ok (.ireturn, 1) := by decide +kernel
theorem dT_apply_0 : decode prog_1_method_15_code 0 = .ok (.aload_n 0, 1) := by decide +kernel
theorem dT_apply_1 : decode prog_1_method_15_code 1 = .ok (.iload_n 1, 1) := by decide +kernel
theorem dT_apply_2 : decode prog_1_method_15_code 2 = .ok (.invokevirtual 126, 3) := by decide +kernel
theorem dT_apply_5 : decode prog_1_method_15_code 5 = .ok (.astore_n 3, 1) := by decide +kernel
theorem dT_apply_6 : decode prog_1_method_15_code 6 = .ok (.iload_n 2, 1) := by decide +kernel
theorem dT_apply_7 : decode prog_1_method_15_code 7 = .ok (.bipush 10, 2) := by decide +kernel
theorem dT_apply_9 : decode prog_1_method_15_code 9 = .ok (.invokestatic 80, 3) := by decide +kernel
theorem dT_apply_12 : decode prog_1_method_15_code 12 = .ok (.ifCond .ne 13, 3) := by decide +kernel
theorem dT_apply_15 : decode prog_1_method_15_code 15 = .ok (.new 84, 3) := by decide +kernel
theorem dT_apply_18 : decode prog_1_method_15_code 18 = .ok (.dup, 1) := by decide +kernel
theorem dT_apply_19 : decode prog_1_method_15_code 19 = .ok (.ldc 255, 2) := by decide +kernel
theorem dT_apply_21 : decode prog_1_method_15_code 21 = .ok (.invokespecial 88, 3) := by decide +kernel
theorem dT_apply_24 : decode prog_1_method_15_code 24 = .ok (.athrow, 1) := by decide +kernel
theorem dT_apply_25 : decode prog_1_method_15_code 25 = .ok (.aload_n 3, 1) := by decide +kernel
theorem dT_apply_26 : decode prog_1_method_15_code 26 = .ok (.invokestatic 217, 3) := by decide +kernel
theorem dT_apply_29 : decode prog_1_method_15_code 29 = .ok (.aload_n 3, 1) := by decide +kernel
theorem dT_apply_30 : decode prog_1_method_15_code 30 = .ok (.getfield 67, 3) := by decide +kernel
theorem dT_apply_33 : decode prog_1_method_15_code 33 = .ok (.iload_n 2, 1) := by decide +kernel
theorem dT_apply_34 : decode prog_1_method_15_code 34 = .ok (.invokestatic 257, 3) := by decide +kernel
theorem dT_apply_37 : decode prog_1_method_15_code 37 = .ok (.astore 4, 2) := by decide +kernel
theorem dT_apply_39 : decode prog_1_method_15_code 39 = .ok (.aload 4, 2) := by decide +kernel
theorem dT_apply_41 : decode prog_1_method_15_code 41 = .ok (.ifnonnull 5, 3) := by decide +kernel
theorem dT_apply_44 : decode prog_1_method_15_code 44 = .ok (.iconst (-1), 1) := by decide +kernel
theorem dT_apply_45 : decode prog_1_method_15_code 45 = .ok (.ireturn, 1) := by decide +kernel
theorem dT_apply_46 : decode prog_1_method_15_code 46 = .ok (.aload_n 0, 1) := by decide +kernel
theorem dT_apply_47 : decode prog_1_method_15_code 47 = .ok (.aload_n 3, 1) := by decide +kernel
theorem dT_apply_48 : decode prog_1_method_15_code 48 = .ok (.aload 4, 2) := by decide +kernel
theorem dT_apply_50 : decode prog_1_method_15_code 50 = .ok (.getfield 261, 3) := by decide +kernel
theorem dT_apply_53 : decode prog_1_method_15_code 53 = .ok (.invokevirtual 220, 3) := by decide +kernel
theorem dT_apply_56 : decode prog_1_method_15_code 56 = .ok (.astore 5, 2) := by decide +kernel
theorem dT_apply_58 : decode prog_1_method_15_code 58 = .ok (.aload_n 3, 1) := by decide +kernel
theorem dT_apply_59 : decode prog_1_method_15_code 59 = .ok (.aload 5, 2) := by decide +kernel
theorem dT_apply_61 : decode prog_1_method_15_code 61 = .ok (.invokevirtual 262, 3) := by decide +kernel
theorem dT_apply_64 : decode prog_1_method_15_code 64 = .ok (.ifCond .eq 5, 3) := by decide +kernel
theorem dT_apply_67 : decode prog_1_method_15_code 67 = .ok (.iconst 0, 1) := by decide +kernel
theorem dT_apply_68 : decode prog_1_method_15_code 68 = .ok (.ireturn, 1) := by decide +kernel
theorem dT_apply_69 : decode prog_1_method_15_code 69 = .ok (.aload 5, 2) := by decide +kernel
theorem dT_apply_71 : decode prog_1_method_15_code 71 = .ok (.aload_n 0, 1) := by decide +kernel
theorem dT_apply_72 : decode prog_1_method_15_code 72 = .ok (.getfield 29, 3) := by decide +kernel
theorem dT_apply_75 : decode prog_1_method_15_code 75 = .ok (.iconst 1, 1) := by decide +kernel
theorem dT_apply_76 : decode prog_1_method_15_code 76 = .ok (.aaload, 1) := by decide +kernel
theorem dT_apply_77 : decode prog_1_method_15_code 77 = .ok (.invokestatic 251, 3) := by decide +kernel
theorem dT_apply_80 : decode prog_1_method_15_code 80 = .ok (.ifCond .ne 6, 3) := by decide +kernel
theorem dT_apply_83 : decode prog_1_method_15_code 83 = .ok (.bipush (-2), 2) := by decide +kernel
theorem dT_apply_85 : decode prog_1_method_15_code 85 = .ok (.ireturn, 1) := by decide +kernel
theorem dT_apply_86 : decode prog_1_method_15_code 86 = .ok (.aload_n 3, 1) := by decide +kernel
theorem dT_apply_87 : decode prog_1_method_15_code 87 = .ok (.aload 5, 2) := by decide +kernel
theorem dT_apply_89 : decode prog_1_method_15_code 89 = .ok (.invokevirtual 266, 3) := by decide +kernel
theorem dT_apply_92 : decode prog_1_method_15_code 92 = .ok (.ifCond .eq 7, 3) := by decide +kernel
theorem dT_apply_95 : decode prog_1_method_15_code 95 = .ok (.iconst 1, 1) := by decide +kernel
theorem dT_apply_96 : decode prog_1_method_15_code 96 = .ok (.goto 5, 3) := by decide +kernel
theorem dT_apply_99 : decode prog_1_method_15_code 99 = .ok (.bipush (-3), 2) := by decide +kernel
theorem dT_apply_101 : decode prog_1_method_15_code 101 = .ok (.ireturn, 1) := by decide +kernel
theorem dT_applied_0 : decode prog_1_method_16_code 0 = .ok (.aload_n 0, 1) := by decide +kernel
theorem dT_applied_1 : decode prog_1_method_16_code 1 = .ok (.iload_n 1, 1) := by decide +kernel
theorem dT_applied_2 : decode prog_1_method_16_code 2 = .ok (.invokevirtual 126, 3) := by decide +kernel
theorem dT_applied_5 : decode prog_1_method_16_code 5 = .ok (.astore_n 3, 1) := by decide +kernel
theorem dT_applied_6 : decode prog_1_method_16_code 6 = .ok (.iload_n 2, 1) := by decide +kernel
theorem dT_applied_7 : decode prog_1_method_16_code 7 = .ok (.aload_n 3, 1) := by decide +kernel
theorem dT_applied_8 : decode prog_1_method_16_code 8 = .ok (.getfield 269, 3) := by decide +kernel
theorem dT_applied_11 : decode prog_1_method_16_code 11 = .ok (.invokestatic 80, 3) := by decide +kernel
theorem dT_applied_14 : decode prog_1_method_16_code 14 = .ok (.ifCond .eq 15, 3) := by decide +kernel
theorem dT_applied_17 : decode prog_1_method_16_code 17 = .ok (.aload_n 3, 1) := by decide +kernel
theorem dT_applied_18 : decode prog_1_method_16_code 18 = .ok (.getfield 272, 3) := by decide +kernel
theorem dT_applied_21 : decode prog_1_method_16_code 21 = .ok (.iload_n 2, 1) := by decide +kernel
theorem dT_applied_22 : decode prog_1_method_16_code 22 = .ok (.aaload, 1) := by decide +kernel
theorem dT_applied_23 : decode prog_1_method_16_code 23 = .ok (.getfield 224, 3) := by decide +kernel
theorem dT_applied_26 : decode prog_1_method_16_code 26 = .ok (.goto 4, 3) := by decide +kernel
theorem dT_applied_29 : decode prog_1_method_16_code 29 = .ok (.iconst (-1), 1) := by decide +kernel
theorem dT_applied_30 : decode prog_1_method_16_code 30 = .ok (.ireturn, 1) := by decide +kernel
theorem dT_isBelow_0 : decode prog_1_method_17_code 0 = .ok (.iload_n 0, 1) := by decide +kernel
theorem dT_isBelow_1 : decode prog_1_method_17_code 1 = .ok (.ifCond .lt 12, 3) := by decide +kernel
theorem dT_isBelow_4 : decode prog_1_method_17_code 4 = .ok (.iload_n 0, 1) := by decide +kernel
theorem dT_isBelow_5 : decode prog_1_method_17_code 5 = .ok (.iload_n 1, 1) := by decide +kernel
theorem dT_isBelow_6 : decode prog_1_method_17_code 6 = .ok (.if_icmp .ge 7, 3) := by decide +kernel
theorem dT_isBelow_9 : decode prog_1_method_17_code 9 = .ok (.iconst 1, 1) := by decide +kernel
theorem dT_isBelow_10 : decode prog_1_method_17_code 10 = .ok (.goto 4, 3) := by decide +kernel
theorem dT_isBelow_13 : decode prog_1_method_17_code 13 = .ok (.iconst 0, 1) := by decide +kernel
theorem dT_isBelow_14 : decode prog_1_method_17_code 14 = .ok (.ireturn, 1) := by decide +kernel
theorem dT_archiveAt_0 : decode prog_1_method_18_code 0 = .ok (.iload_n 1, 1) := by decide +kernel
theorem dT_archiveAt_1 : decode prog_1_method_18_code 1 = .ok (.bipush 10, 2) := by decide +kernel
theorem dT_archiveAt_3 : decode prog_1_method_18_code 3 = .ok (.invokestatic 80, 3) := by decide +kernel
theorem dT_archiveAt_6 : decode prog_1_method_18_code 6 = .ok (.ifCond .ne 13, 3) := by decide +kernel
theorem dT_archiveAt_9 : decode prog_1_method_18_code 9 = .ok (.new 84, 3) := by decide +kernel
theorem dT_archiveAt_12 : decode prog_1_method_18_code 12 = .ok (.dup, 1) := by decide +kernel
theorem dT_archiveAt_13 : decode prog_1_method_18_code 13 = .ok (.ldc 137, 2) := by decide +kernel
theorem dT_archiveAt_15 : decode prog_1_method_18_code 15 = .ok (.invokespecial 88, 3) := by decide +kernel
theorem dT_archiveAt_18 : decode prog_1_method_18_code 18 = .ok (.athrow, 1) := by decide +kernel
theorem dT_archiveAt_19 : decode prog_1_method_18_code 19 = .ok (.aload_n 0, 1) := by decide +kernel
theorem dT_archiveAt_20 : decode prog_1_method_18_code 20 = .ok (.getfield 11, 3) := by decide +kernel
theorem dT_archiveAt_23 : decode prog_1_method_18_code 23 = .ok (.iload_n 1, 1) := by decide +kernel
theorem dT_archiveAt_24 : decode prog_1_method_18_code 24 = .ok (.aaload, 1) := by decide +kernel
theorem dT_archiveAt_25 : decode prog_1_method_18_code 25 = .ok (.areturn, 1) := by decide +kernel
theorem dT_scopeAt_0 : decode prog_1_method_19_code 0 = .ok (.iload_n 1, 1) := by decide +kernel
theorem dT_scopeAt_1 : decode prog_1_method_19_code 1 = .ok (.aload_n 0, 1) := by decide +kernel
theorem dT_scopeAt_2 : decode prog_1_method_19_code 2 = .ok (.getfield 73, 3) := by decide +kernel
theorem dT_scopeAt_5 : decode prog_1_method_19_code 5 = .ok (.invokestatic 80, 3) := by decide +kernel
theorem dT_scopeAt_8 : decode prog_1_method_19_code 8 = .ok (.ifCond .ne 14, 3) := by decide +kernel
theorem dT_scopeAt_11 : decode prog_1_method_19_code 11 = .ok (.new 84, 3) := by decide +kernel
theorem dT_scopeAt_14 : decode prog_1_method_19_code 14 = .ok (.dup, 1) := by decide +kernel
theorem dT_scopeAt_15 : decode prog_1_method_19_code 15 = .ok (.ldc_w 275, 3) := by decide +kernel
theorem dT_scopeAt_18 : decode prog_1_method_19_code 18 = .ok (.invokespecial 88, 3) := by decide +kernel
theorem dT_scopeAt_21 : decode prog_1_method_19_code 21 = .ok (.athrow, 1) := by decide +kernel
theorem dT_scopeAt_22 : decode prog_1_method_19_code 22 = .ok (.aload_n 0, 1) := by decide +kernel
theorem dT_scopeAt_23 : decode prog_1_method_19_code 23 = .ok (.getfield 17, 3) := by decide +kernel
theorem dT_scopeAt_26 : decode prog_1_method_19_code 26 = .ok (.iload_n 1, 1) := by decide +kernel
theorem dT_scopeAt_27 : decode prog_1_method_19_code 27 = .ok (.aaload, 1) := by decide +kernel
theorem dT_scopeAt_28 : decode prog_1_method_19_code 28 = .ok (.areturn, 1) := by decide +kernel
theorem dT_typeAt_0 : decode prog_1_method_20_code 0 = .ok (.iload_n 1, 1) := by decide +kernel
theorem dT_typeAt_1 : decode prog_1_method_20_code 1 = .ok (.aload_n 0, 1) := by decide +kernel
theorem dT_typeAt_2 : decode prog_1_method_20_code 2 = .ok (.getfield 47, 3) := by decide +kernel
theorem dT_typeAt_5 : decode prog_1_method_20_code 5 = .ok (.invokestatic 80, 3) := by decide +kernel
theorem dT_typeAt_8 : decode prog_1_method_20_code 8 = .ok (.ifCond .ne 14, 3) := by decide +kernel
theorem dT_typeAt_11 : decode prog_1_method_20_code 11 = .ok (.new 246, 3) := by decide +kernel
theorem dT_typeAt_14 : decode prog_1_method_20_code 14 = .ok (.dup, 1) := by decide +kernel
theorem dT_typeAt_15 : decode prog_1_method_20_code 15 = .ok (.ldc_w 277, 3) := by decide +kernel
theorem dT_typeAt_18 : decode prog_1_method_20_code 18 = .ok (.invokespecial 250, 3) := by decide +kernel
theorem dT_typeAt_21 : decode prog_1_method_20_code 21 = .ok (.athrow, 1) := by decide +kernel
theorem dT_typeAt_22 : decode prog_1_method_20_code 22 = .ok (.aload_n 0, 1) := by decide +kernel
theorem dT_typeAt_23 : decode prog_1_method_20_code 23 = .ok (.getfield 29, 3) := by decide +kernel
theorem dT_typeAt_26 : decode prog_1_method_20_code 26 = .ok (.iload_n 1, 1) := by decide +kernel
theorem dT_typeAt_27 : decode prog_1_method_20_code 27 = .ok (.aaload, 1) := by decide +kernel
theorem dT_typeAt_28 : decode prog_1_method_20_code 28 = .ok (.areturn, 1) := by decide +kernel
theorem dT_requireOpen_0 : decode prog_1_method_21_code 0 = .ok (.aload_n 0, 1) := by decide +kernel
theorem dT_requireOpen_1 : decode prog_1_method_21_code 1 = .ok (.getfield 60, 3) := by decide +kernel
theorem dT_requireOpen_4 : decode prog_1_method_21_code 4 = .ok (.getstatic 279, 3) := by decide +kernel
theorem dT_requireOpen_7 : decode prog_1_method_21_code 7 = .ok (.if_acmp .eq 14, 3) := by decide +kernel
theorem dT_requireOpen_10 : decode prog_1_method_21_code 10 = .ok (.new 102, 3) := by decide +kernel
theorem dT_requireOpen_13 : decode prog_1_method_21_code 13 = .ok (.dup, 1) := by decide +kernel
theorem dT_requireOpen_14 : decode prog_1_method_21_code 14 = .ok (.ldc_w 282, 3) := by decide +kernel
theorem dT_requireOpen_17 : decode prog_1_method_21_code 17 = .ok (.invokespecial 106, 3) := by decide +kernel
theorem dT_requireOpen_20 : decode prog_1_method_21_code 20 = .ok (.athrow, 1) := by decide +kernel
theorem dT_requireOpen_21 : decode prog_1_method_21_code 21 = .ok (.return_, 1) := by decide +kernel
theorem dT_requireLocked_0 : decode prog_1_method_22_code 0 = .ok (.aload_n 0, 1) := by decide +kernel
theorem dT_requireLocked_1 : decode prog_1_method_22_code 1 = .ok (.getfield 60, 3) := by decide +kernel
theorem dT_requireLocked_4 : decode prog_1_method_22_code 4 = .ok (.getstatic 54, 3) := by decide +kernel
theorem dT_requireLocked_7 : decode prog_1_method_22_code 7 = .ok (.if_acmp .eq 14, 3) := by decide +kernel
theorem dT_requireLocked_10 : decode prog_1_method_22_code 10 = .ok (.new 102, 3) := by decide +kernel
theorem dT_requireLocked_13 : decode prog_1_method_22_code 13 = .ok (.dup, 1) := by decide +kernel
theorem dT_requireLocked_14 : decode prog_1_method_22_code 14 = .ok (.ldc_w 284, 3) := by decide +kernel
theorem dT_requireLocked_17 : decode prog_1_method_22_code 17 = .ok (.invokespecial 106, 3) := by decide +kernel
theorem dT_requireLocked_20 : decode prog_1_method_22_code 20 = .ok (.athrow, 1) := by decide +kernel
theorem dT_requireLocked_21 : decode prog_1_method_22_code 21 = .ok (.return_, 1) := by decide +kernel
theorem dT_hasChildLeft_0 : decode prog_1_method_23_code 0 = .ok (.iconst 0, 1) := by decide +kernel
theorem dT_hasChildLeft_1 : decode prog_1_method_23_code 1 = .ok (.istore_n 2, 1) := by decide +kernel
theorem dT_hasChildLeft_2 : decode prog_1_method_23_code 2 = .ok (.iload_n 2, 1) := by decide +kernel
theorem dT_hasChildLeft_3 : decode prog_1_method_23_code 3 = .ok (.aload_n 0, 1) := by decide +kernel
theorem dT_hasChildLeft_4 : decode prog_1_method_23_code 4 = .ok (.getfield 73, 3) := by decide +kernel
theorem dT_hasChildLeft_7 : decode prog_1_method_23_code 7 = .ok (.if_icmp .ge 39, 3) := by decide +kernel
theorem dT_hasChildLeft_10 : decode prog_1_method_23_code 10 = .ok (.aload_n 0, 1) := by decide +kernel
theorem dT_hasChildLeft_11 : decode prog_1_method_23_code 11 = .ok (.getfield 17, 3) := by decide +kernel
theorem dT_hasChildLeft_14 : decode prog_1_method_23_code 14 = .ok (.iload_n 2, 1) := by decide +kernel
theorem dT_hasChildLeft_15 : decode prog_1_method_23_code 15 = .ok (.aaload, 1) := by decide +kernel
theorem dT_hasChildLeft_16 : decode prog_1_method_23_code 16 = .ok (.getfield 166, 3) := by decide +kernel
theorem dT_hasChildLeft_19 : decode prog_1_method_23_code 19 = .ok (.aload_n 1, 1) := by decide +kernel
theorem dT_hasChildLeft_20 : decode prog_1_method_23_code 20 = .ok (.if_acmp .ne 20, 3) := by decide +kernel
theorem dT_hasChildLeft_23 : decode prog_1_method_23_code 23 = .ok (.aload_n 0, 1) := by decide +kernel
theorem dT_hasChildLeft_24 : decode prog_1_method_23_code 24 = .ok (.getfield 17, 3) := by decide +kernel
theorem dT_hasChildLeft_27 : decode prog_1_method_23_code 27 = .ok (.iload_n 2, 1) := by decide +kernel
theorem dT_hasChildLeft_28 : decode prog_1_method_23_code 28 = .ok (.aaload, 1) := by decide +kernel
theorem dT_hasChildLeft_29 : decode prog_1_method_23_code 29 = .ok (.getfield 60, 3) := by decide +kernel
theorem dT_hasChildLeft_32 : decode prog_1_method_23_code 32 = .ok (.getstatic 130, 3) := by decide +kernel
theorem dT_hasChildLeft_35 : decode prog_1_method_23_code 35 = .ok (.if_acmp .eq 5, 3) := by decide +kernel
theorem dT_hasChildLeft_38 : decode prog_1_method_23_code 38 = .ok (.iconst 1, 1) := by decide +kernel
theorem dT_hasChildLeft_39 : decode prog_1_method_23_code 39 = .ok (.ireturn, 1) := by decide +kernel
theorem dT_hasChildLeft_40 : decode prog_1_method_23_code 40 = .ok (.iinc 2 1, 3) := by decide +kernel
theorem dT_hasChildLeft_43 : decode prog_1_method_23_code 43 = .ok (.goto (-41), 3) := by decide +kernel
theorem dT_hasChildLeft_46 : decode prog_1_method_23_code 46 = .ok (.iconst 0, 1) := by decide +kernel
theorem dT_hasChildLeft_47 : decode prog_1_method_23_code 47 = .ok (.ireturn, 1) := by decide +kernel
theorem dT_freeLoaderNumbers_0 : decode prog_1_method_24_code 0 = .ok (.iconst 0, 1) := by decide +kernel
theorem dT_freeLoaderNumbers_1 : decode prog_1_method_24_code 1 = .ok (.istore_n 1, 1) := by decide +kernel
theorem dT_freeLoaderNumbers_2 : decode prog_1_method_24_code 2 = .ok (.iconst 1, 1) := by decide +kernel
theorem dT_freeLoaderNumbers_3 : decode prog_1_method_24_code 3 = .ok (.istore_n 2, 1) := by decide +kernel
theorem dT_freeLoaderNumbers_4 : decode prog_1_method_24_code 4 = .ok (.iload_n 2, 1) := by decide +kernel
theorem dT_freeLoaderNumbers_5 : decode prog_1_method_24_code 5 = .ok (.bipush 41, 2) := by decide +kernel
theorem dT_freeLoaderNumbers_7 : decode prog_1_method_24_code 7 = .ok (.if_icmp .ge 21, 3) := by decide +kernel
theorem dT_freeLoaderNumbers_10 : decode prog_1_method_24_code 10 = .ok (.aload_n 0, 1) := by decide +kernel
theorem dT_freeLoaderNumbers_11 : decode prog_1_method_24_code 11 = .ok (.getfield 23, 3) := by decide +kernel
theorem dT_freeLoaderNumbers_14 : decode prog_1_method_24_code 14 = .ok (.iload_n 2, 1) := by decide +kernel
theorem dT_freeLoaderNumbers_15 : decode prog_1_method_24_code 15 = .ok (.aaload, 1) := by decide +kernel
theorem dT_freeLoaderNumbers_16 : decode prog_1_method_24_code 16 = .ok (.ifnonnull 6, 3) := by decide +kernel
theorem dT_freeLoaderNumbers_19 : decode prog_1_method_24_code 19 = .ok (.iinc 1 1, 3) := by decide +kernel
theorem dT_freeLoaderNumbers_22 : decode prog_1_method_24_code 22 = .ok (.iinc 2 1, 3) := by decide +kernel
theorem dT_freeLoaderNumbers_25 : decode prog_1_method_24_code 25 = .ok (.goto (-21), 3) := by decide +kernel
theorem dT_freeLoaderNumbers_28 : decode prog_1_method_24_code 28 = .ok (.iload_n 1, 1) := by decide +kernel
theorem dT_freeLoaderNumbers_29 : decode prog_1_method_24_code 29 = .ok (.ireturn, 1) := by decide +kernel
theorem dT_wantedDefining_0 : decode prog_1_method_25_code 0 = .ok (.aload_n 1, 1) := by decide +kernel
theorem dT_wantedDefining_1 : decode prog_1_method_25_code 1 = .ok (.getfield 286, 3) := by decide +kernel
theorem dT_wantedDefining_4 : decode prog_1_method_25_code 4 = .ok (.ifCond .ne 5, 3) := by decide +kernel
theorem dT_wantedDefining_7 : decode prog_1_method_25_code 7 = .ok (.aload_n 2, 1) := by decide +kernel
theorem dT_wantedDefining_8 : decode prog_1_method_25_code 8 = .ok (.areturn, 1) := by decide +kernel
theorem dT_wantedDefining_9 : decode prog_1_method_25_code 9 = .ok (.aload_n 0, 1) := by decide +kernel
theorem dT_wantedDefining_10 : decode prog_1_method_25_code 10 = .ok (.aload_n 1, 1) := by decide +kernel
theorem dT_wantedDefining_11 : decode prog_1_method_25_code 11 = .ok (.invokevirtual 289, 3) := by decide +kernel
theorem dT_wantedDefining_14 : decode prog_1_method_25_code 14 = .ok (.astore_n 3, 1) := by decide +kernel
theorem dT_wantedDefining_15 : decode prog_1_method_25_code 15 = .ok (.iconst 1, 1) := by decide +kernel
theorem dT_wantedDefining_16 : decode prog_1_method_25_code 16 = .ok (.istore 4, 2) := by decide +kernel
theorem dT_wantedDefining_18 : decode prog_1_method_25_code 18 = .ok (.iload 4, 2) := by decide +kernel
theorem dT_wantedDefining_20 : decode prog_1_method_25_code 20 = .ok (.bipush 41, 2) := by decide +kernel
theorem dT_wantedDefining_22 : decode prog_1_method_25_code 22 = .ok (.if_icmp .ge 44, 3) := by decide +kernel
theorem dT_wantedDefining_25 : decode prog_1_method_25_code 25 = .ok (.aload_n 0, 1) := by decide +kernel
theorem dT_wantedDefining_26 : decode prog_1_method_25_code 26 = .ok (.getfield 23, 3) := by decide +kernel
theorem dT_wantedDefining_29 : decode prog_1_method_25_code 29 = .ok (.iload 4, 2) := by decide +kernel
theorem dT_wantedDefining_31 : decode prog_1_method_25_code 31 = .ok (.aaload, 1) := by decide +kernel
theorem dT_wantedDefining_32 : decode prog_1_method_25_code 32 = .ok (.astore 5, 2) := by decide +kernel
theorem dT_wantedDefining_34 : decode prog_1_method_25_code 34 = .ok (.aload 5, 2) := by decide +kernel
theorem dT_wantedDefining_36 : decode prog_1_method_25_code 36 = .ok (.ifnull 24, 3) := by decide +kernel
theorem dT_wantedDefining_39 : decode prog_1_method_25_code 39 = .ok (.aload 5, 2) := by decide +kernel
theorem dT_wantedDefining_41 : decode prog_1_method_25_code 41 = .ok (.getfield 210, 3) := by decide +kernel
theorem dT_wantedDefining_44 : decode prog_1_method_25_code 44 = .ok (.aload_n 2, 1) := by decide +kernel
theorem dT_wantedDefining_45 : decode prog_1_method_25_code 45 = .ok (.if_acmp .ne 15, 3) := by decide +kernel
theorem dT_wantedDefining_48 : decode prog_1_method_25_code 48 = .ok (.aload 5, 2) := by decide +kernel
theorem dT_wantedDefining_50 : decode prog_1_method_25_code 50 = .ok (.aload_n 3, 1) := by decide +kernel
theorem dT_wantedDefining_51 : decode prog_1_method_25_code 51 = .ok (.invokevirtual 293, 3) := by decide +kernel
theorem dT_wantedDefining_54 : decode prog_1_method_25_code 54 = .ok (.ifCond .eq 6, 3) := by decide +kernel
theorem dT_wantedDefining_57 : decode prog_1_method_25_code 57 = .ok (.aload 5, 2) := by decide +kernel
theorem dT_wantedDefining_59 : decode prog_1_method_25_code 59 = .ok (.areturn, 1) := by decide +kernel
theorem dT_wantedDefining_60 : decode prog_1_method_25_code 60 = .ok (.iinc 4 1, 3) := by decide +kernel
theorem dT_wantedDefining_63 : decode prog_1_method_25_code 63 = .ok (.goto (-45), 3) := by decide +kernel
theorem dT_wantedDefining_66 : decode prog_1_method_25_code 66 = .ok (.aload_n 0, 1) := by decide +kernel
theorem dT_wantedDefining_67 : decode prog_1_method_25_code 67 = .ok (.iconst 1, 1) := by decide +kernel
theorem dT_wantedDefining_68 : decode prog_1_method_25_code 68 = .ok (.aload_n 2, 1) := by decide +kernel
theorem dT_wantedDefining_69 : decode prog_1_method_25_code 69 = .ok (.aload_n 3, 1) := by decide +kernel
theorem dT_wantedDefining_70 : decode prog_1_method_25_code 70 = .ok (.aconst_null, 1) := by decide +kernel
theorem dT_wantedDefining_71 : decode prog_1_method_25_code 71 = .ok (.invokevirtual 297, 3) := by decide +kernel
theorem dT_wantedDefining_74 : decode prog_1_method_25_code 74 = .ok (.areturn, 1) := by decide +kernel
theorem dT_wantedFiltering_0 : decode prog_1_method_26_code 0 = .ok (.aload_n 1, 1) := by decide +kernel
theorem dT_wantedFiltering_1 : decode prog_1_method_26_code 1 = .ok (.ifnonnull 5, 3) := by decide +kernel
theorem dT_wantedFiltering_4 : decode prog_1_method_26_code 4 = .ok (.aload_n 2, 1) := by decide +kernel
theorem dT_wantedFiltering_5 : decode prog_1_method_26_code 5 = .ok (.areturn, 1) := by decide +kernel
theorem dT_wantedFiltering_6 : decode prog_1_method_26_code 6 = .ok (.iconst 1, 1) := by decide +kernel
theorem dT_wantedFiltering_7 : decode prog_1_method_26_code 7 = .ok (.istore_n 3, 1) := by decide +kernel
theorem dT_wantedFiltering_8 : decode prog_1_method_26_code 8 = .ok (.iload_n 3, 1) := by decide +kernel
theorem dT_wantedFiltering_9 : decode prog_1_method_26_code 9 = .ok (.bipush 41, 2) := by decide +kernel
theorem dT_wantedFiltering_11 : decode prog_1_method_26_code 11 = .ok (.if_icmp .ge 46, 3) := by decide +kernel
theorem dT_wantedFiltering_14 : decode prog_1_method_26_code 14 = .ok (.aload_n 0, 1) := by decide +kernel
theorem dT_wantedFiltering_15 : decode prog_1_method_26_code 15 = .ok (.getfield 23, 3) := by decide +kernel
theorem dT_wantedFiltering_18 : decode prog_1_method_26_code 18 = .ok (.iload_n 3, 1) := by decide +kernel
theorem dT_wantedFiltering_19 : decode prog_1_method_26_code 19 = .ok (.aaload, 1) := by decide +kernel
theorem dT_wantedFiltering_20 : decode prog_1_method_26_code 20 = .ok (.astore 4, 2) := by decide +kernel
theorem dT_wantedFiltering_22 : decode prog_1_method_26_code 22 = .ok (.aload 4, 2) := by decide +kernel
theorem dT_wantedFiltering_24 : decode prog_1_method_26_code 24 = .ok (.ifnull 27, 3) := by decide +kernel
theorem dT_wantedFiltering_27 : decode prog_1_method_26_code 27 = .ok (.aload 4, 2) := by decide +kernel
theorem dT_wantedFiltering_29 : decode prog_1_method_26_code 29 = .ok (.getfield 210, 3) := by decide +kernel
theorem dT_wantedFiltering_32 : decode prog_1_method_26_code 32 = .ok (.aload_n 2, 1) := by decide +kernel
theorem dT_wantedFiltering_33 : decode prog_1_method_26_code 33 = .ok (.if_acmp .ne 18, 3) := by decide +kernel
theorem dT_wantedFiltering_36 : decode prog_1_method_26_code 36 = .ok (.aload_n 1, 1) := by decide +kernel
theorem dT_wantedFiltering_37 : decode prog_1_method_26_code 37 = .ok (.aload 4, 2) := by decide +kernel
theorem dT_wantedFiltering_39 : decode prog_1_method_26_code 39 = .ok (.getfield 301, 3) := by decide +kernel
theorem dT_wantedFiltering_42 : decode prog_1_method_26_code 42 = .ok (.invokevirtual 302, 3) := by decide +kernel
theorem dT_wantedFiltering_45 : decode prog_1_method_26_code 45 = .ok (.ifCond .eq 6, 3) := by decide +kernel
theorem dT_wantedFiltering_48 : decode prog_1_method_26_code 48 = .ok (.aload 4, 2) := by decide +kernel
theorem dT_wantedFiltering_50 : decode prog_1_method_26_code 50 = .ok (.areturn, 1) := by decide +kernel
theorem dT_wantedFiltering_51 : decode prog_1_method_26_code 51 = .ok (.iinc 3 1, 3) := by decide +kernel
theorem dT_wantedFiltering_54 : decode prog_1_method_26_code 54 = .ok (.goto (-46), 3) := by decide +kernel
theorem dT_wantedFiltering_57 : decode prog_1_method_26_code 57 = .ok (.aload_n 0, 1) := by decide +kernel
theorem dT_wantedFiltering_58 : decode prog_1_method_26_code 58 = .ok (.iconst 2, 1) := by decide +kernel
theorem dT_wantedFiltering_59 : decode prog_1_method_26_code 59 = .ok (.aload_n 2, 1) := by decide +kernel
theorem dT_wantedFiltering_60 : decode prog_1_method_26_code 60 = .ok (.iconst 0, 1) := by decide +kernel
theorem dT_wantedFiltering_61 : decode prog_1_method_26_code 61 = .ok (.anewarray 9, 3) := by decide +kernel
theorem dT_wantedFiltering_64 : decode prog_1_method_26_code 64 = .ok (.aload_n 1, 1) := by decide +kernel
theorem dT_wantedFiltering_65 : decode prog_1_method_26_code 65 = .ok (.invokevirtual 297, 3) := by decide +kernel
theorem dT_wantedFiltering_68 : decode prog_1_method_26_code 68 = .ok (.areturn, 1) := by decide +kernel
theorem dT_contentsOf_0 : decode prog_1_method_27_code 0 = .ok (.aload_n 1, 1) := by decide +kernel
theorem dT_contentsOf_1 : decode prog_1_method_27_code 1 = .ok (.getfield 286, 3) := by decide +kernel
theorem dT_contentsOf_4 : decode prog_1_method_27_code 4 = .ok (.anewarray 9, 3) := by decide +kernel
theorem dT_contentsOf_7 : decode prog_1_method_27_code 7 = .ok (.astore_n 2, 1) := by decide +kernel
theorem dT_contentsOf_8 : decode prog_1_method_27_code 8 = .ok (.iconst 0, 1) := by decide +kernel
theorem dT_contentsOf_9 : decode prog_1_method_27_code 9 = .ok (.istore_n 3, 1) := by decide +kernel
theorem dT_contentsOf_10 : decode prog_1_method_27_code 10 = .ok (.iload_n 3, 1) := by decide +kernel
theorem dT_contentsOf_11 : decode prog_1_method_27_code 11 = .ok (.aload_n 1, 1) := by decide +kernel
theorem dT_contentsOf_12 : decode prog_1_method_27_code 12 = .ok (.getfield 286, 3) := by decide +kernel
theorem dT_contentsOf_15 : decode prog_1_method_27_code 15 = .ok (.if_icmp .ge 26, 3) := by decide +kernel
theorem dT_contentsOf_18 : decode prog_1_method_27_code 18 = .ok (.aload_n 2, 1) := by decide +kernel
theorem dT_contentsOf_19 : decode prog_1_method_27_code 19 = .ok (.iload_n 3, 1) := by decide +kernel
theorem dT_contentsOf_20 : decode prog_1_method_27_code 20 = .ok (.aload_n 0, 1) := by decide +kernel
theorem dT_contentsOf_21 : decode prog_1_method_27_code 21 = .ok (.getfield 11, 3) := by decide +kernel
theorem dT_contentsOf_24 : decode prog_1_method_27_code 24 = .ok (.aload_n 1, 1) := by decide +kernel
theorem dT_contentsOf_25 : decode prog_1_method_27_code 25 = .ok (.getfield 306, 3) := by decide +kernel
theorem dT_contentsOf_28 : decode prog_1_method_27_code 28 = .ok (.iload_n 3, 1) := by decide +kernel
theorem dT_contentsOf_29 : decode prog_1_method_27_code 29 = .ok (.iaload, 1) := by decide +kernel
theorem dT_contentsOf_30 : decode prog_1_method_27_code 30 = .ok (.aaload, 1) := by decide +kernel
theorem dT_contentsOf_31 : decode prog_1_method_27_code 31 = .ok (.invokevirtual 308, 3) := by decide +kernel
theorem dT_contentsOf_34 : decode prog_1_method_27_code 34 = .ok (.aastore, 1) := by decide +kernel
theorem dT_contentsOf_35 : decode prog_1_method_27_code 35 = .ok (.iinc 3 1, 3) := by decide +kernel
theorem dT_contentsOf_38 : decode prog_1_method_27_code 38 = .ok (.goto (-28), 3) := by decide +kernel
theorem dT_contentsOf_41 : decode prog_1_method_27_code 41 = .ok (.aload_n 2, 1) := by decide +kernel
theorem dT_contentsOf_42 : decode prog_1_method_27_code 42 = .ok (.areturn, 1) := by decide +kernel
theorem dT_newLoader_0 : decode prog_1_method_28_code 0 = .ok (.aload_n 0, 1) := by decide +kernel
theorem dT_newLoader_1 : decode prog_1_method_28_code 1 = .ok (.invokevirtual 312, 3) := by decide +kernel
theorem dT_newLoader_4 : decode prog_1_method_28_code 4 = .ok (.istore 5, 2) := by decide +kernel
theorem dT_newLoader_6 : decode prog_1_method_28_code 6 = .ok (.new 21, 3) := by decide +kernel
theorem dT_newLoader_9 : decode prog_1_method_28_code 9 = .ok (.dup, 1) := by decide +kernel
theorem dT_newLoader_10 : decode prog_1_method_28_code 10 = .ok (.iload 5, 2) := by decide +kernel
theorem dT_newLoader_12 : decode prog_1_method_28_code 12 = .ok (.iload_n 1, 1) := by decide +kernel
theorem dT_newLoader_13 : decode prog_1_method_28_code 13 = .ok (.aload_n 2, 1) := by decide +kernel
theorem dT_newLoader_14 : decode prog_1_method_28_code 14 = .ok (.aload_n 3, 1) := by decide +kernel
theorem dT_newLoader_15 : decode prog_1_method_28_code 15 = .ok (.aload 4, 2) := by decide +kernel
theorem dT_newLoader_17 : decode prog_1_method_28_code 17 = .ok (.invokespecial 41, 3) := by decide +kernel
theorem dT_newLoader_20 : decode prog_1_method_28_code 20 = .ok (.astore 6, 2) := by decide +kernel
theorem dT_newLoader_22 : decode prog_1_method_28_code 22 = .ok (.aload_n 0, 1) := by decide +kernel
theorem dT_newLoader_23 : decode prog_1_method_28_code 23 = .ok (.getfield 23, 3) := by decide +kernel
theorem dT_newLoader_26 : decode prog_1_method_28_code 26 = .ok (.iload 5, 2) := by decide +kernel
theorem dT_newLoader_28 : decode prog_1_method_28_code 28 = .ok (.aload 6, 2) := by decide +kernel
theorem dT_newLoader_30 : decode prog_1_method_28_code 30 = .ok (.aastore, 1) := by decide +kernel
theorem dT_newLoader_31 : decode prog_1_method_28_code 31 = .ok (.aload_n 2, 1) := by decide +kernel
theorem dT_newLoader_32 : decode prog_1_method_28_code 32 = .ok (.dup, 1) := by decide +kernel
theorem dT_newLoader_33 : decode prog_1_method_28_code 33 = .ok (.getfield 70, 3) := by decide +kernel
theorem dT_newLoader_36 : decode prog_1_method_28_code 36 = .ok (.iconst 1, 1) := by decide +kernel
theorem dT_newLoader_37 : decode prog_1_method_28_code 37 = .ok (.iadd, 1) := by decide +kernel
theorem dT_newLoader_38 : decode prog_1_method_28_code 38 = .ok (.putfield 70, 3) := by decide +kernel
theorem dT_newLoader_41 : decode prog_1_method_28_code 41 = .ok (.aload 6, 2) := by decide +kernel
theorem dT_newLoader_43 : decode prog_1_method_28_code 43 = .ok (.areturn, 1) := by decide +kernel
theorem dT_leastFreeLoaderNumber_0 : decode prog_1_method_29_code 0 = .ok (.iconst 1, 1) := by decide +kernel
theorem dT_leastFreeLoaderNumber_1 : decode prog_1_method_29_code 1 = .ok (.istore_n 1, 1) := by decide +kernel
theorem dT_leastFreeLoaderNumber_2 : decode prog_1_method_29_code 2 = .ok (.iload_n 1, 1) := by decide +kernel
theorem dT_leastFreeLoaderNumber_3 : decode prog_1_method_29_code 3 = .ok (.bipush 40, 2) := by decide +kernel
theorem dT_leastFreeLoaderNumber_5 : decode prog_1_method_29_code 5 = .ok (.if_icmp .ge 18, 3) := by decide +kernel
theorem dT_leastFreeLoaderNumber_8 : decode prog_1_method_29_code 8 = .ok (.aload_n 0, 1) := by decide +kernel
theorem dT_leastFreeLoaderNumber_9 : decode prog_1_method_29_code 9 = .ok (.getfield 23, 3) := by decide +kernel
theorem dT_leastFreeLoaderNumber_12 : decode prog_1_method_29_code 12 = .ok (.iload_n 1, 1) := by decide +kernel
theorem dT_leastFreeLoaderNumber_13 : decode prog_1_method_29_code 13 = .ok (.aaload, 1) := by decide +kernel
theorem dT_leastFreeLoaderNumber_14 : decode prog_1_method_29_code 14 = .ok (.ifnull 9, 3) := by decide +kernel
theorem dT_leastFreeLoaderNumber_17 : decode prog_1_method_29_code 17 = .ok (.iinc 1 1, 3) := by decide +kernel
theorem dT_leastFreeLoaderNumber_20 : decode prog_1_method_29_code 20 = .ok (.goto (-18), 3) := by decide +kernel
theorem dT_leastFreeLoaderNumber_23 : decode prog_1_method_29_code 23 = .ok (.iload_n 1, 1) := by decide +kernel
theorem dT_leastFreeLoaderNumber_24 : decode prog_1_method_29_code 24 = .ok (.ireturn, 1) := by decide +kernel
theorem dT_letGo_0 : decode prog_1_method_30_code 0 = .ok (.iconst 0, 1) := by decide +kernel
theorem dT_letGo_1 : decode prog_1_method_30_code 1 = .ok (.istore_n 2, 1) := by decide +kernel
theorem dT_letGo_2 : decode prog_1_method_30_code 2 = .ok (.aload_n 1, 1) := by decide +kernel
theorem dT_letGo_3 : decode prog_1_method_30_code 3 = .ok (.astore_n 3, 1) := by decide +kernel
theorem dT_letGo_4 : decode prog_1_method_30_code 4 = .ok (.aload_n 3, 1) := by decide +kernel
theorem dT_letGo_5 : decode prog_1_method_30_code 5 = .ok (.ifnull 49, 3) := by decide +kernel
theorem dT_letGo_8 : decode prog_1_method_30_code 8 = .ok (.aload_n 3, 1) := by decide +kernel
theorem dT_letGo_9 : decode prog_1_method_30_code 9 = .ok (.dup, 1) := by decide +kernel
theorem dT_letGo_10 : decode prog_1_method_30_code 10 = .ok (.getfield 70, 3) := by decide +kernel
theorem dT_letGo_13 : decode prog_1_method_30_code 13 = .ok (.iconst 1, 1) := by decide +kernel
theorem dT_letGo_14 : decode prog_1_method_30_code 14 = .ok (.isub, 1) := by decide +kernel
theorem dT_letGo_15 : decode prog_1_method_30_code 15 = .ok (.putfield 70, 3) := by decide +kernel
theorem dT_letGo_18 : decode prog_1_method_30_code 18 = .ok (.aload_n 3, 1) := by decide +kernel
theorem dT_letGo_19 : decode prog_1_method_30_code 19 = .ok (.getfield 70, 3) := by decide +kernel
theorem dT_letGo_22 : decode prog_1_method_30_code 22 = .ok (.ifCond .le 6, 3) := by decide +kernel
theorem dT_letGo_25 : decode prog_1_method_30_code 25 = .ok (.goto 29, 3) := by decide +kernel
theorem dT_letGo_28 : decode prog_1_method_30_code 28 = .ok (.aload_n 3, 1) := by decide +kernel
theorem dT_letGo_29 : decode prog_1_method_30_code 29 = .ok (.iconst 1, 1) := by decide +kernel
theorem dT_letGo_30 : decode prog_1_method_30_code 30 = .ok (.putfield 235, 3) := by decide +kernel
theorem dT_letGo_33 : decode prog_1_method_30_code 33 = .ok (.aload_n 0, 1) := by decide +kernel
theorem dT_letGo_34 : decode prog_1_method_30_code 34 = .ok (.getfield 23, 3) := by decide +kernel
theorem dT_letGo_37 : decode prog_1_method_30_code 37 = .ok (.aload_n 3, 1) := by decide +kernel
theorem dT_letGo_38 : decode prog_1_method_30_code 38 = .ok (.getfield 192, 3) := by decide +kernel
theorem dT_letGo_41 : decode prog_1_method_30_code 41 = .ok (.aconst_null, 1) := by decide +kernel
theorem dT_letGo_42 : decode prog_1_method_30_code 42 = .ok (.aastore, 1) := by decide +kernel
theorem dT_letGo_43 : decode prog_1_method_30_code 43 = .ok (.iinc 2 1, 3) := by decide +kernel
theorem dT_letGo_46 : decode prog_1_method_30_code 46 = .ok (.aload_n 3, 1) := by decide +kernel
theorem dT_letGo_47 : decode prog_1_method_30_code 47 = .ok (.getfield 210, 3) := by decide +kernel
theorem dT_letGo_50 : decode prog_1_method_30_code 50 = .ok (.astore_n 3, 1) := by decide +kernel
theorem dT_letGo_51 : decode prog_1_method_30_code 51 = .ok (.goto (-47), 3) := by decide +kernel
theorem dT_letGo_54 : decode prog_1_method_30_code 54 = .ok (.iload_n 2, 1) := by decide +kernel
theorem dT_letGo_55 : decode prog_1_method_30_code 55 = .ok (.ireturn, 1) := by decide +kernel
theorem dT_typeFromScope_0 : decode prog_1_method_31_code 0 = .ok (.aload_n 0, 1) := by decide +kernel
theorem dT_typeFromScope_1 : decode prog_1_method_31_code 1 = .ok (.aload_n 1, 1) := by decide +kernel
theorem dT_typeFromScope_2 : decode prog_1_method_31_code 2 = .ok (.getfield 67, 3) := by decide +kernel
theorem dT_typeFromScope_5 : decode prog_1_method_31_code 5 = .ok (.iload_n 2, 1) := by decide +kernel
theorem dT_typeFromScope_6 : decode prog_1_method_31_code 6 = .ok (.iconst 0, 1) := by decide +kernel
theorem dT_typeFromScope_7 : decode prog_1_method_31_code 7 = .ok (.invokevirtual 315, 3) := by decide +kernel
theorem dT_typeFromScope_10 : decode prog_1_method_31_code 10 = .ok (.astore_n 3, 1) := by decide +kernel
theorem dT_typeFromScope_11 : decode prog_1_method_31_code 11 = .ok (.aload_n 3, 1) := by decide +kernel
theorem dT_typeFromScope_12 : decode prog_1_method_31_code 12 = .ok (.ifnonnull 14, 3) := by decide +kernel
theorem dT_typeFromScope_15 : decode prog_1_method_31_code 15 = .ok (.new 246, 3) := by decide +kernel
theorem dT_typeFromScope_18 : decode prog_1_method_31_code 18 = .ok (.dup, 1) := by decide +kernel
theorem dT_typeFromScope_19 : decode prog_1_method_31_code 19 = .ok (.ldc_w 319, 3) := by decide +kernel
theorem dT_typeFromScope_22 : decode prog_1_method_31_code 22 = .ok (.invokespecial 250, 3) := by decide +kernel
theorem dT_typeFromScope_25 : decode prog_1_method_31_code 25 = .ok (.athrow, 1) := by decide +kernel
theorem dT_typeFromScope_26 : decode prog_1_method_31_code 26 = .ok (.aload_n 3, 1) := by decide +kernel
theorem dT_typeFromScope_27 : decode prog_1_method_31_code 27 = .ok (.areturn, 1) := by decide +kernel
theorem dT_findFrom_0 : decode prog_1_method_32_code 0 = .ok (.iload_n 2, 1) := by decide +kernel
theorem dT_findFrom_1 : decode prog_1_method_32_code 1 = .ok (.bipush 8, 2) := by decide +kernel
theorem dT_findFrom_3 : decode prog_1_method_32_code 3 = .ok (.if_icmp .ge 10, 3) := by decide +kernel
theorem dT_findFrom_6 : decode prog_1_method_32_code 6 = .ok (.aload_n 0, 1) := by decide +kernel
theorem dT_findFrom_7 : decode prog_1_method_32_code 7 = .ok (.getfield 29, 3) := by decide +kernel
theorem dT_findFrom_10 : decode prog_1_method_32_code 10 = .ok (.iload_n 2, 1) := by decide +kernel
theorem dT_findFrom_11 : decode prog_1_method_32_code 11 = .ok (.aaload, 1) := by decide +kernel
theorem dT_findFrom_12 : decode prog_1_method_32_code 12 = .ok (.areturn, 1) := by decide +kernel
theorem dT_findFrom_13 : decode prog_1_method_32_code 13 = .ok (.aload_n 1, 1) := by decide +kernel
theorem dT_findFrom_14 : decode prog_1_method_32_code 14 = .ok (.astore 4, 2) := by decide +kernel
theorem dT_findFrom_16 : decode prog_1_method_32_code 16 = .ok (.aload 4, 2) := by decide +kernel
theorem dT_findFrom_18 : decode prog_1_method_32_code 18 = .ok (.ifnull 58, 3) := by decide +kernel
theorem dT_findFrom_21 : decode prog_1_method_32_code 21 = .ok (.aload 4, 2) := by decide +kernel
theorem dT_findFrom_23 : decode prog_1_method_32_code 23 = .ok (.getfield 301, 3) := by decide +kernel
theorem dT_findFrom_26 : decode prog_1_method_32_code 26 = .ok (.ifnull 17, 3) := by decide +kernel
theorem dT_findFrom_29 : decode prog_1_method_32_code 29 = .ok (.aload 4, 2) := by decide +kernel
theorem dT_findFrom_31 : decode prog_1_method_32_code 31 = .ok (.getfield 301, 3) := by decide +kernel
theorem dT_findFrom_34 : decode prog_1_method_32_code 34 = .ok (.iload_n 2, 1) := by decide +kernel
theorem dT_findFrom_35 : decode prog_1_method_32_code 35 = .ok (.invokevirtual 321, 3) := by decide +kernel
theorem dT_findFrom_38 : decode prog_1_method_32_code 38 = .ok (.ifCond .ne 5, 3) := by decide +kernel
theorem dT_findFrom_41 : decode prog_1_method_32_code 41 = .ok (.aconst_null, 1) := by decide +kernel
theorem dT_findFrom_42 : decode prog_1_method_32_code 42 = .ok (.areturn, 1) := by decide +kernel
theorem dT_findFrom_43 : decode prog_1_method_32_code 43 = .ok (.aload 4, 2) := by decide +kernel
theorem dT_findFrom_45 : decode prog_1_method_32_code 45 = .ok (.iload_n 2, 1) := by decide +kernel
theorem dT_findFrom_46 : decode prog_1_method_32_code 46 = .ok (.invokevirtual 324, 3) := by decide +kernel
theorem dT_findFrom_49 : decode prog_1_method_32_code 49 = .ok (.astore 5, 2) := by decide +kernel
theorem dT_findFrom_51 : decode prog_1_method_32_code 51 = .ok (.aload 5, 2) := by decide +kernel
theorem dT_findFrom_53 : decode prog_1_method_32_code 53 = .ok (.ifnull 13, 3) := by decide +kernel
theorem dT_findFrom_56 : decode prog_1_method_32_code 56 = .ok (.aload_n 0, 1) := by decide +kernel
theorem dT_findFrom_57 : decode prog_1_method_32_code 57 = .ok (.aload 4, 2) := by decide +kernel
theorem dT_findFrom_59 : decode prog_1_method_32_code 59 = .ok (.aload 5, 2) := by decide +kernel
theorem dT_findFrom_61 : decode prog_1_method_32_code 61 = .ok (.iload_n 3, 1) := by decide +kernel
theorem dT_findFrom_62 : decode prog_1_method_32_code 62 = .ok (.invokevirtual 328, 3) := by decide +kernel
theorem dT_findFrom_65 : decode prog_1_method_32_code 65 = .ok (.areturn, 1) := by decide +kernel
theorem dT_findFrom_66 : decode prog_1_method_32_code 66 = .ok (.aload 4, 2) := by decide +kernel
theorem dT_findFrom_68 : decode prog_1_method_32_code 68 = .ok (.getfield 210, 3) := by decide +kernel
theorem dT_findFrom_71 : decode prog_1_method_32_code 71 = .ok (.astore 4, 2) := by decide +kernel
theorem dT_findFrom_73 : decode prog_1_method_32_code 73 = .ok (.goto (-57), 3) := by decide +kernel
theorem dT_findFrom_76 : decode prog_1_method_32_code 76 = .ok (.aconst_null, 1) := by decide +kernel
theorem dT_findFrom_77 : decode prog_1_method_32_code 77 = .ok (.areturn, 1) := by decide +kernel
theorem dT_typeDefinedBy_0 : decode prog_1_method_33_code 0 = .ok (.aload_n 0, 1) := by decide +kernel
theorem dT_typeDefinedBy_1 : decode prog_1_method_33_code 1 = .ok (.aload_n 1, 1) := by decide +kernel
theorem dT_typeDefinedBy_2 : decode prog_1_method_33_code 2 = .ok (.aload_n 2, 1) := by decide +kernel
theorem dT_typeDefinedBy_3 : decode prog_1_method_33_code 3 = .ok (.getfield 332, 3) := by decide +kernel
theorem dT_typeDefinedBy_6 : decode prog_1_method_33_code 6 = .ok (.invokevirtual 333, 3) := by decide +kernel
theorem dT_typeDefinedBy_9 : decode prog_1_method_33_code 9 = .ok (.astore 4, 2) := by decide +kernel
theorem dT_typeDefinedBy_11 : decode prog_1_method_33_code 11 = .ok (.aload 4, 2) := by decide +kernel
theorem dT_typeDefinedBy_13 : decode prog_1_method_33_code 13 = .ok (.ifnull 6, 3) := by decide +kernel
theorem dT_typeDefinedBy_16 : decode prog_1_method_33_code 16 = .ok (.aload 4, 2) := by decide +kernel
theorem dT_typeDefinedBy_18 : decode prog_1_method_33_code 18 = .ok (.areturn, 1) := by decide +kernel
theorem dT_typeDefinedBy_19 : decode prog_1_method_33_code 19 = .ok (.aload_n 0, 1) := by decide +kernel
theorem dT_typeDefinedBy_20 : decode prog_1_method_33_code 20 = .ok (.aload_n 1, 1) := by decide +kernel
theorem dT_typeDefinedBy_21 : decode prog_1_method_33_code 21 = .ok (.aload_n 2, 1) := by decide +kernel
theorem dT_typeDefinedBy_22 : decode prog_1_method_33_code 22 = .ok (.getfield 332, 3) := by decide +kernel
theorem dT_typeDefinedBy_25 : decode prog_1_method_33_code 25 = .ok (.iload_n 3, 1) := by decide +kernel
theorem dT_typeDefinedBy_26 : decode prog_1_method_33_code 26 = .ok (.invokevirtual 337, 3) := by decide +kernel
theorem dT_typeDefinedBy_29 : decode prog_1_method_33_code 29 = .ok (.ifCond .eq 14, 3) := by decide +kernel
theorem dT_typeDefinedBy_32 : decode prog_1_method_33_code 32 = .ok (.new 176, 3) := by decide +kernel
theorem dT_typeDefinedBy_35 : decode prog_1_method_33_code 35 = .ok (.dup, 1) := by decide +kernel
theorem dT_typeDefinedBy_36 : decode prog_1_method_33_code 36 = .ok (.ldc_w 341, 3) := by decide +kernel
theorem dT_typeDefinedBy_39 : decode prog_1_method_33_code 39 = .ok (.invokespecial 180, 3) := by decide +kernel
theorem dT_typeDefinedBy_42 : decode prog_1_method_33_code 42 = .ok (.athrow, 1) := by decide +kernel
theorem dT_typeDefinedBy_43 : decode prog_1_method_33_code 43 = .ok (.iload_n 3, 1) := by decide +kernel
theorem dT_typeDefinedBy_44 : decode prog_1_method_33_code 44 = .ok (.bipush 8, 2) := by decide +kernel
theorem dT_typeDefinedBy_46 : decode prog_1_method_33_code 46 = .ok (.if_icmp .lt 14, 3) := by decide +kernel
theorem dT_typeDefinedBy_49 : decode prog_1_method_33_code 49 = .ok (.new 176, 3) := by decide +kernel
theorem dT_typeDefinedBy_52 : decode prog_1_method_33_code 52 = .ok (.dup, 1) := by decide +kernel
theorem dT_typeDefinedBy_53 : decode prog_1_method_33_code 53 = .ok (.ldc_w 343, 3) := by decide +kernel
theorem dT_typeDefinedBy_56 : decode prog_1_method_33_code 56 = .ok (.invokespecial 180, 3) := by decide +kernel
theorem dT_typeDefinedBy_59 : decode prog_1_method_33_code 59 = .ok (.athrow, 1) := by decide +kernel
theorem dT_typeDefinedBy_60 : decode prog_1_method_33_code 60 = .ok (.aload_n 0, 1) := by decide +kernel
theorem dT_typeDefinedBy_61 : decode prog_1_method_33_code 61 = .ok (.getfield 33, 3) := by decide +kernel
theorem dT_typeDefinedBy_64 : decode prog_1_method_33_code 64 = .ok (.iload_n 3, 1) := by decide +kernel
theorem dT_typeDefinedBy_65 : decode prog_1_method_33_code 65 = .ok (.aload_n 1, 1) := by decide +kernel
theorem dT_typeDefinedBy_66 : decode prog_1_method_33_code 66 = .ok (.aastore, 1) := by decide +kernel
theorem dT_typeDefinedBy_67 : decode prog_1_method_33_code 67 = .ok (.aload_n 0, 1) := by decide +kernel
theorem dT_typeDefinedBy_68 : decode prog_1_method_33_code 68 = .ok (.getfield 36, 3) := by decide +kernel
theorem dT_typeDefinedBy_71 : decode prog_1_method_33_code 71 = .ok (.iload_n 3, 1) := by decide +kernel
theorem dT_typeDefinedBy_72 : decode prog_1_method_33_code 72 = .ok (.aload_n 2, 1) := by decide +kernel
theorem dT_typeDefinedBy_73 : decode prog_1_method_33_code 73 = .ok (.getfield 332, 3) := by decide +kernel
theorem dT_typeDefinedBy_76 : decode prog_1_method_33_code 76 = .ok (.iastore, 1) := by decide +kernel
theorem dT_typeDefinedBy_77 : decode prog_1_method_33_code 77 = .ok (.aload_n 0, 1) := by decide +kernel
theorem dT_typeDefinedBy_78 : decode prog_1_method_33_code 78 = .ok (.aload_n 1, 1) := by decide +kernel
theorem dT_typeDefinedBy_79 : decode prog_1_method_33_code 79 = .ok (.aload_n 2, 1) := by decide +kernel
theorem dT_typeDefinedBy_80 : decode prog_1_method_33_code 80 = .ok (.getfield 345, 3) := by decide +kernel
theorem dT_typeDefinedBy_83 : decode prog_1_method_33_code 83 = .ok (.iload_n 3, 1) := by decide +kernel
theorem dT_typeDefinedBy_84 : decode prog_1_method_33_code 84 = .ok (.iconst 1, 1) := by decide +kernel
theorem dT_typeDefinedBy_85 : decode prog_1_method_33_code 85 = .ok (.iadd, 1) := by decide +kernel
theorem dT_typeDefinedBy_86 : decode prog_1_method_33_code 86 = .ok (.invokevirtual 315, 3) := by decide +kernel
theorem dT_typeDefinedBy_89 : decode prog_1_method_33_code 89 = .ok (.astore 5, 2) := by decide +kernel
theorem dT_typeDefinedBy_91 : decode prog_1_method_33_code 91 = .ok (.aload 5, 2) := by decide +kernel
theorem dT_typeDefinedBy_93 : decode prog_1_method_33_code 93 = .ok (.ifnonnull 14, 3) := by decide +kernel
theorem dT_typeDefinedBy_96 : decode prog_1_method_33_code 96 = .ok (.new 176, 3) := by decide +kernel
theorem dT_typeDefinedBy_99 : decode prog_1_method_33_code 99 = .ok (.dup, 1) := by decide +kernel
theorem dT_typeDefinedBy_100 : decode prog_1_method_33_code 100 = .ok (.ldc_w 348, 3) := by decide +kernel
theorem dT_typeDefinedBy_103 : decode prog_1_method_33_code 103 = .ok (.invokespecial 180, 3) := by decide +kernel
theorem dT_typeDefinedBy_106 : decode prog_1_method_33_code 106 = .ok (.athrow, 1) := by decide +kernel
theorem dT_typeDefinedBy_107 : decode prog_1_method_33_code 107 = .ok (.aload_n 0, 1) := by decide +kernel
theorem dT_typeDefinedBy_108 : decode prog_1_method_33_code 108 = .ok (.aload_n 2, 1) := by decide +kernel
theorem dT_typeDefinedBy_109 : decode prog_1_method_33_code 109 = .ok (.aload_n 1, 1) := by decide +kernel
theorem dT_typeDefinedBy_110 : decode prog_1_method_33_code 110 = .ok (.aload 5, 2) := by decide +kernel
theorem dT_typeDefinedBy_112 : decode prog_1_method_33_code 112 = .ok (.invokevirtual 350, 3) := by decide +kernel
theorem dT_typeDefinedBy_115 : decode prog_1_method_33_code 115 = .ok (.areturn, 1) := by decide +kernel
theorem dT_knownType_0 : decode prog_1_method_34_code 0 = .ok (.bipush 8, 2) := by decide +kernel
theorem dT_knownType_2 : decode prog_1_method_34_code 2 = .ok (.istore_n 3, 1) := by decide +kernel
theorem dT_knownType_3 : decode prog_1_method_34_code 3 = .ok (.iload_n 3, 1) := by decide +kernel
theorem dT_knownType_4 : decode prog_1_method_34_code 4 = .ok (.aload_n 0, 1) := by decide +kernel
theorem dT_knownType_5 : decode prog_1_method_34_code 5 = .ok (.getfield 47, 3) := by decide +kernel
theorem dT_knownType_8 : decode prog_1_method_34_code 8 = .ok (.if_icmp .ge 42, 3) := by decide +kernel
theorem dT_knownType_11 : decode prog_1_method_34_code 11 = .ok (.aload_n 0, 1) := by decide +kernel
theorem dT_knownType_12 : decode prog_1_method_34_code 12 = .ok (.getfield 29, 3) := by decide +kernel
theorem dT_knownType_15 : decode prog_1_method_34_code 15 = .ok (.iload_n 3, 1) := by decide +kernel
theorem dT_knownType_16 : decode prog_1_method_34_code 16 = .ok (.aaload, 1) := by decide +kernel
theorem dT_knownType_17 : decode prog_1_method_34_code 17 = .ok (.getfield 232, 3) := by decide +kernel
theorem dT_knownType_20 : decode prog_1_method_34_code 20 = .ok (.aload_n 1, 1) := by decide +kernel
theorem dT_knownType_21 : decode prog_1_method_34_code 21 = .ok (.if_acmp .ne 23, 3) := by decide +kernel
theorem dT_knownType_24 : decode prog_1_method_34_code 24 = .ok (.aload_n 0, 1) := by decide +kernel
theorem dT_knownType_25 : decode prog_1_method_34_code 25 = .ok (.getfield 29, 3) := by decide +kernel
theorem dT_knownType_28 : decode prog_1_method_34_code 28 = .ok (.iload_n 3, 1) := by decide +kernel
theorem dT_knownType_29 : decode prog_1_method_34_code 29 = .ok (.aaload, 1) := by decide +kernel
theorem dT_knownType_30 : decode prog_1_method_34_code 30 = .ok (.getfield 229, 3) := by decide +kernel
theorem dT_knownType_33 : decode prog_1_method_34_code 33 = .ok (.iload_n 2, 1) := by decide +kernel
theorem dT_knownType_34 : decode prog_1_method_34_code 34 = .ok (.if_icmp .ne 10, 3) := by decide +kernel
theorem dT_knownType_37 : decode prog_1_method_34_code 37 = .ok (.aload_n 0, 1) := by decide +kernel
theorem dT_knownType_38 : decode prog_1_method_34_code 38 = .ok (.getfield 29, 3) := by decide +kernel
theorem dT_knownType_41 : decode prog_1_method_34_code 41 = .ok (.iload_n 3, 1) := by decide +kernel
theorem dT_knownType_42 : decode prog_1_method_34_code 42 = .ok (.aaload, 1) := by decide +kernel
theorem dT_knownType_43 : decode prog_1_method_34_code 43 = .ok (.areturn, 1) := by decide +kernel
theorem dT_knownType_44 : decode prog_1_method_34_code 44 = .ok (.iinc 3 1, 3) := by decide +kernel
theorem dT_knownType_47 : decode prog_1_method_34_code 47 = .ok (.goto (-44), 3) := by decide +kernel
theorem dT_knownType_50 : decode prog_1_method_34_code 50 = .ok (.aconst_null, 1) := by decide +kernel
theorem dT_knownType_51 : decode prog_1_method_34_code 51 = .ok (.areturn, 1) := by decide +kernel
theorem dT_isBeingDefined_0 : decode prog_1_method_35_code 0 = .ok (.iconst 0, 1) := by decide +kernel
theorem dT_isBeingDefined_1 : decode prog_1_method_35_code 1 = .ok (.istore 4, 2) := by decide +kernel
theorem dT_isBeingDefined_3 : decode prog_1_method_35_code 3 = .ok (.iload 4, 2) := by decide +kernel
theorem dT_isBeingDefined_5 : decode prog_1_method_35_code 5 = .ok (.iload_n 3, 1) := by decide +kernel
theorem dT_isBeingDefined_6 : decode prog_1_method_35_code 6 = .ok (.if_icmp .ge 33, 3) := by decide +kernel
theorem dT_isBeingDefined_9 : decode prog_1_method_35_code 9 = .ok (.aload_n 0, 1) := by decide +kernel
theorem dT_isBeingDefined_10 : decode prog_1_method_35_code 10 = .ok (.getfield 33, 3) := by decide +kernel
theorem dT_isBeingDefined_13 : decode prog_1_method_35_code 13 = .ok (.iload 4, 2) := by decide +kernel
theorem dT_isBeingDefined_15 : decode prog_1_method_35_code 15 = .ok (.aaload, 1) := by decide +kernel
theorem dT_isBeingDefined_16 : decode prog_1_method_35_code 16 = .ok (.aload_n 1, 1) := by decide +kernel
theorem dT_isBeingDefined_17 : decode prog_1_method_35_code 17 = .ok (.if_acmp .ne 16, 3) := by decide +kernel
theorem dT_isBeingDefined_20 : decode prog_1_method_35_code 20 = .ok (.aload_n 0, 1) := by decide +kernel
theorem dT_isBeingDefined_21 : decode prog_1_method_35_code 21 = .ok (.getfield 36, 3) := by decide +kernel
theorem dT_isBeingDefined_24 : decode prog_1_method_35_code 24 = .ok (.iload 4, 2) := by decide +kernel
theorem dT_isBeingDefined_26 : decode prog_1_method_35_code 26 = .ok (.iaload, 1) := by decide +kernel
theorem dT_isBeingDefined_27 : decode prog_1_method_35_code 27 = .ok (.iload_n 2, 1) := by decide +kernel
theorem dT_isBeingDefined_28 : decode prog_1_method_35_code 28 = .ok (.if_icmp .ne 5, 3) := by decide +kernel
theorem dT_isBeingDefined_31 : decode prog_1_method_35_code 31 = .ok (.iconst 1, 1) := by decide +kernel
theorem dT_isBeingDefined_32 : decode prog_1_method_35_code 32 = .ok (.ireturn, 1) := by decide +kernel
theorem dT_isBeingDefined_33 : decode prog_1_method_35_code 33 = .ok (.iinc 4 1, 3) := by decide +kernel
theorem dT_isBeingDefined_36 : decode prog_1_method_35_code 36 = .ok (.goto (-33), 3) := by decide +kernel
theorem dT_isBeingDefined_39 : decode prog_1_method_35_code 39 = .ok (.iconst 0, 1) := by decide +kernel
theorem dT_isBeingDefined_40 : decode prog_1_method_35_code 40 = .ok (.ireturn, 1) := by decide +kernel
theorem dT_newType_0 : decode prog_1_method_36_code 0 = .ok (.aload_n 0, 1) := by decide +kernel
theorem dT_newType_1 : decode prog_1_method_36_code 1 = .ok (.getfield 47, 3) := by decide +kernel
theorem dT_newType_4 : decode prog_1_method_36_code 4 = .ok (.bipush 120, 2) := by decide +kernel
theorem dT_newType_6 : decode prog_1_method_36_code 6 = .ok (.if_icmp .lt 14, 3) := by decide +kernel
theorem dT_newType_9 : decode prog_1_method_36_code 9 = .ok (.new 176, 3) := by decide +kernel
theorem dT_newType_12 : decode prog_1_method_36_code 12 = .ok (.dup, 1) := by decide +kernel
theorem dT_newType_13 : decode prog_1_method_36_code 13 = .ok (.ldc_w 354, 3) := by decide +kernel
theorem dT_newType_16 : decode prog_1_method_36_code 16 = .ok (.invokespecial 180, 3) := by decide +kernel
theorem dT_newType_19 : decode prog_1_method_36_code 19 = .ok (.athrow, 1) := by decide +kernel
theorem dT_newType_20 : decode prog_1_method_36_code 20 = .ok (.new 27, 3) := by decide +kernel
theorem dT_newType_23 : decode prog_1_method_36_code 23 = .ok (.dup, 1) := by decide +kernel
theorem dT_newType_24 : decode prog_1_method_36_code 24 = .ok (.aload_n 0, 1) := by decide +kernel
theorem dT_newType_25 : decode prog_1_method_36_code 25 = .ok (.getfield 47, 3) := by decide +kernel
theorem dT_newType_28 : decode prog_1_method_36_code 28 = .ok (.aload_n 1, 1) := by decide +kernel
theorem dT_newType_29 : decode prog_1_method_36_code 29 = .ok (.getfield 332, 3) := by decide +kernel
theorem dT_newType_32 : decode prog_1_method_36_code 32 = .ok (.aload_n 1, 1) := by decide +kernel
theorem dT_newType_33 : decode prog_1_method_36_code 33 = .ok (.getfield 356, 3) := by decide +kernel
theorem dT_newType_36 : decode prog_1_method_36_code 36 = .ok (.aload_n 2, 1) := by decide +kernel
theorem dT_newType_37 : decode prog_1_method_36_code 37 = .ok (.aload_n 3, 1) := by decide +kernel
theorem dT_newType_38 : decode prog_1_method_36_code 38 = .ok (.invokespecial 44, 3) := by decide +kernel
theorem dT_newType_41 : decode prog_1_method_36_code 41 = .ok (.astore 4, 2) := by decide +kernel
theorem dT_newType_43 : decode prog_1_method_36_code 43 = .ok (.aload_n 0, 1) := by decide +kernel
theorem dT_newType_44 : decode prog_1_method_36_code 44 = .ok (.getfield 29, 3) := by decide +kernel
theorem dT_newType_47 : decode prog_1_method_36_code 47 = .ok (.aload_n 0, 1) := by decide +kernel
theorem dT_newType_48 : decode prog_1_method_36_code 48 = .ok (.getfield 47, 3) := by decide +kernel
theorem dT_newType_51 : decode prog_1_method_36_code 51 = .ok (.aload 4, 2) := by decide +kernel
theorem dT_newType_53 : decode prog_1_method_36_code 53 = .ok (.aastore, 1) := by decide +kernel
theorem dT_newType_54 : decode prog_1_method_36_code 54 = .ok (.aload_n 0, 1) := by decide +kernel
theorem dT_newType_55 : decode prog_1_method_36_code 55 = .ok (.dup, 1) := by decide +kernel
theorem dT_newType_56 : decode prog_1_method_36_code 56 = .ok (.getfield 47, 3) := by decide +kernel
theorem dT_newType_59 : decode prog_1_method_36_code 59 = .ok (.iconst 1, 1) := by decide +kernel
theorem dT_newType_60 : decode prog_1_method_36_code 60 = .ok (.iadd, 1) := by decide +kernel
theorem dT_newType_61 : decode prog_1_method_36_code 61 = .ok (.putfield 47, 3) := by decide +kernel
theorem dT_newType_64 : decode prog_1_method_36_code 64 = .ok (.aload_n 2, 1) := by decide +kernel
theorem dT_newType_65 : decode prog_1_method_36_code 65 = .ok (.dup, 1) := by decide +kernel
theorem dT_newType_66 : decode prog_1_method_36_code 66 = .ok (.getfield 212, 3) := by decide +kernel
theorem dT_newType_69 : decode prog_1_method_36_code 69 = .ok (.iconst 1, 1) := by decide +kernel
theorem dT_newType_70 : decode prog_1_method_36_code 70 = .ok (.iadd, 1) := by decide +kernel
theorem dT_newType_71 : decode prog_1_method_36_code 71 = .ok (.putfield 212, 3) := by decide +kernel
theorem dT_newType_74 : decode prog_1_method_36_code 74 = .ok (.aload 4, 2) := by decide +kernel
theorem dT_newType_76 : decode prog_1_method_36_code 76 = .ok (.areturn, 1) := by decide +kernel
theorem dT_isSubtype_0 : decode prog_1_method_37_code 0 = .ok (.aload_n 0, 1) := by decide +kernel
theorem dT_isSubtype_1 : decode prog_1_method_37_code 1 = .ok (.astore_n 2, 1) := by decide +kernel
theorem dT_isSubtype_2 : decode prog_1_method_37_code 2 = .ok (.aload_n 2, 1) := by decide +kernel
theorem dT_isSubtype_3 : decode prog_1_method_37_code 3 = .ok (.ifnull 18, 3) := by decide +kernel
theorem dT_isSubtype_6 : decode prog_1_method_37_code 6 = .ok (.aload_n 2, 1) := by decide +kernel
theorem dT_isSubtype_7 : decode prog_1_method_37_code 7 = .ok (.aload_n 1, 1) := by decide +kernel
theorem dT_isSubtype_8 : decode prog_1_method_37_code 8 = .ok (.if_acmp .ne 5, 3) := by decide +kernel
theorem dT_isSubtype_11 : decode prog_1_method_37_code 11 = .ok (.iconst 1, 1) := by decide +kernel
theorem dT_isSubtype_12 : decode prog_1_method_37_code 12 = .ok (.ireturn, 1) := by decide +kernel
theorem dT_isSubtype_13 : decode prog_1_method_37_code 13 = .ok (.aload_n 2, 1) := by decide +kernel
theorem dT_isSubtype_14 : decode prog_1_method_37_code 14 = .ok (.getfield 242, 3) := by decide +kernel
theorem dT_isSubtype_17 : decode prog_1_method_37_code 17 = .ok (.astore_n 2, 1) := by decide +kernel
theorem dT_isSubtype_18 : decode prog_1_method_37_code 18 = .ok (.goto (-16), 3) := by decide +kernel
theorem dT_isSubtype_21 : decode prog_1_method_37_code 21 = .ok (.iconst 0, 1) := by decide +kernel
theorem dT_isSubtype_22 : decode prog_1_method_37_code 22 = .ok (.ireturn, 1) := by decide +kernel
theorem dT_visibleDescriptor_0 : decode prog_1_method_38_code 0 = .ok (.aload_n 0, 1) := by decide +kernel
theorem dT_visibleDescriptor_1 : decode prog_1_method_38_code 1 = .ok (.astore_n 2, 1) := by decide +kernel
theorem dT_visibleDescriptor_2 : decode prog_1_method_38_code 2 = .ok (.aload_n 2, 1) := by decide +kernel
theorem dT_visibleDescriptor_3 : decode prog_1_method_38_code 3 = .ok (.ifnull 39, 3) := by decide +kernel
theorem dT_visibleDescriptor_6 : decode prog_1_method_38_code 6 = .ok (.aload_n 2, 1) := by decide +kernel
theorem dT_visibleDescriptor_7 : decode prog_1_method_38_code 7 = .ok (.iload_n 1, 1) := by decide +kernel
theorem dT_visibleDescriptor_8 : decode prog_1_method_38_code 8 = .ok (.invokevirtual 357, 3) := by decide +kernel
theorem dT_visibleDescriptor_11 : decode prog_1_method_38_code 11 = .ok (.astore_n 3, 1) := by decide +kernel
theorem dT_visibleDescriptor_12 : decode prog_1_method_38_code 12 = .ok (.aload_n 3, 1) := by decide +kernel
theorem dT_visibleDescriptor_13 : decode prog_1_method_38_code 13 = .ok (.ifnull 21, 3) := by decide +kernel
theorem dT_visibleDescriptor_16 : decode prog_1_method_38_code 16 = .ok (.aload_n 0, 1) := by decide +kernel
theorem dT_visibleDescriptor_17 : decode prog_1_method_38_code 17 = .ok (.aload_n 2, 1) := by decide +kernel
theorem dT_visibleDescriptor_18 : decode prog_1_method_38_code 18 = .ok (.aload_n 3, 1) := by decide +kernel
theorem dT_visibleDescriptor_19 : decode prog_1_method_38_code 19 = .ok (.getfield 261, 3) := by decide +kernel
theorem dT_visibleDescriptor_22 : decode prog_1_method_38_code 22 = .ok (.invokestatic 361, 3) := by decide +kernel
theorem dT_visibleDescriptor_25 : decode prog_1_method_38_code 25 = .ok (.ifCond .eq 7, 3) := by decide +kernel
theorem dT_visibleDescriptor_28 : decode prog_1_method_38_code 28 = .ok (.aload_n 3, 1) := by decide +kernel
theorem dT_visibleDescriptor_29 : decode prog_1_method_38_code 29 = .ok (.goto 4, 3) := by decide +kernel
theorem dT_visibleDescriptor_32 : decode prog_1_method_38_code 32 = .ok (.aconst_null, 1) := by decide +kernel
theorem dT_visibleDescriptor_33 : decode prog_1_method_38_code 33 = .ok (.areturn, 1) := by decide +kernel
theorem dT_visibleDescriptor_34 : decode prog_1_method_38_code 34 = .ok (.aload_n 2, 1) := by decide +kernel
theorem dT_visibleDescriptor_35 : decode prog_1_method_38_code 35 = .ok (.getfield 210, 3) := by decide +kernel
theorem dT_visibleDescriptor_38 : decode prog_1_method_38_code 38 = .ok (.astore_n 2, 1) := by decide +kernel
theorem dT_visibleDescriptor_39 : decode prog_1_method_38_code 39 = .ok (.goto (-37), 3) := by decide +kernel
theorem dT_visibleDescriptor_42 : decode prog_1_method_38_code 42 = .ok (.aconst_null, 1) := by decide +kernel
theorem dT_visibleDescriptor_43 : decode prog_1_method_38_code 43 = .ok (.areturn, 1) := by decide +kernel
theorem dT_isLetThrough_0 : decode prog_1_method_39_code 0 = .ok (.iload_n 2, 1) := by decide +kernel
theorem dT_isLetThrough_1 : decode prog_1_method_39_code 1 = .ok (.bipush 8, 2) := by decide +kernel
theorem dT_isLetThrough_3 : decode prog_1_method_39_code 3 = .ok (.if_icmp .ge 5, 3) := by decide +kernel
theorem dT_isLetThrough_6 : decode prog_1_method_39_code 6 = .ok (.iconst 1, 1) := by decide +kernel
theorem dT_isLetThrough_7 : decode prog_1_method_39_code 7 = .ok (.ireturn, 1) := by decide +kernel
theorem dT_isLetThrough_8 : decode prog_1_method_39_code 8 = .ok (.aload_n 0, 1) := by decide +kernel
theorem dT_isLetThrough_9 : decode prog_1_method_39_code 9 = .ok (.astore_n 3, 1) := by decide +kernel
theorem dT_isLetThrough_10 : decode prog_1_method_39_code 10 = .ok (.aload_n 3, 1) := by decide +kernel
theorem dT_isLetThrough_11 : decode prog_1_method_39_code 11 = .ok (.ifnull 36, 3) := by decide +kernel
theorem dT_isLetThrough_14 : decode prog_1_method_39_code 14 = .ok (.aload_n 3, 1) := by decide +kernel
theorem dT_isLetThrough_15 : decode prog_1_method_39_code 15 = .ok (.aload_n 1, 1) := by decide +kernel
theorem dT_isLetThrough_16 : decode prog_1_method_39_code 16 = .ok (.if_acmp .eq 31, 3) := by decide +kernel
theorem dT_isLetThrough_19 : decode prog_1_method_39_code 19 = .ok (.aload_n 3, 1) := by decide +kernel
theorem dT_isLetThrough_20 : decode prog_1_method_39_code 20 = .ok (.getfield 301, 3) := by decide +kernel
theorem dT_isLetThrough_23 : decode prog_1_method_39_code 23 = .ok (.ifnull 16, 3) := by decide +kernel
theorem dT_isLetThrough_26 : decode prog_1_method_39_code 26 = .ok (.aload_n 3, 1) := by decide +kernel
theorem dT_isLetThrough_27 : decode prog_1_method_39_code 27 = .ok (.getfield 301, 3) := by decide +kernel
theorem dT_isLetThrough_30 : decode prog_1_method_39_code 30 = .ok (.iload_n 2, 1) := by decide +kernel
theorem dT_isLetThrough_31 : decode prog_1_method_39_code 31 = .ok (.invokevirtual 321, 3) := by decide +kernel
theorem dT_isLetThrough_34 : decode prog_1_method_39_code 34 = .ok (.ifCond .ne 5, 3) := by decide +kernel
theorem dT_isLetThrough_37 : decode prog_1_method_39_code 37 = .ok (.iconst 0, 1) := by decide +kernel
theorem dT_isLetThrough_38 : decode prog_1_method_39_code 38 = .ok (.ireturn, 1) := by decide +kernel
theorem dT_isLetThrough_39 : decode prog_1_method_39_code 39 = .ok (.aload_n 3, 1) := by decide +kernel
theorem dT_isLetThrough_40 : decode prog_1_method_39_code 40 = .ok (.getfield 210, 3) := by decide +kernel
theorem dT_isLetThrough_43 : decode prog_1_method_39_code 43 = .ok (.astore_n 3, 1) := by decide +kernel
theorem dT_isLetThrough_44 : decode prog_1_method_39_code 44 = .ok (.goto (-34), 3) := by decide +kernel
theorem dT_isLetThrough_47 : decode prog_1_method_39_code 47 = .ok (.iconst 1, 1) := by decide +kernel
theorem dT_isLetThrough_48 : decode prog_1_method_39_code 48 = .ok (.ireturn, 1) := by decide +kernel
end
section
/-! ScopeTree: the small helpers -/
section SP1
variable {G : aw_G} {d : Nat} {Q : aw_O → aw_J → Prop} {J : aw_J} {kc ks : Nat}
def sp_b (c : Prop) (h : Decidable c) : Int32 := if c then 1 else 0
theorem sp_isBelow {x y : Int32} (h1 : (0 ≤ x ∧ x < y) → Q (.inl (some (.int 1))) J) (h0 : ¬ (0 ≤ x ∧ x < y) → Q (.inl (some (.int 0))) J) : aw_W G mT_isBelow d Q 0 [some (.int x), some (.int y)] [] J kc ks := by
  refine aw_iload_n dT_isBelow_0 rfl ?_
  refine aw_if_lt (tgt := 13) dT_isBelow_1 (by decide) (fun h1_ => ?_) (fun h1_ => ?_)
  · refine aw_iconst (v := 0) dT_isBelow_13 (by decide) ?_
    refine aw_zret dT_isBelow_14 rfl rfl ?_
    first | exact h1 ⟨Int32.not_lt.mp h1_, Int32.not_le.mp h6⟩ | exact h0 (fun z => absurd z.2 (Int32.not_lt.mpr h6)) | exact h0 (fun z => absurd z.1 (Int32.not_le.mpr h1_))
  · refine aw_iload_n dT_isBelow_4 rfl ?_
    refine aw_iload_n dT_isBelow_5 rfl ?_
    refine aw_icmp_ge (tgt := 13) dT_isBelow_6 (by decide) (fun h6 => ?_) (fun h6 => ?_)
    · refine aw_iconst (v := 0) dT_isBelow_13 (by decide) ?_
      refine aw_zret dT_isBelow_14 rfl rfl ?_
      first | exact h1 ⟨Int32.not_lt.mp h1_, Int32.not_le.mp h6⟩ | exact h0 (fun z => absurd z.2 (Int32.not_lt.mpr h6)) | exact h0 (fun z => absurd z.1 (Int32.not_le.mpr h1_))
    · refine aw_iconst (v := 1) dT_isBelow_9 (by decide) ?_
      refine aw_goto (tgt := 14) dT_isBelow_10 (by decide) ?_
      refine aw_zret dT_isBelow_14 rfl rfl ?_
      first | exact h1 ⟨Int32.not_lt.mp h1_, Int32.not_le.mp h6⟩ | exact h0 (fun z => absurd z.2 (Int32.not_lt.mpr h6)) | exact h0 (fun z => absurd z.1 (Int32.not_le.mpr h1_))

end SP1
end
