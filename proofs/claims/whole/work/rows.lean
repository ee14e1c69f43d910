section
-- ===== PART A: goes FIRST, ahead of the names: the tables' words, and 'selects' of the private methods out of them =====
/-- a private method of a class that the tables say can be made, by its rows of tables_1 -/
def lw_okq (q : MethodName × Nat) : Prop := (q.1.cls ≠ "java/lang/invoke/MethodHandle" ∧ q.1.cls ≠ "java/lang/invoke/VarHandle") ∧ Cond.instantiable q.1.cls q.2 ∈ tables_1 ∧ Cond.privateMethod q.1 ∈ tables_1 ∧ Cond.instanceMethod q.1 ∈ tables_1
theorem lw_p0 : lw_okq (⟨"FibredSpaces$Telling", "advance", "()V"⟩, 9) := ⟨⟨by decide +kernel, by decide +kernel⟩, List.mem_of_getElem? (i := 109) (by decide +kernel), List.mem_of_getElem? (i := 297) (by decide +kernel), List.mem_of_getElem? (i := 298) (by decide +kernel)⟩
theorem lw_p1 : lw_okq (⟨"FibredSpaces$Telling", "byteAt", "(I)I"⟩, 9) := ⟨⟨by decide +kernel, by decide +kernel⟩, List.mem_of_getElem? (i := 109) (by decide +kernel), List.mem_of_getElem? (i := 301) (by decide +kernel), List.mem_of_getElem? (i := 302) (by decide +kernel)⟩
theorem lw_p2 : lw_okq (⟨"FibredSpaces$Telling", "isDigit", "(I)Z"⟩, 9) := ⟨⟨by decide +kernel, by decide +kernel⟩, List.mem_of_getElem? (i := 109) (by decide +kernel), List.mem_of_getElem? (i := 305) (by decide +kernel), List.mem_of_getElem? (i := 306) (by decide +kernel)⟩
theorem lw_p3 : lw_okq (⟨"FibredSpaces$Telling", "readNumber", "()V"⟩, 9) := ⟨⟨by decide +kernel, by decide +kernel⟩, List.mem_of_getElem? (i := 109) (by decide +kernel), List.mem_of_getElem? (i := 309) (by decide +kernel), List.mem_of_getElem? (i := 310) (by decide +kernel)⟩
theorem lw_p4 : lw_okq (⟨"FibredSpaces$Telling", "readItem", "(LFibredSpaces$Space;)Z"⟩, 9) := ⟨⟨by decide +kernel, by decide +kernel⟩, List.mem_of_getElem? (i := 109) (by decide +kernel), List.mem_of_getElem? (i := 316) (by decide +kernel), List.mem_of_getElem? (i := 317) (by decide +kernel)⟩
theorem lw_p5 : lw_okq (⟨"FibredSpaces$Telling", "readBase", "(LFibredSpaces$Space;)Z"⟩, 9) := ⟨⟨by decide +kernel, by decide +kernel⟩, List.mem_of_getElem? (i := 109) (by decide +kernel), List.mem_of_getElem? (i := 320) (by decide +kernel), List.mem_of_getElem? (i := 321) (by decide +kernel)⟩
theorem lw_p6 : lw_okq (⟨"FibredSpaces$Telling", "isNumber", "(II)Z"⟩, 9) := ⟨⟨by decide +kernel, by decide +kernel⟩, List.mem_of_getElem? (i := 109) (by decide +kernel), List.mem_of_getElem? (i := 324) (by decide +kernel), List.mem_of_getElem? (i := 325) (by decide +kernel)⟩
theorem lw_p7 : lw_okq (⟨"FibredSpaces$Telling", "readPair", "(LFibredSpaces$Space;)Z"⟩, 9) := ⟨⟨by decide +kernel, by decide +kernel⟩, List.mem_of_getElem? (i := 109) (by decide +kernel), List.mem_of_getElem? (i := 328) (by decide +kernel), List.mem_of_getElem? (i := 329) (by decide +kernel)⟩
theorem lw_p8 : lw_okq (⟨"FibredSpaces$Space", "insert", "(II)V"⟩, 7) := ⟨⟨by decide +kernel, by decide +kernel⟩, List.mem_of_getElem? (i := 34) (by decide +kernel), List.mem_of_getElem? (i := 354) (by decide +kernel), List.mem_of_getElem? (i := 355) (by decide +kernel)⟩
theorem lw_p9 : lw_okq (⟨"FibredSpaces", "settle", "(II)I"⟩, 12) := ⟨⟨by decide +kernel, by decide +kernel⟩, List.mem_of_getElem? (i := 19) (by decide +kernel), List.mem_of_getElem? (i := 358) (by decide +kernel), List.mem_of_getElem? (i := 359) (by decide +kernel)⟩
theorem lw_p10 : lw_okq (⟨"FibredSpaces$Space", "putAll", "(LFibredSpaces$Space;I)V"⟩, 7) := ⟨⟨by decide +kernel, by decide +kernel⟩, List.mem_of_getElem? (i := 34) (by decide +kernel), List.mem_of_getElem? (i := 392) (by decide +kernel), List.mem_of_getElem? (i := 393) (by decide +kernel)⟩
theorem lw_p11 : lw_okq (⟨"FibredSpaces$Space", "genusAs", "(I)I"⟩, 7) := ⟨⟨by decide +kernel, by decide +kernel⟩, List.mem_of_getElem? (i := 34) (by decide +kernel), List.mem_of_getElem? (i := 412) (by decide +kernel), List.mem_of_getElem? (i := 413) (by decide +kernel)⟩
theorem lw_p12 : lw_okq (⟨"FibredSpaces", "isFibre", "(II)Z"⟩, 12) := ⟨⟨by decide +kernel, by decide +kernel⟩, List.mem_of_getElem? (i := 19) (by decide +kernel), List.mem_of_getElem? (i := 426) (by decide +kernel), List.mem_of_getElem? (i := 427) (by decide +kernel)⟩
theorem lw_p13 : lw_okq (⟨"FibredSpaces$Homology", "makeChain", "(LFibredSpaces$Space;)V"⟩, 4) := ⟨⟨by decide +kernel, by decide +kernel⟩, List.mem_of_getElem? (i := 165) (by decide +kernel), List.mem_of_getElem? (i := 481) (by decide +kernel), List.mem_of_getElem? (i := 482) (by decide +kernel)⟩
theorem lw_p14 : lw_okq (⟨"FibredSpaces$Homology", "add", "(J)V"⟩, 4) := ⟨⟨by decide +kernel, by decide +kernel⟩, List.mem_of_getElem? (i := 165) (by decide +kernel), List.mem_of_getElem? (i := 487) (by decide +kernel), List.mem_of_getElem? (i := 488) (by decide +kernel)⟩
theorem lw_p15 : lw_okq (⟨"FibredSpaces$Homology", "product", "(I)J"⟩, 4) := ⟨⟨by decide +kernel, by decide +kernel⟩, List.mem_of_getElem? (i := 165) (by decide +kernel), List.mem_of_getElem? (i := 500) (by decide +kernel), List.mem_of_getElem? (i := 501) (by decide +kernel)⟩
def lw_privs_1 : List (MethodName × Nat) := [(⟨"FibredSpaces$Telling", "advance", "()V"⟩, 9), (⟨"FibredSpaces$Telling", "byteAt", "(I)I"⟩, 9), (⟨"FibredSpaces$Telling", "isDigit", "(I)Z"⟩, 9), (⟨"FibredSpaces$Telling", "readNumber", "()V"⟩, 9), (⟨"FibredSpaces$Telling", "readItem", "(LFibredSpaces$Space;)Z"⟩, 9), (⟨"FibredSpaces$Telling", "readBase", "(LFibredSpaces$Space;)Z"⟩, 9), (⟨"FibredSpaces$Telling", "isNumber", "(II)Z"⟩, 9), (⟨"FibredSpaces$Telling", "readPair", "(LFibredSpaces$Space;)Z"⟩, 9), (⟨"FibredSpaces$Space", "insert", "(II)V"⟩, 7), (⟨"FibredSpaces", "settle", "(II)I"⟩, 12), (⟨"FibredSpaces$Space", "putAll", "(LFibredSpaces$Space;I)V"⟩, 7), (⟨"FibredSpaces$Space", "genusAs", "(I)I"⟩, 7), (⟨"FibredSpaces", "isFibre", "(II)Z"⟩, 12), (⟨"FibredSpaces$Homology", "makeChain", "(LFibredSpaces$Space;)V"⟩, 4), (⟨"FibredSpaces$Homology", "add", "(J)V"⟩, 4), (⟨"FibredSpaces$Homology", "product", "(I)J"⟩, 4)]
theorem lw_r1 : ∀ q ∈ lw_privs_1, lw_okq q := List.forall_mem_cons.mpr ⟨lw_p0, List.forall_mem_cons.mpr ⟨lw_p1, List.forall_mem_cons.mpr ⟨lw_p2, List.forall_mem_cons.mpr ⟨lw_p3, List.forall_mem_cons.mpr ⟨lw_p4, List.forall_mem_cons.mpr ⟨lw_p5, List.forall_mem_cons.mpr ⟨lw_p6, List.forall_mem_cons.mpr ⟨lw_p7, List.forall_mem_cons.mpr ⟨lw_p8, List.forall_mem_cons.mpr ⟨lw_p9, List.forall_mem_cons.mpr ⟨lw_p10, List.forall_mem_cons.mpr ⟨lw_p11, List.forall_mem_cons.mpr ⟨lw_p12, List.forall_mem_cons.mpr ⟨lw_p13, List.forall_mem_cons.mpr ⟨lw_p14, List.forall_mem_cons.mpr ⟨lw_p15, fun _ h => absurd h List.not_mem_nil⟩⟩⟩⟩⟩⟩⟩⟩⟩⟩⟩⟩⟩⟩⟩⟩
theorem lw_p16 : lw_okq (⟨"FibredSpaces", "cyclicMaps", "(II)J"⟩, 12) := ⟨⟨by decide +kernel, by decide +kernel⟩, List.mem_of_getElem? (i := 19) (by decide +kernel), List.mem_of_getElem? (i := 560) (by decide +kernel), List.mem_of_getElem? (i := 561) (by decide +kernel)⟩
theorem lw_p17 : lw_okq (⟨"FibredSpaces$Permuting", "waysWith", "(LFibredSpaces$Space;I)J"⟩, 3) := ⟨⟨by decide +kernel, by decide +kernel⟩, List.mem_of_getElem? (i := 202) (by decide +kernel), List.mem_of_getElem? (i := 576) (by decide +kernel), List.mem_of_getElem? (i := 577) (by decide +kernel)⟩
theorem lw_p18 : lw_okq (⟨"FibredSpaces$Permuting", "stepFibre", "(III)V"⟩, 3) := ⟨⟨by decide +kernel, by decide +kernel⟩, List.mem_of_getElem? (i := 202) (by decide +kernel), List.mem_of_getElem? (i := 583) (by decide +kernel), List.mem_of_getElem? (i := 584) (by decide +kernel)⟩
theorem lw_p19 : lw_okq (⟨"FibredSpaces$Permuting", "multiply", "()V"⟩, 3) := ⟨⟨by decide +kernel, by decide +kernel⟩, List.mem_of_getElem? (i := 202) (by decide +kernel), List.mem_of_getElem? (i := 601) (by decide +kernel), List.mem_of_getElem? (i := 602) (by decide +kernel)⟩
theorem lw_p20 : lw_okq (⟨"FibredSpaces$Permuting", "stepHandle", "(I)V"⟩, 3) := ⟨⟨by decide +kernel, by decide +kernel⟩, List.mem_of_getElem? (i := 202) (by decide +kernel), List.mem_of_getElem? (i := 608) (by decide +kernel), List.mem_of_getElem? (i := 609) (by decide +kernel)⟩
theorem lw_p21 : lw_okq (⟨"FibredSpaces$Permuting", "stepCrosscap", "(I)V"⟩, 3) := ⟨⟨by decide +kernel, by decide +kernel⟩, List.mem_of_getElem? (i := 202) (by decide +kernel), List.mem_of_getElem? (i := 615) (by decide +kernel), List.mem_of_getElem? (i := 616) (by decide +kernel)⟩
theorem lw_p22 : lw_okq (⟨"FibredSpaces$LensSpace", "leastOf", "(J)J"⟩, 2) := ⟨⟨by decide +kernel, by decide +kernel⟩, List.mem_of_getElem? (i := 218) (by decide +kernel), List.mem_of_getElem? (i := 632) (by decide +kernel), List.mem_of_getElem? (i := 633) (by decide +kernel)⟩
theorem lw_p23 : lw_okq (⟨"FibredSpaces", "candidates", "()I"⟩, 12) := ⟨⟨by decide +kernel, by decide +kernel⟩, List.mem_of_getElem? (i := 19) (by decide +kernel), List.mem_of_getElem? (i := 655) (by decide +kernel), List.mem_of_getElem? (i := 656) (by decide +kernel)⟩
theorem lw_p24 : lw_okq (⟨"FibredSpaces", "greatestClass", "(II)I"⟩, 12) := ⟨⟨by decide +kernel, by decide +kernel⟩, List.mem_of_getElem? (i := 19) (by decide +kernel), List.mem_of_getElem? (i := 674) (by decide +kernel), List.mem_of_getElem? (i := 675) (by decide +kernel)⟩
theorem lw_p25 : lw_okq (⟨"FibredSpacesModel", "begin", "(III)V"⟩, 32) := ⟨⟨by decide +kernel, by decide +kernel⟩, List.mem_of_getElem? (i := 696) (by decide +kernel), List.mem_of_getElem? (i := 819) (by decide +kernel), List.mem_of_getElem? (i := 820) (by decide +kernel)⟩
theorem lw_p26 : lw_okq (⟨"FibredSpacesModel", "next", "()V"⟩, 32) := ⟨⟨by decide +kernel, by decide +kernel⟩, List.mem_of_getElem? (i := 696) (by decide +kernel), List.mem_of_getElem? (i := 823) (by decide +kernel), List.mem_of_getElem? (i := 824) (by decide +kernel)⟩
theorem lw_p27 : lw_okq (⟨"FibredSpacesModel", "readBase", "()V"⟩, 32) := ⟨⟨by decide +kernel, by decide +kernel⟩, List.mem_of_getElem? (i := 696) (by decide +kernel), List.mem_of_getElem? (i := 829) (by decide +kernel), List.mem_of_getElem? (i := 830) (by decide +kernel)⟩
theorem lw_p28 : lw_okq (⟨"FibredSpacesModel", "must", "(Z)V"⟩, 32) := ⟨⟨by decide +kernel, by decide +kernel⟩, List.mem_of_getElem? (i := 696) (by decide +kernel), List.mem_of_getElem? (i := 834) (by decide +kernel), List.mem_of_getElem? (i := 835) (by decide +kernel)⟩
theorem lw_p29 : lw_okq (⟨"FibredSpacesModel", "readPair", "()V"⟩, 32) := ⟨⟨by decide +kernel, by decide +kernel⟩, List.mem_of_getElem? (i := 696) (by decide +kernel), List.mem_of_getElem? (i := 838) (by decide +kernel), List.mem_of_getElem? (i := 839) (by decide +kernel)⟩
theorem lw_p30 : lw_okq (⟨"FibredSpacesModel", "add", "(II)V"⟩, 32) := ⟨⟨by decide +kernel, by decide +kernel⟩, List.mem_of_getElem? (i := 696) (by decide +kernel), List.mem_of_getElem? (i := 846) (by decide +kernel), List.mem_of_getElem? (i := 847) (by decide +kernel)⟩
theorem lw_p31 : lw_okq (⟨"FibredSpacesModel", "lays", "(II)I"⟩, 32) := ⟨⟨by decide +kernel, by decide +kernel⟩, List.mem_of_getElem? (i := 696) (by decide +kernel), List.mem_of_getElem? (i := 853) (by decide +kernel), List.mem_of_getElem? (i := 854) (by decide +kernel)⟩
def lw_privs_2 : List (MethodName × Nat) := [(⟨"FibredSpaces", "cyclicMaps", "(II)J"⟩, 12), (⟨"FibredSpaces$Permuting", "waysWith", "(LFibredSpaces$Space;I)J"⟩, 3), (⟨"FibredSpaces$Permuting", "stepFibre", "(III)V"⟩, 3), (⟨"FibredSpaces$Permuting", "multiply", "()V"⟩, 3), (⟨"FibredSpaces$Permuting", "stepHandle", "(I)V"⟩, 3), (⟨"FibredSpaces$Permuting", "stepCrosscap", "(I)V"⟩, 3), (⟨"FibredSpaces$LensSpace", "leastOf", "(J)J"⟩, 2), (⟨"FibredSpaces", "candidates", "()I"⟩, 12), (⟨"FibredSpaces", "greatestClass", "(II)I"⟩, 12), (⟨"FibredSpacesModel", "begin", "(III)V"⟩, 32), (⟨"FibredSpacesModel", "next", "()V"⟩, 32), (⟨"FibredSpacesModel", "readBase", "()V"⟩, 32), (⟨"FibredSpacesModel", "must", "(Z)V"⟩, 32), (⟨"FibredSpacesModel", "readPair", "()V"⟩, 32), (⟨"FibredSpacesModel", "add", "(II)V"⟩, 32), (⟨"FibredSpacesModel", "lays", "(II)I"⟩, 32)]
theorem lw_r2 : ∀ q ∈ lw_privs_2, lw_okq q := List.forall_mem_cons.mpr ⟨lw_p16, List.forall_mem_cons.mpr ⟨lw_p17, List.forall_mem_cons.mpr ⟨lw_p18, List.forall_mem_cons.mpr ⟨lw_p19, List.forall_mem_cons.mpr ⟨lw_p20, List.forall_mem_cons.mpr ⟨lw_p21, List.forall_mem_cons.mpr ⟨lw_p22, List.forall_mem_cons.mpr ⟨lw_p23, List.forall_mem_cons.mpr ⟨lw_p24, List.forall_mem_cons.mpr ⟨lw_p25, List.forall_mem_cons.mpr ⟨lw_p26, List.forall_mem_cons.mpr ⟨lw_p27, List.forall_mem_cons.mpr ⟨lw_p28, List.forall_mem_cons.mpr ⟨lw_p29, List.forall_mem_cons.mpr ⟨lw_p30, List.forall_mem_cons.mpr ⟨lw_p31, fun _ h => absurd h List.not_mem_nil⟩⟩⟩⟩⟩⟩⟩⟩⟩⟩⟩⟩⟩⟩⟩⟩
theorem lw_p32 : lw_okq (⟨"FibredSpacesModel", "note", "()V"⟩, 32) := ⟨⟨by decide +kernel, by decide +kernel⟩, List.mem_of_getElem? (i := 696) (by decide +kernel), List.mem_of_getElem? (i := 859) (by decide +kernel), List.mem_of_getElem? (i := 860) (by decide +kernel)⟩
theorem lw_p33 : lw_okq (⟨"FibredSpacesModel", "isMirrored", "(II)Z"⟩, 32) := ⟨⟨by decide +kernel, by decide +kernel⟩, List.mem_of_getElem? (i := 696) (by decide +kernel), List.mem_of_getElem? (i := 867) (by decide +kernel), List.mem_of_getElem? (i := 868) (by decide +kernel)⟩
theorem lw_p34 : lw_okq (⟨"FibredSpacesModel", "makeTimes", "(II)V"⟩, 32) := ⟨⟨by decide +kernel, by decide +kernel⟩, List.mem_of_getElem? (i := 696) (by decide +kernel), List.mem_of_getElem? (i := 871) (by decide +kernel), List.mem_of_getElem? (i := 872) (by decide +kernel)⟩
theorem lw_p35 : lw_okq (⟨"FibredSpacesModel", "fibres", "(I)I"⟩, 32) := ⟨⟨by decide +kernel, by decide +kernel⟩, List.mem_of_getElem? (i := 696) (by decide +kernel), List.mem_of_getElem? (i := 875) (by decide +kernel), List.mem_of_getElem? (i := 876) (by decide +kernel)⟩
theorem lw_p36 : lw_okq (⟨"FibredSpacesModel", "a", "(II)I"⟩, 32) := ⟨⟨by decide +kernel, by decide +kernel⟩, List.mem_of_getElem? (i := 696) (by decide +kernel), List.mem_of_getElem? (i := 879) (by decide +kernel), List.mem_of_getElem? (i := 880) (by decide +kernel)⟩
theorem lw_p37 : lw_okq (⟨"FibredSpacesModel", "b", "(II)I"⟩, 32) := ⟨⟨by decide +kernel, by decide +kernel⟩, List.mem_of_getElem? (i := 696) (by decide +kernel), List.mem_of_getElem? (i := 883) (by decide +kernel), List.mem_of_getElem? (i := 884) (by decide +kernel)⟩
theorem lw_p38 : lw_okq (⟨"FibredSpacesModel", "isMade", "(I)Z"⟩, 32) := ⟨⟨by decide +kernel, by decide +kernel⟩, List.mem_of_getElem? (i := 696) (by decide +kernel), List.mem_of_getElem? (i := 887) (by decide +kernel), List.mem_of_getElem? (i := 888) (by decide +kernel)⟩
theorem lw_p39 : lw_okq (⟨"FibredSpacesModel", "isFree", "(II)Z"⟩, 32) := ⟨⟨by decide +kernel, by decide +kernel⟩, List.mem_of_getElem? (i := 696) (by decide +kernel), List.mem_of_getElem? (i := 911) (by decide +kernel), List.mem_of_getElem? (i := 912) (by decide +kernel)⟩
theorem lw_p40 : lw_okq (⟨"FibredSpacesModel", "findEuler", "(I)V"⟩, 32) := ⟨⟨by decide +kernel, by decide +kernel⟩, List.mem_of_getElem? (i := 696) (by decide +kernel), List.mem_of_getElem? (i := 933) (by decide +kernel), List.mem_of_getElem? (i := 934) (by decide +kernel)⟩
theorem lw_p41 : lw_okq (⟨"FibredSpacesModel", "least", "()V"⟩, 32) := ⟨⟨by decide +kernel, by decide +kernel⟩, List.mem_of_getElem? (i := 696) (by decide +kernel), List.mem_of_getElem? (i := 937) (by decide +kernel), List.mem_of_getElem? (i := 938) (by decide +kernel)⟩
theorem lw_p42 : lw_okq (⟨"FibredSpacesModel", "findOver", "(I)V"⟩, 32) := ⟨⟨by decide +kernel, by decide +kernel⟩, List.mem_of_getElem? (i := 696) (by decide +kernel), List.mem_of_getElem? (i := 945) (by decide +kernel), List.mem_of_getElem? (i := 946) (by decide +kernel)⟩
theorem lw_p43 : lw_okq (⟨"FibredSpacesModel", "findRows", "(I)V"⟩, 32) := ⟨⟨by decide +kernel, by decide +kernel⟩, List.mem_of_getElem? (i := 696) (by decide +kernel), List.mem_of_getElem? (i := 954) (by decide +kernel), List.mem_of_getElem? (i := 955) (by decide +kernel)⟩
theorem lw_p44 : lw_okq (⟨"FibredSpacesModel", "sortRows", "(I)V"⟩, 32) := ⟨⟨by decide +kernel, by decide +kernel⟩, List.mem_of_getElem? (i := 696) (by decide +kernel), List.mem_of_getElem? (i := 958) (by decide +kernel), List.mem_of_getElem? (i := 959) (by decide +kernel)⟩
theorem lw_p45 : lw_okq (⟨"FibredSpacesModel", "findTwos", "(I)V"⟩, 32) := ⟨⟨by decide +kernel, by decide +kernel⟩, List.mem_of_getElem? (i := 696) (by decide +kernel), List.mem_of_getElem? (i := 962) (by decide +kernel), List.mem_of_getElem? (i := 963) (by decide +kernel)⟩
theorem lw_p46 : lw_okq (⟨"FibredSpacesModel", "clears", "(II)I"⟩, 32) := ⟨⟨by decide +kernel, by decide +kernel⟩, List.mem_of_getElem? (i := 696) (by decide +kernel), List.mem_of_getElem? (i := 966) (by decide +kernel), List.mem_of_getElem? (i := 967) (by decide +kernel)⟩
theorem lw_p47 : lw_okq (⟨"FibredSpacesModel", "dropOnes", "()V"⟩, 32) := ⟨⟨by decide +kernel, by decide +kernel⟩, List.mem_of_getElem? (i := 696) (by decide +kernel), List.mem_of_getElem? (i := 976) (by decide +kernel), List.mem_of_getElem? (i := 977) (by decide +kernel)⟩
def lw_privs_3 : List (MethodName × Nat) := [(⟨"FibredSpacesModel", "note", "()V"⟩, 32), (⟨"FibredSpacesModel", "isMirrored", "(II)Z"⟩, 32), (⟨"FibredSpacesModel", "makeTimes", "(II)V"⟩, 32), (⟨"FibredSpacesModel", "fibres", "(I)I"⟩, 32), (⟨"FibredSpacesModel", "a", "(II)I"⟩, 32), (⟨"FibredSpacesModel", "b", "(II)I"⟩, 32), (⟨"FibredSpacesModel", "isMade", "(I)Z"⟩, 32), (⟨"FibredSpacesModel", "isFree", "(II)Z"⟩, 32), (⟨"FibredSpacesModel", "findEuler", "(I)V"⟩, 32), (⟨"FibredSpacesModel", "least", "()V"⟩, 32), (⟨"FibredSpacesModel", "findOver", "(I)V"⟩, 32), (⟨"FibredSpacesModel", "findRows", "(I)V"⟩, 32), (⟨"FibredSpacesModel", "sortRows", "(I)V"⟩, 32), (⟨"FibredSpacesModel", "findTwos", "(I)V"⟩, 32), (⟨"FibredSpacesModel", "clears", "(II)I"⟩, 32), (⟨"FibredSpacesModel", "dropOnes", "()V"⟩, 32)]
theorem lw_r3 : ∀ q ∈ lw_privs_3, lw_okq q := List.forall_mem_cons.mpr ⟨lw_p32, List.forall_mem_cons.mpr ⟨lw_p33, List.forall_mem_cons.mpr ⟨lw_p34, List.forall_mem_cons.mpr ⟨lw_p35, List.forall_mem_cons.mpr ⟨lw_p36, List.forall_mem_cons.mpr ⟨lw_p37, List.forall_mem_cons.mpr ⟨lw_p38, List.forall_mem_cons.mpr ⟨lw_p39, List.forall_mem_cons.mpr ⟨lw_p40, List.forall_mem_cons.mpr ⟨lw_p41, List.forall_mem_cons.mpr ⟨lw_p42, List.forall_mem_cons.mpr ⟨lw_p43, List.forall_mem_cons.mpr ⟨lw_p44, List.forall_mem_cons.mpr ⟨lw_p45, List.forall_mem_cons.mpr ⟨lw_p46, List.forall_mem_cons.mpr ⟨lw_p47, fun _ h => absurd h List.not_mem_nil⟩⟩⟩⟩⟩⟩⟩⟩⟩⟩⟩⟩⟩⟩⟩⟩
theorem lw_p48 : lw_okq (⟨"FibredSpacesModel", "order", "(I)J"⟩, 32) := ⟨⟨by decide +kernel, by decide +kernel⟩, List.mem_of_getElem? (i := 696) (by decide +kernel), List.mem_of_getElem? (i := 980) (by decide +kernel), List.mem_of_getElem? (i := 981) (by decide +kernel)⟩
theorem lw_p49 : lw_okq (⟨"FibredSpacesModel", "rank", "(I)I"⟩, 32) := ⟨⟨by decide +kernel, by decide +kernel⟩, List.mem_of_getElem? (i := 696) (by decide +kernel), List.mem_of_getElem? (i := 984) (by decide +kernel), List.mem_of_getElem? (i := 985) (by decide +kernel)⟩
theorem lw_p50 : lw_okq (⟨"FibredSpacesModel", "isFlat", "(I)Z"⟩, 32) := ⟨⟨by decide +kernel, by decide +kernel⟩, List.mem_of_getElem? (i := 696) (by decide +kernel), List.mem_of_getElem? (i := 988) (by decide +kernel), List.mem_of_getElem? (i := 989) (by decide +kernel)⟩
theorem lw_p51 : lw_okq (⟨"FibredSpacesModel", "geometry", "(I)I"⟩, 32) := ⟨⟨by decide +kernel, by decide +kernel⟩, List.mem_of_getElem? (i := 696) (by decide +kernel), List.mem_of_getElem? (i := 998) (by decide +kernel), List.mem_of_getElem? (i := 999) (by decide +kernel)⟩
theorem lw_p52 : lw_okq (⟨"FibredSpacesModel", "mapsBy", "(II)J"⟩, 32) := ⟨⟨by decide +kernel, by decide +kernel⟩, List.mem_of_getElem? (i := 696) (by decide +kernel), List.mem_of_getElem? (i := 1015) (by decide +kernel), List.mem_of_getElem? (i := 1016) (by decide +kernel)⟩
theorem lw_p53 : lw_okq (⟨"FibredSpacesModel", "beginWays", "()V"⟩, 32) := ⟨⟨by decide +kernel, by decide +kernel⟩, List.mem_of_getElem? (i := 696) (by decide +kernel), List.mem_of_getElem? (i := 1019) (by decide +kernel), List.mem_of_getElem? (i := 1020) (by decide +kernel)⟩
theorem lw_p54 : lw_okq (⟨"FibredSpacesModel", "giveFibre", "(IIII)V"⟩, 32) := ⟨⟨by decide +kernel, by decide +kernel⟩, List.mem_of_getElem? (i := 696) (by decide +kernel), List.mem_of_getElem? (i := 1023) (by decide +kernel), List.mem_of_getElem? (i := 1024) (by decide +kernel)⟩
theorem lw_p55 : lw_okq (⟨"FibredSpacesModel", "takeThen", "(I)V"⟩, 32) := ⟨⟨by decide +kernel, by decide +kernel⟩, List.mem_of_getElem? (i := 696) (by decide +kernel), List.mem_of_getElem? (i := 1027) (by decide +kernel), List.mem_of_getElem? (i := 1028) (by decide +kernel)⟩
theorem lw_p56 : lw_okq (⟨"FibredSpacesModel", "giveTwice", "(I)V"⟩, 32) := ⟨⟨by decide +kernel, by decide +kernel⟩, List.mem_of_getElem? (i := 696) (by decide +kernel), List.mem_of_getElem? (i := 1031) (by decide +kernel), List.mem_of_getElem? (i := 1032) (by decide +kernel)⟩
theorem lw_p57 : lw_okq (⟨"FibredSpacesModel", "give", "(IJ)V"⟩, 32) := ⟨⟨by decide +kernel, by decide +kernel⟩, List.mem_of_getElem? (i := 696) (by decide +kernel), List.mem_of_getElem? (i := 1048) (by decide +kernel), List.mem_of_getElem? (i := 1049) (by decide +kernel)⟩
theorem lw_p58 : lw_okq (⟨"FibredSpacesModel", "giveTwo", "(I)V"⟩, 32) := ⟨⟨by decide +kernel, by decide +kernel⟩, List.mem_of_getElem? (i := 696) (by decide +kernel), List.mem_of_getElem? (i := 1052) (by decide +kernel), List.mem_of_getElem? (i := 1053) (by decide +kernel)⟩
theorem lw_p59 : lw_okq (⟨"FibredSpacesModel", "giveOne", "(I)V"⟩, 32) := ⟨⟨by decide +kernel, by decide +kernel⟩, List.mem_of_getElem? (i := 696) (by decide +kernel), List.mem_of_getElem? (i := 1059) (by decide +kernel), List.mem_of_getElem? (i := 1060) (by decide +kernel)⟩
theorem lw_p60 : lw_okq (⟨"FibredSpacesModel", "findLens", "(I)V"⟩, 32) := ⟨⟨by decide +kernel, by decide +kernel⟩, List.mem_of_getElem? (i := 696) (by decide +kernel), List.mem_of_getElem? (i := 1068) (by decide +kernel), List.mem_of_getElem? (i := 1069) (by decide +kernel)⟩
theorem lw_p61 : lw_okq (⟨"FibredSpacesModel", "chooseLeast", "()V"⟩, 32) := ⟨⟨by decide +kernel, by decide +kernel⟩, List.mem_of_getElem? (i := 696) (by decide +kernel), List.mem_of_getElem? (i := 1078) (by decide +kernel), List.mem_of_getElem? (i := 1079) (by decide +kernel)⟩
theorem lw_p62 : lw_okq (⟨"FibredSpacesModel", "alike", "(II)I"⟩, 32) := ⟨⟨by decide +kernel, by decide +kernel⟩, List.mem_of_getElem? (i := 696) (by decide +kernel), List.mem_of_getElem? (i := 1099) (by decide +kernel), List.mem_of_getElem? (i := 1100) (by decide +kernel)⟩
theorem lw_p63 : lw_okq (⟨"FibredSpacesModel", "allFibres", "()I"⟩, 32) := ⟨⟨by decide +kernel, by decide +kernel⟩, List.mem_of_getElem? (i := 696) (by decide +kernel), List.mem_of_getElem? (i := 1107) (by decide +kernel), List.mem_of_getElem? (i := 1108) (by decide +kernel)⟩
def lw_privs_4 : List (MethodName × Nat) := [(⟨"FibredSpacesModel", "order", "(I)J"⟩, 32), (⟨"FibredSpacesModel", "rank", "(I)I"⟩, 32), (⟨"FibredSpacesModel", "isFlat", "(I)Z"⟩, 32), (⟨"FibredSpacesModel", "geometry", "(I)I"⟩, 32), (⟨"FibredSpacesModel", "mapsBy", "(II)J"⟩, 32), (⟨"FibredSpacesModel", "beginWays", "()V"⟩, 32), (⟨"FibredSpacesModel", "giveFibre", "(IIII)V"⟩, 32), (⟨"FibredSpacesModel", "takeThen", "(I)V"⟩, 32), (⟨"FibredSpacesModel", "giveTwice", "(I)V"⟩, 32), (⟨"FibredSpacesModel", "give", "(IJ)V"⟩, 32), (⟨"FibredSpacesModel", "giveTwo", "(I)V"⟩, 32), (⟨"FibredSpacesModel", "giveOne", "(I)V"⟩, 32), (⟨"FibredSpacesModel", "findLens", "(I)V"⟩, 32), (⟨"FibredSpacesModel", "chooseLeast", "()V"⟩, 32), (⟨"FibredSpacesModel", "alike", "(II)I"⟩, 32), (⟨"FibredSpacesModel", "allFibres", "()I"⟩, 32)]
theorem lw_r4 : ∀ q ∈ lw_privs_4, lw_okq q := List.forall_mem_cons.mpr ⟨lw_p48, List.forall_mem_cons.mpr ⟨lw_p49, List.forall_mem_cons.mpr ⟨lw_p50, List.forall_mem_cons.mpr ⟨lw_p51, List.forall_mem_cons.mpr ⟨lw_p52, List.forall_mem_cons.mpr ⟨lw_p53, List.forall_mem_cons.mpr ⟨lw_p54, List.forall_mem_cons.mpr ⟨lw_p55, List.forall_mem_cons.mpr ⟨lw_p56, List.forall_mem_cons.mpr ⟨lw_p57, List.forall_mem_cons.mpr ⟨lw_p58, List.forall_mem_cons.mpr ⟨lw_p59, List.forall_mem_cons.mpr ⟨lw_p60, List.forall_mem_cons.mpr ⟨lw_p61, List.forall_mem_cons.mpr ⟨lw_p62, List.forall_mem_cons.mpr ⟨lw_p63, fun _ h => absurd h List.not_mem_nil⟩⟩⟩⟩⟩⟩⟩⟩⟩⟩⟩⟩⟩⟩⟩⟩
def lw_privs : List (MethodName × Nat) := lw_privs_1 ++ (lw_privs_2 ++ (lw_privs_3 ++ (lw_privs_4)))
def lw_tbl : List Cond := k2_sels lw_privs ++ tables_1
theorem lw_privs_ok : ∀ q ∈ lw_privs, lw_okq q := by
  show ∀ q ∈ lw_privs_1 ++ (lw_privs_2 ++ (lw_privs_3 ++ (lw_privs_4))), lw_okq q
  exact List.forall_mem_append.mpr ⟨lw_r1, List.forall_mem_append.mpr ⟨lw_r2, List.forall_mem_append.mpr ⟨lw_r3, lw_r4⟩⟩⟩
end
section
def RX0 : String := "FibredSpaces$Fraction"
def TX0 : u_T := fun k => match k with
  | 0 => ("FibredSpaces$Fraction", "top", "J", false)
  | _ => ("FibredSpaces$Fraction", "bottom", "J", false)
def tyX0 : Nat → FieldType := fun k => match k with
  | 0 => .long
  | _ => .long
abbrev wsX00 : List Cond := u_ws RX0 TX0 2
theorem nmX0 : ∀ a, a < 2 → ∀ b, b < 2 → a ≠ b → (TX0 a).2.1 ≠ (TX0 b).2.1 := by decide +kernel
theorem tyX0_ok : ∀ k, k < 2 → parseFieldDescriptor (TX0 k).2.2.1 = some (tyX0 k) := by decide +kernel
abbrev cX0_init : ByteArray := prog_2_method_1_code
def yX0_init : MethodName := ⟨RX0, "<init>", "()V"⟩
abbrev cX0_reduce : ByteArray := prog_2_method_2_code
def yX0_reduce : MethodName := ⟨RX0, "reduce", "(JJ)V"⟩
def RX1 : String := "FibredSpaces$History"
def TX1 : u_T := fun k => match k with
  | 0 => ("FibredSpaces$History", "before", "[LFibredSpaces$Shelf;", true)
  | 1 => ("FibredSpaces$History", "next", "I", false)
  | _ => ("FibredSpaces$History", "size", "I", false)
def tyX1 : Nat → FieldType := fun k => match k with
  | 0 => .array (.object "FibredSpaces$Shelf")
  | 1 => .int
  | _ => .int
abbrev wsX10 : List Cond := u_ws RX1 TX1 3
theorem nmX1 : ∀ a, a < 3 → ∀ b, b < 3 → a ≠ b → (TX1 a).2.1 ≠ (TX1 b).2.1 := by decide +kernel
theorem tyX1_ok : ∀ k, k < 3 → parseFieldDescriptor (TX1 k).2.2.1 = some (tyX1 k) := by decide +kernel
abbrev cX1_init : ByteArray := prog_3_method_1_code
def yX1_init : MethodName := ⟨RX1, "<init>", "()V"⟩
abbrev cX1_save : ByteArray := prog_3_method_2_code
def yX1_save : MethodName := ⟨RX1, "save", "(LFibredSpaces$Shelf;)V"⟩
abbrev cX1_restore : ByteArray := prog_3_method_3_code
def yX1_restore : MethodName := ⟨RX1, "restore", "(LFibredSpaces$Shelf;)V"⟩
def RX2 : String := "FibredSpaces$Homology"
def TX2 : u_T := fun k => match k with
  | 0 => ("FibredSpaces$Homology", "chain", "[J", true)
  | 1 => ("FibredSpaces$Homology", "torsion", "[J", true)
  | 2 => ("FibredSpaces$Homology", "size", "I", false)
  | _ => ("FibredSpaces$Homology", "rank", "I", false)
def tyX2 : Nat → FieldType := fun k => match k with
  | 0 => .array .long
  | 1 => .array .long
  | 2 => .int
  | _ => .int
abbrev wsX20 : List Cond := u_ws RX2 TX2 4
theorem nmX2 : ∀ a, a < 4 → ∀ b, b < 4 → a ≠ b → (TX2 a).2.1 ≠ (TX2 b).2.1 := by decide +kernel
theorem tyX2_ok : ∀ k, k < 4 → parseFieldDescriptor (TX2 k).2.2.1 = some (tyX2 k) := by decide +kernel
abbrev cX2_init : ByteArray := prog_4_method_1_code
def yX2_init : MethodName := ⟨RX2, "<init>", "()V"⟩
abbrev cX2_study : ByteArray := prog_4_method_2_code
def yX2_study : MethodName := ⟨RX2, "study", "(LFibredSpaces$Space;)V"⟩
abbrev cX2_makeChain : ByteArray := prog_4_method_3_code
def yX2_makeChain : MethodName := ⟨RX2, "makeChain", "(LFibredSpaces$Space;)V"⟩
abbrev cX2_product : ByteArray := prog_4_method_4_code
def yX2_product : MethodName := ⟨RX2, "product", "(I)J"⟩
abbrev cX2_add : ByteArray := prog_4_method_5_code
def yX2_add : MethodName := ⟨RX2, "add", "(J)V"⟩
abbrev cX2_order : ByteArray := prog_4_method_6_code
def yX2_order : MethodName := ⟨RX2, "order", "()J"⟩
abbrev cX2_mapsInto : ByteArray := prog_4_method_7_code
def yX2_mapsInto : MethodName := ⟨RX2, "mapsInto", "(I)J"⟩
def RX3 : String := "FibredSpaces$LensSpace"
def TX3 : u_T := fun k => match k with
  | 0 => ("FibredSpaces$LensSpace", "p", "J", false)
  | _ => ("FibredSpaces$LensSpace", "q", "J", false)
def tyX3 : Nat → FieldType := fun k => match k with
  | 0 => .long
  | _ => .long
abbrev wsX30 : List Cond := u_ws RX3 TX3 2
theorem nmX3 : ∀ a, a < 2 → ∀ b, b < 2 → a ≠ b → (TX3 a).2.1 ≠ (TX3 b).2.1 := by decide +kernel
theorem tyX3_ok : ∀ k, k < 2 → parseFieldDescriptor (TX3 k).2.2.1 = some (tyX3 k) := by decide +kernel
abbrev cX3_init : ByteArray := prog_5_method_1_code
def yX3_init : MethodName := ⟨RX3, "<init>", "()V"⟩
abbrev cX3_study : ByteArray := prog_5_method_2_code
def yX3_study : MethodName := ⟨RX3, "study", "(LFibredSpaces$Space;)V"⟩
abbrev cX3_leastOf : ByteArray := prog_5_method_3_code
def yX3_leastOf : MethodName := ⟨RX3, "leastOf", "(J)J"⟩
def RX4 : String := "FibredSpaces$Numbers"
def TX4 : u_T := fun k => match k with
  | _ => ("", "", "", false)
def tyX4 : Nat → FieldType := fun k => match k with
  | _ => .int
abbrev wsX40 : List Cond := u_ws RX4 TX4 0
theorem nmX4 : ∀ a, a < 0 → ∀ b, b < 0 → a ≠ b → (TX4 a).2.1 ≠ (TX4 b).2.1 := by decide +kernel
theorem tyX4_ok : ∀ k, k < 0 → parseFieldDescriptor (TX4 k).2.2.1 = some (tyX4 k) := by decide +kernel
abbrev cX4_gcd : ByteArray := prog_6_method_2_code
def yX4_gcd : MethodName := ⟨RX4, "gcd", "(JJ)J"⟩
abbrev cX4_quotient : ByteArray := prog_6_method_3_code
def yX4_quotient : MethodName := ⟨RX4, "quotient", "(JJ)J"⟩
abbrev cX4_modulo : ByteArray := prog_6_method_4_code
def yX4_modulo : MethodName := ⟨RX4, "modulo", "(JJ)J"⟩
abbrev cX4_inverse : ByteArray := prog_6_method_5_code
def yX4_inverse : MethodName := ⟨RX4, "inverse", "(JJ)J"⟩
def RX5 : String := "FibredSpaces$Permuting"
def TX5 : u_T := fun k => match k with
  | 0 => ("FibredSpaces$Permuting", "ways", "[J", true)
  | 1 => ("FibredSpaces$Permuting", "step", "[J", true)
  | _ => ("FibredSpaces$Permuting", "next", "[J", true)
def tyX5 : Nat → FieldType := fun k => match k with
  | 0 => .array .long
  | 1 => .array .long
  | _ => .array .long
abbrev wsX50 : List Cond := u_ws RX5 TX5 3
theorem nmX5 : ∀ a, a < 3 → ∀ b, b < 3 → a ≠ b → (TX5 a).2.1 ≠ (TX5 b).2.1 := by decide +kernel
theorem tyX5_ok : ∀ k, k < 3 → parseFieldDescriptor (TX5 k).2.2.1 = some (tyX5 k) := by decide +kernel
abbrev cX5_init : ByteArray := prog_7_method_1_code
def yX5_init : MethodName := ⟨RX5, "<init>", "()V"⟩
abbrev cX5_ways : ByteArray := prog_7_method_2_code
def yX5_ways : MethodName := ⟨RX5, "ways", "(LFibredSpaces$Space;)J"⟩
abbrev cX5_waysWith : ByteArray := prog_7_method_3_code
def yX5_waysWith : MethodName := ⟨RX5, "waysWith", "(LFibredSpaces$Space;I)J"⟩
abbrev cX5_stepFibre : ByteArray := prog_7_method_4_code
def yX5_stepFibre : MethodName := ⟨RX5, "stepFibre", "(III)V"⟩
abbrev cX5_stepHandle : ByteArray := prog_7_method_5_code
def yX5_stepHandle : MethodName := ⟨RX5, "stepHandle", "(I)V"⟩
abbrev cX5_stepCrosscap : ByteArray := prog_7_method_6_code
def yX5_stepCrosscap : MethodName := ⟨RX5, "stepCrosscap", "(I)V"⟩
abbrev cX5_multiply : ByteArray := prog_7_method_7_code
def yX5_multiply : MethodName := ⟨RX5, "multiply", "()V"⟩
abbrev cX5_commute : ByteArray := prog_7_method_8_code
def yX5_commute : MethodName := ⟨RX5, "commute", "(II)Z"⟩
abbrev cX5_times : ByteArray := prog_7_method_9_code
def yX5_times : MethodName := ⟨RX5, "times", "(II)I"⟩
abbrev cX5_inverse : ByteArray := prog_7_method_10_code
def yX5_inverse : MethodName := ⟨RX5, "inverse", "(I)I"⟩
abbrev cX5_power : ByteArray := prog_7_method_11_code
def yX5_power : MethodName := ⟨RX5, "power", "(II)I"⟩
def RX6 : String := "FibredSpaces$Shelf"
def TX6 : u_T := fun k => match k with
  | _ => ("FibredSpaces$Shelf", "spaces", "[LFibredSpaces$Space;", true)
def tyX6 : Nat → FieldType := fun k => match k with
  | _ => .array (.object "FibredSpaces$Space")
abbrev wsX60 : List Cond := u_ws RX6 TX6 1
theorem nmX6 : ∀ a, a < 1 → ∀ b, b < 1 → a ≠ b → (TX6 a).2.1 ≠ (TX6 b).2.1 := by decide +kernel
theorem tyX6_ok : ∀ k, k < 1 → parseFieldDescriptor (TX6 k).2.2.1 = some (tyX6 k) := by decide +kernel
abbrev cX6_init : ByteArray := prog_8_method_1_code
def yX6_init : MethodName := ⟨RX6, "<init>", "()V"⟩
abbrev cX6_copy : ByteArray := prog_8_method_2_code
def yX6_copy : MethodName := ⟨RX6, "copy", "(LFibredSpaces$Shelf;)V"⟩
abbrev cX6_allFibres : ByteArray := prog_8_method_3_code
def yX6_allFibres : MethodName := ⟨RX6, "allFibres", "()I"⟩
def RX7 : String := "FibredSpaces$Sightings"
def TX7 : u_T := fun k => match k with
  | 0 => ("FibredSpaces$Sightings", "orders", "[I", true)
  | 1 => ("FibredSpaces$Sightings", "values", "[J", true)
  | _ => ("FibredSpaces$Sightings", "size", "I", false)
def tyX7 : Nat → FieldType := fun k => match k with
  | 0 => .array .int
  | 1 => .array .long
  | _ => .int
abbrev wsX70 : List Cond := u_ws RX7 TX7 3
theorem nmX7 : ∀ a, a < 3 → ∀ b, b < 3 → a ≠ b → (TX7 a).2.1 ≠ (TX7 b).2.1 := by decide +kernel
theorem tyX7_ok : ∀ k, k < 3 → parseFieldDescriptor (TX7 k).2.2.1 = some (tyX7 k) := by decide +kernel
abbrev cX7_init : ByteArray := prog_9_method_1_code
def yX7_init : MethodName := ⟨RX7, "<init>", "()V"⟩
abbrev cX7_add : ByteArray := prog_9_method_2_code
def yX7_add : MethodName := ⟨RX7, "add", "(IJ)V"⟩
abbrev cX7_agree : ByteArray := prog_9_method_3_code
def yX7_agree : MethodName := ⟨RX7, "agree", "(LFibredSpaces$Homology;)Z"⟩
def RX8 : String := "FibredSpaces$Space"
def TX8 : u_T := fun k => match k with
  | 0 => ("FibredSpaces$Space", "kind", "I", false)
  | 1 => ("FibredSpaces$Space", "genus", "I", false)
  | 2 => ("FibredSpaces$Space", "shift", "I", false)
  | 3 => ("FibredSpaces$Space", "fibres", "I", false)
  | 4 => ("FibredSpaces$Space", "crowded", "Z", false)
  | 5 => ("FibredSpaces$Space", "as", "[I", true)
  | _ => ("FibredSpaces$Space", "bs", "[I", true)
def tyX8 : Nat → FieldType := fun k => match k with
  | 0 => .int
  | 1 => .int
  | 2 => .int
  | 3 => .int
  | 4 => .boolean
  | 5 => .array .int
  | _ => .array .int
abbrev wsX80 : List Cond := u_ws RX8 TX8 7
theorem nmX8 : ∀ a, a < 7 → ∀ b, b < 7 → a ≠ b → (TX8 a).2.1 ≠ (TX8 b).2.1 := by decide +kernel
theorem tyX8_ok : ∀ k, k < 7 → parseFieldDescriptor (TX8 k).2.2.1 = some (tyX8 k) := by decide +kernel
abbrev cX8_init : ByteArray := prog_10_method_1_code
def yX8_init : MethodName := ⟨RX8, "<init>", "()V"⟩
abbrev cX8_start : ByteArray := prog_10_method_2_code
def yX8_start : MethodName := ⟨RX8, "start", "(III)V"⟩
abbrev cX8_copy : ByteArray := prog_10_method_3_code
def yX8_copy : MethodName := ⟨RX8, "copy", "(LFibredSpaces$Space;)V"⟩
abbrev cX8_fits : ByteArray := prog_10_method_4_code
def yX8_fits : MethodName := ⟨RX8, "fits", "()Z"⟩
abbrev cX8_put : ByteArray := prog_10_method_5_code
def yX8_put : MethodName := ⟨RX8, "put", "(II)V"⟩
abbrev cX8_insert : ByteArray := prog_10_method_6_code
def yX8_insert : MethodName := ⟨RX8, "insert", "(II)V"⟩
abbrev cX8_putAll : ByteArray := prog_10_method_7_code
def yX8_putAll : MethodName := ⟨RX8, "putAll", "(LFibredSpaces$Space;I)V"⟩
abbrev cX8_becomeMultiple : ByteArray := prog_10_method_8_code
def yX8_becomeMultiple : MethodName := ⟨RX8, "becomeMultiple", "(LFibredSpaces$Space;I)V"⟩
abbrev cX8_becomePart : ByteArray := prog_10_method_9_code
def yX8_becomePart : MethodName := ⟨RX8, "becomePart", "(LFibredSpaces$Space;I)Z"⟩
abbrev cX8_becomeJoin : ByteArray := prog_10_method_10_code
def yX8_becomeJoin : MethodName := ⟨RX8, "becomeJoin", "(LFibredSpaces$Space;LFibredSpaces$Space;)V"⟩
abbrev cX8_genusAs : ByteArray := prog_10_method_11_code
def yX8_genusAs : MethodName := ⟨RX8, "genusAs", "(I)I"⟩
abbrev cX8_becomeWithout : ByteArray := prog_10_method_12_code
def yX8_becomeWithout : MethodName := ⟨RX8, "becomeWithout", "(LFibredSpaces$Space;I)V"⟩
abbrev cX8_becomeCovering : ByteArray := prog_10_method_13_code
def yX8_becomeCovering : MethodName := ⟨RX8, "becomeCovering", "(LFibredSpaces$Space;I)V"⟩
abbrev cX8_sameAs : ByteArray := prog_10_method_14_code
def yX8_sameAs : MethodName := ⟨RX8, "sameAs", "(LFibredSpaces$Space;)Z"⟩
abbrev cX8_isCoprimeTo : ByteArray := prog_10_method_15_code
def yX8_isCoprimeTo : MethodName := ⟨RX8, "isCoprimeTo", "(I)Z"⟩
abbrev cX8_allA : ByteArray := prog_10_method_16_code
def yX8_allA : MethodName := ⟨RX8, "allA", "()J"⟩
abbrev cX8_eulerTop : ByteArray := prog_10_method_17_code
def yX8_eulerTop : MethodName := ⟨RX8, "eulerTop", "()J"⟩
abbrev cX8_characteristicTop : ByteArray := prog_10_method_18_code
def yX8_characteristicTop : MethodName := ⟨RX8, "characteristicTop", "()J"⟩
abbrev cX8_geometry : ByteArray := prog_10_method_19_code
def yX8_geometry : MethodName := ⟨RX8, "geometry", "()I"⟩
def RX9 : String := "FibredSpaces$Telling"
def TX9 : u_T := fun k => match k with
  | 0 => ("FibredSpaces$Telling", "bytes", "[I", true)
  | 1 => ("FibredSpaces$Telling", "length", "I", false)
  | 2 => ("FibredSpaces$Telling", "at", "I", false)
  | 3 => ("FibredSpaces$Telling", "token", "I", false)
  | 4 => ("FibredSpaces$Telling", "tokenAt", "I", false)
  | 5 => ("FibredSpaces$Telling", "value", "I", false)
  | 6 => ("FibredSpaces$Telling", "items", "I", false)
  | 7 => ("FibredSpaces$Telling", "pairs", "I", false)
  | _ => ("FibredSpaces$Telling", "crookedPairs", "I", false)
def tyX9 : Nat → FieldType := fun k => match k with
  | 0 => .array .int
  | 1 => .int
  | 2 => .int
  | 3 => .int
  | 4 => .int
  | 5 => .int
  | 6 => .int
  | 7 => .int
  | _ => .int
abbrev wsX90 : List Cond := u_ws RX9 TX9 9
theorem nmX9 : ∀ a, a < 9 → ∀ b, b < 9 → a ≠ b → (TX9 a).2.1 ≠ (TX9 b).2.1 := by decide +kernel
theorem tyX9_ok : ∀ k, k < 9 → parseFieldDescriptor (TX9 k).2.2.1 = some (tyX9 k) := by decide +kernel
abbrev cX9_init : ByteArray := prog_11_method_1_code
def yX9_init : MethodName := ⟨RX9, "<init>", "()V"⟩
abbrev cX9_append : ByteArray := prog_11_method_2_code
def yX9_append : MethodName := ⟨RX9, "append", "(I)V"⟩
abbrev cX9_describe : ByteArray := prog_11_method_3_code
def yX9_describe : MethodName := ⟨RX9, "describe", "(LFibredSpaces$Space;)I"⟩
abbrev cX9_readItem : ByteArray := prog_11_method_4_code
def yX9_readItem : MethodName := ⟨RX9, "readItem", "(LFibredSpaces$Space;)Z"⟩
abbrev cX9_readBase : ByteArray := prog_11_method_5_code
def yX9_readBase : MethodName := ⟨RX9, "readBase", "(LFibredSpaces$Space;)Z"⟩
abbrev cX9_readPair : ByteArray := prog_11_method_6_code
def yX9_readPair : MethodName := ⟨RX9, "readPair", "(LFibredSpaces$Space;)Z"⟩
abbrev cX9_isNumber : ByteArray := prog_11_method_7_code
def yX9_isNumber : MethodName := ⟨RX9, "isNumber", "(II)Z"⟩
abbrev cX9_advance : ByteArray := prog_11_method_8_code
def yX9_advance : MethodName := ⟨RX9, "advance", "()V"⟩
abbrev cX9_readNumber : ByteArray := prog_11_method_9_code
def yX9_readNumber : MethodName := ⟨RX9, "readNumber", "()V"⟩
abbrev cX9_isDigit : ByteArray := prog_11_method_10_code
def yX9_isDigit : MethodName := ⟨RX9, "isDigit", "(I)Z"⟩
abbrev cX9_byteAt : ByteArray := prog_11_method_11_code
def yX9_byteAt : MethodName := ⟨RX9, "byteAt", "(I)I"⟩
def RX10 : String := "FibredSpaces"
def TX10 : u_T := fun k => match k with
  | 0 => ("FibredSpaces", "shelf", "LFibredSpaces$Shelf;", true)
  | 1 => ("FibredSpaces", "history", "LFibredSpaces$History;", true)
  | 2 => ("FibredSpaces", "images", "[LFibredSpaces$Shelf;", true)
  | 3 => ("FibredSpaces", "saved", "[Z", true)
  | 4 => ("FibredSpaces", "telling", "LFibredSpaces$Telling;", true)
  | 5 => ("FibredSpaces", "sightings", "LFibredSpaces$Sightings;", true)
  | 6 => ("FibredSpaces", "draft", "LFibredSpaces$Space;", true)
  | 7 => ("FibredSpaces", "homology", "LFibredSpaces$Homology;", true)
  | 8 => ("FibredSpaces", "fraction", "LFibredSpaces$Fraction;", true)
  | 9 => ("FibredSpaces", "permuting", "LFibredSpaces$Permuting;", true)
  | 10 => ("FibredSpaces", "lensSpace", "LFibredSpaces$LensSpace;", true)
  | _ => ("FibredSpaces", "answers", "[J", true)
def tyX10 : Nat → FieldType := fun k => match k with
  | 0 => .object "FibredSpaces$Shelf"
  | 1 => .object "FibredSpaces$History"
  | 2 => .array (.object "FibredSpaces$Shelf")
  | 3 => .array .boolean
  | 4 => .object "FibredSpaces$Telling"
  | 5 => .object "FibredSpaces$Sightings"
  | 6 => .object "FibredSpaces$Space"
  | 7 => .object "FibredSpaces$Homology"
  | 8 => .object "FibredSpaces$Fraction"
  | 9 => .object "FibredSpaces$Permuting"
  | 10 => .object "FibredSpaces$LensSpace"
  | _ => .array .long
abbrev wsX100 : List Cond := u_ws RX10 TX10 12
theorem nmX10 : ∀ a, a < 12 → ∀ b, b < 12 → a ≠ b → (TX10 a).2.1 ≠ (TX10 b).2.1 := by decide +kernel
theorem tyX10_ok : ∀ k, k < 12 → parseFieldDescriptor (TX10 k).2.2.1 = some (tyX10 k) := by decide +kernel
abbrev cX10_init : ByteArray := prog_1_method_1_code
def yX10_init : MethodName := ⟨RX10, "<init>", "()V"⟩
abbrev cX10_type : ByteArray := prog_1_method_2_code
def yX10_type : MethodName := ⟨RX10, "type", "(I)I"⟩
abbrev cX10_clear : ByteArray := prog_1_method_3_code
def yX10_clear : MethodName := ⟨RX10, "clear", "()I"⟩
abbrev cX10_tells : ByteArray := prog_1_method_4_code
def yX10_tells : MethodName := ⟨RX10, "tells", "(I)I"⟩
abbrev cX10_mirrors : ByteArray := prog_1_method_5_code
def yX10_mirrors : MethodName := ⟨RX10, "mirrors", "(I)I"⟩
abbrev cX10_joins : ByteArray := prog_1_method_6_code
def yX10_joins : MethodName := ⟨RX10, "joins", "(III)I"⟩
abbrev cX10_fills : ByteArray := prog_1_method_7_code
def yX10_fills : MethodName := ⟨RX10, "fills", "(III)I"⟩
abbrev cX10_drills : ByteArray := prog_1_method_8_code
def yX10_drills : MethodName := ⟨RX10, "drills", "(II)I"⟩
abbrev cX10_turnsOn : ByteArray := prog_1_method_9_code
def yX10_turnsOn : MethodName := ⟨RX10, "turnsOn", "(II)I"⟩
abbrev cX10_unwraps : ByteArray := prog_1_method_10_code
def yX10_unwraps : MethodName := ⟨RX10, "unwraps", "(II)I"⟩
abbrev cX10_unrolls : ByteArray := prog_1_method_11_code
def yX10_unrolls : MethodName := ⟨RX10, "unrolls", "(II)I"⟩
abbrev cX10_undo : ByteArray := prog_1_method_12_code
def yX10_undo : MethodName := ⟨RX10, "undo", "()I"⟩
abbrev cX10_space : ByteArray := prog_1_method_13_code
def yX10_space : MethodName := ⟨RX10, "space", "(II)J"⟩
abbrev cX10_fibre : ByteArray := prog_1_method_14_code
def yX10_fibre : MethodName := ⟨RX10, "fibre", "(III)I"⟩
abbrev cX10_euler : ByteArray := prog_1_method_15_code
def yX10_euler : MethodName := ⟨RX10, "euler", "(II)J"⟩
abbrev cX10_over : ByteArray := prog_1_method_16_code
def yX10_over : MethodName := ⟨RX10, "over", "(II)J"⟩
abbrev cX10_like : ByteArray := prog_1_method_17_code
def yX10_like : MethodName := ⟨RX10, "like", "(II)I"⟩
abbrev cX10_torsion : ByteArray := prog_1_method_18_code
def yX10_torsion : MethodName := ⟨RX10, "torsion", "(II)J"⟩
abbrev cX10_maps : ByteArray := prog_1_method_19_code
def yX10_maps : MethodName := ⟨RX10, "maps", "(II)J"⟩
abbrev cX10_threes : ByteArray := prog_1_method_20_code
def yX10_threes : MethodName := ⟨RX10, "threes", "(I)J"⟩
abbrev cX10_lens : ByteArray := prog_1_method_21_code
def yX10_lens : MethodName := ⟨RX10, "lens", "(II)J"⟩
abbrev cX10_sees : ByteArray := prog_1_method_22_code
def yX10_sees : MethodName := ⟨RX10, "sees", "(IJ)I"⟩
abbrev cX10_forget : ByteArray := prog_1_method_23_code
def yX10_forget : MethodName := ⟨RX10, "forget", "()I"⟩
abbrev cX10_which : ByteArray := prog_1_method_24_code
def yX10_which : MethodName := ⟨RX10, "which", "()I"⟩
abbrev cX10_ask : ByteArray := prog_1_method_25_code
def yX10_ask : MethodName := ⟨RX10, "ask", "()I"⟩
abbrev cX10_keep : ByteArray := prog_1_method_26_code
def yX10_keep : MethodName := ⟨RX10, "keep", "(I)I"⟩
abbrev cX10_back : ByteArray := prog_1_method_27_code
def yX10_back : MethodName := ⟨RX10, "back", "(I)I"⟩
abbrev cX10_count : ByteArray := prog_1_method_28_code
def yX10_count : MethodName := ⟨RX10, "count", "(I)I"⟩
abbrev cX10_isSpace : ByteArray := prog_1_method_29_code
def yX10_isSpace : MethodName := ⟨RX10, "isSpace", "(I)Z"⟩
abbrev cX10_isFibre : ByteArray := prog_1_method_30_code
def yX10_isFibre : MethodName := ⟨RX10, "isFibre", "(II)Z"⟩
abbrev cX10_isOrder : ByteArray := prog_1_method_31_code
def yX10_isOrder : MethodName := ⟨RX10, "isOrder", "(I)Z"⟩
abbrev cX10_settle : ByteArray := prog_1_method_32_code
def yX10_settle : MethodName := ⟨RX10, "settle", "(II)I"⟩
abbrev cX10_cyclicMaps : ByteArray := prog_1_method_33_code
def yX10_cyclicMaps : MethodName := ⟨RX10, "cyclicMaps", "(II)J"⟩
abbrev cX10_candidates : ByteArray := prog_1_method_34_code
def yX10_candidates : MethodName := ⟨RX10, "candidates", "()I"⟩
abbrev cX10_greatestClass : ByteArray := prog_1_method_35_code
def yX10_greatestClass : MethodName := ⟨RX10, "greatestClass", "(II)I"⟩
def RX11 : String := "FibredSpacesModel"
def TX11 : u_T := fun k => match k with
  | 0 => ("FibredSpacesModel", "now", "[I", true)
  | 1 => ("FibredSpacesModel", "past", "[I", true)
  | 2 => ("FibredSpacesModel", "pasts", "I", false)
  | 3 => ("FibredSpacesModel", "images", "[I", true)
  | 4 => ("FibredSpacesModel", "isKept", "[Z", true)
  | 5 => ("FibredSpacesModel", "madeKind", "I", false)
  | 6 => ("FibredSpacesModel", "madeGenus", "I", false)
  | 7 => ("FibredSpacesModel", "madeShift", "I", false)
  | 8 => ("FibredSpacesModel", "madeMany", "I", false)
  | 9 => ("FibredSpacesModel", "madeA", "[I", true)
  | 10 => ("FibredSpacesModel", "madeB", "[I", true)
  | 11 => ("FibredSpacesModel", "text", "[I", true)
  | 12 => ("FibredSpacesModel", "typed", "I", false)
  | 13 => ("FibredSpacesModel", "at", "I", false)
  | 14 => ("FibredSpacesModel", "tokenAt", "I", false)
  | 15 => ("FibredSpacesModel", "token", "I", false)
  | 16 => ("FibredSpacesModel", "value", "I", false)
  | 17 => ("FibredSpacesModel", "fault", "I", false)
  | 18 => ("FibredSpacesModel", "upper", "J", false)
  | 19 => ("FibredSpacesModel", "lower", "J", false)
  | 20 => ("FibredSpacesModel", "rows", "[J", true)
  | 21 => ("FibredSpacesModel", "rowMany", "I", false)
  | 22 => ("FibredSpacesModel", "grid", "[I", true)
  | 23 => ("FibredSpacesModel", "twos", "[I", true)
  | 24 => ("FibredSpacesModel", "ways", "[J", true)
  | 25 => ("FibredSpacesModel", "then", "[J", true)
  | 26 => ("FibredSpacesModel", "lensP", "J", false)
  | 27 => ("FibredSpacesModel", "lensQ", "J", false)
  | 28 => ("FibredSpacesModel", "seen", "I", false)
  | 29 => ("FibredSpacesModel", "seenBy", "[I", true)
  | 30 => ("FibredSpacesModel", "seenMany", "[J", true)
  | _ => ("FibredSpacesModel", "told", "[J", true)
def tyX11 : Nat → FieldType := fun k => match k with
  | 0 => .array .int
  | 1 => .array .int
  | 2 => .int
  | 3 => .array .int
  | 4 => .array .boolean
  | 5 => .int
  | 6 => .int
  | 7 => .int
  | 8 => .int
  | 9 => .array .int
  | 10 => .array .int
  | 11 => .array .int
  | 12 => .int
  | 13 => .int
  | 14 => .int
  | 15 => .int
  | 16 => .int
  | 17 => .int
  | 18 => .long
  | 19 => .long
  | 20 => .array .long
  | 21 => .int
  | 22 => .array .int
  | 23 => .array .int
  | 24 => .array .long
  | 25 => .array .long
  | 26 => .long
  | 27 => .long
  | 28 => .int
  | 29 => .array .int
  | 30 => .array .long
  | _ => .array .long
abbrev wsX110 : List Cond := u_ws RX11 TX11 32
theorem nmX11 : ∀ a, a < 32 → ∀ b, b < 32 → a ≠ b → (TX11 a).2.1 ≠ (TX11 b).2.1 := by decide +kernel
theorem tyX11_ok : ∀ k, k < 32 → parseFieldDescriptor (TX11 k).2.2.1 = some (tyX11 k) := by decide +kernel
abbrev cX11_init : ByteArray := prog_13_method_1_code
def yX11_init : MethodName := ⟨RX11, "<init>", "()V"⟩
abbrev cX11_in : ByteArray := prog_13_method_2_code
def yX11_in : MethodName := ⟨RX11, "in", "(JJJ)Z"⟩
abbrev cX11_isSpace : ByteArray := prog_13_method_3_code
def yX11_isSpace : MethodName := ⟨RX11, "isSpace", "(I)Z"⟩
abbrev cX11_common : ByteArray := prog_13_method_4_code
def yX11_common : MethodName := ⟨RX11, "common", "(JJ)J"⟩
abbrev cX11_left : ByteArray := prog_13_method_5_code
def yX11_left : MethodName := ⟨RX11, "left", "(II)I"⟩
abbrev cX11_begin : ByteArray := prog_13_method_6_code
def yX11_begin : MethodName := ⟨RX11, "begin", "(III)V"⟩
abbrev cX11_add : ByteArray := prog_13_method_7_code
def yX11_add : MethodName := ⟨RX11, "add", "(II)V"⟩
abbrev cX11_a : ByteArray := prog_13_method_8_code
def yX11_a : MethodName := ⟨RX11, "a", "(II)I"⟩
abbrev cX11_b : ByteArray := prog_13_method_9_code
def yX11_b : MethodName := ⟨RX11, "b", "(II)I"⟩
abbrev cX11_fibres : ByteArray := prog_13_method_10_code
def yX11_fibres : MethodName := ⟨RX11, "fibres", "(I)I"⟩
abbrev cX11_note : ByteArray := prog_13_method_11_code
def yX11_note : MethodName := ⟨RX11, "note", "()V"⟩
abbrev cX11_lays : ByteArray := prog_13_method_12_code
def yX11_lays : MethodName := ⟨RX11, "lays", "(II)I"⟩
abbrev cX11_isMade : ByteArray := prog_13_method_13_code
def yX11_isMade : MethodName := ⟨RX11, "isMade", "(I)Z"⟩
abbrev cX11_makeTimes : ByteArray := prog_13_method_14_code
def yX11_makeTimes : MethodName := ⟨RX11, "makeTimes", "(II)V"⟩
abbrev cX11_type : ByteArray := prog_13_method_15_code
def yX11_type : MethodName := ⟨RX11, "type", "(I)I"⟩
abbrev cX11_clear : ByteArray := prog_13_method_16_code
def yX11_clear : MethodName := ⟨RX11, "clear", "()I"⟩
abbrev cX11_next : ByteArray := prog_13_method_17_code
def yX11_next : MethodName := ⟨RX11, "next", "()V"⟩
abbrev cX11_must : ByteArray := prog_13_method_18_code
def yX11_must : MethodName := ⟨RX11, "must", "(Z)V"⟩
abbrev cX11_readBase : ByteArray := prog_13_method_19_code
def yX11_readBase : MethodName := ⟨RX11, "readBase", "()V"⟩
abbrev cX11_readPair : ByteArray := prog_13_method_20_code
def yX11_readPair : MethodName := ⟨RX11, "readPair", "()V"⟩
abbrev cX11_tells : ByteArray := prog_13_method_21_code
def yX11_tells : MethodName := ⟨RX11, "tells", "(I)I"⟩
abbrev cX11_isMirrored : ByteArray := prog_13_method_22_code
def yX11_isMirrored : MethodName := ⟨RX11, "isMirrored", "(II)Z"⟩
abbrev cX11_mirrors : ByteArray := prog_13_method_23_code
def yX11_mirrors : MethodName := ⟨RX11, "mirrors", "(I)I"⟩
abbrev cX11_joins : ByteArray := prog_13_method_24_code
def yX11_joins : MethodName := ⟨RX11, "joins", "(III)I"⟩
abbrev cX11_fills : ByteArray := prog_13_method_25_code
def yX11_fills : MethodName := ⟨RX11, "fills", "(III)I"⟩
abbrev cX11_drills : ByteArray := prog_13_method_26_code
def yX11_drills : MethodName := ⟨RX11, "drills", "(II)I"⟩
abbrev cX11_isFree : ByteArray := prog_13_method_27_code
def yX11_isFree : MethodName := ⟨RX11, "isFree", "(II)Z"⟩
abbrev cX11_turnsOn : ByteArray := prog_13_method_28_code
def yX11_turnsOn : MethodName := ⟨RX11, "turnsOn", "(II)I"⟩
abbrev cX11_unwraps : ByteArray := prog_13_method_29_code
def yX11_unwraps : MethodName := ⟨RX11, "unwraps", "(II)I"⟩
abbrev cX11_unrolls : ByteArray := prog_13_method_30_code
def yX11_unrolls : MethodName := ⟨RX11, "unrolls", "(II)I"⟩
abbrev cX11_undo : ByteArray := prog_13_method_31_code
def yX11_undo : MethodName := ⟨RX11, "undo", "()I"⟩
abbrev cX11_least : ByteArray := prog_13_method_32_code
def yX11_least : MethodName := ⟨RX11, "least", "()V"⟩
abbrev cX11_findEuler : ByteArray := prog_13_method_33_code
def yX11_findEuler : MethodName := ⟨RX11, "findEuler", "(I)V"⟩
abbrev cX11_findOver : ByteArray := prog_13_method_34_code
def yX11_findOver : MethodName := ⟨RX11, "findOver", "(I)V"⟩
abbrev cX11_euler : ByteArray := prog_13_method_35_code
def yX11_euler : MethodName := ⟨RX11, "euler", "(II)J"⟩
abbrev cX11_over : ByteArray := prog_13_method_36_code
def yX11_over : MethodName := ⟨RX11, "over", "(II)J"⟩
abbrev cX11_isFlat : ByteArray := prog_13_method_37_code
def yX11_isFlat : MethodName := ⟨RX11, "isFlat", "(I)Z"⟩
abbrev cX11_geometry : ByteArray := prog_13_method_38_code
def yX11_geometry : MethodName := ⟨RX11, "geometry", "(I)I"⟩
abbrev cX11_rank : ByteArray := prog_13_method_39_code
def yX11_rank : MethodName := ⟨RX11, "rank", "(I)I"⟩
abbrev cX11_sortRows : ByteArray := prog_13_method_40_code
def yX11_sortRows : MethodName := ⟨RX11, "sortRows", "(I)V"⟩
abbrev cX11_findRows : ByteArray := prog_13_method_41_code
def yX11_findRows : MethodName := ⟨RX11, "findRows", "(I)V"⟩
abbrev cX11_dropOnes : ByteArray := prog_13_method_42_code
def yX11_dropOnes : MethodName := ⟨RX11, "dropOnes", "()V"⟩
abbrev cX11_twosOf : ByteArray := prog_13_method_43_code
def yX11_twosOf : MethodName := ⟨RX11, "twosOf", "(I)I"⟩
abbrev cX11_inverse : ByteArray := prog_13_method_44_code
def yX11_inverse : MethodName := ⟨RX11, "inverse", "(I)I"⟩
abbrev cX11_findTwos : ByteArray := prog_13_method_45_code
def yX11_findTwos : MethodName := ⟨RX11, "findTwos", "(I)V"⟩
abbrev cX11_clears : ByteArray := prog_13_method_46_code
def yX11_clears : MethodName := ⟨RX11, "clears", "(II)I"⟩
abbrev cX11_order : ByteArray := prog_13_method_47_code
def yX11_order : MethodName := ⟨RX11, "order", "(I)J"⟩
abbrev cX11_torsion : ByteArray := prog_13_method_48_code
def yX11_torsion : MethodName := ⟨RX11, "torsion", "(II)J"⟩
abbrev cX11_space : ByteArray := prog_13_method_49_code
def yX11_space : MethodName := ⟨RX11, "space", "(II)J"⟩
abbrev cX11_fibre : ByteArray := prog_13_method_50_code
def yX11_fibre : MethodName := ⟨RX11, "fibre", "(III)I"⟩
abbrev cX11_like : ByteArray := prog_13_method_51_code
def yX11_like : MethodName := ⟨RX11, "like", "(II)I"⟩
abbrev cX11_beginWays : ByteArray := prog_13_method_52_code
def yX11_beginWays : MethodName := ⟨RX11, "beginWays", "()V"⟩
abbrev cX11_takeThen : ByteArray := prog_13_method_53_code
def yX11_takeThen : MethodName := ⟨RX11, "takeThen", "(I)V"⟩
abbrev cX11_maps : ByteArray := prog_13_method_54_code
def yX11_maps : MethodName := ⟨RX11, "maps", "(II)J"⟩
abbrev cX11_mapsBy : ByteArray := prog_13_method_55_code
def yX11_mapsBy : MethodName := ⟨RX11, "mapsBy", "(II)J"⟩
abbrev cX11_giveFibre : ByteArray := prog_13_method_56_code
def yX11_giveFibre : MethodName := ⟨RX11, "giveFibre", "(IIII)V"⟩
abbrev cX11_giveTwice : ByteArray := prog_13_method_57_code
def yX11_giveTwice : MethodName := ⟨RX11, "giveTwice", "(I)V"⟩
abbrev cX11_times : ByteArray := prog_13_method_58_code
def yX11_times : MethodName := ⟨RX11, "times", "(II)I"⟩
abbrev cX11_inverted : ByteArray := prog_13_method_59_code
def yX11_inverted : MethodName := ⟨RX11, "inverted", "(I)I"⟩
abbrev cX11_power : ByteArray := prog_13_method_60_code
def yX11_power : MethodName := ⟨RX11, "power", "(II)I"⟩
abbrev cX11_commute : ByteArray := prog_13_method_61_code
def yX11_commute : MethodName := ⟨RX11, "commute", "(II)Z"⟩
abbrev cX11_threes : ByteArray := prog_13_method_62_code
def yX11_threes : MethodName := ⟨RX11, "threes", "(I)J"⟩
abbrev cX11_give : ByteArray := prog_13_method_63_code
def yX11_give : MethodName := ⟨RX11, "give", "(IJ)V"⟩
abbrev cX11_giveTwo : ByteArray := prog_13_method_64_code
def yX11_giveTwo : MethodName := ⟨RX11, "giveTwo", "(I)V"⟩
abbrev cX11_giveOne : ByteArray := prog_13_method_65_code
def yX11_giveOne : MethodName := ⟨RX11, "giveOne", "(I)V"⟩
abbrev cX11_rest : ByteArray := prog_13_method_66_code
def yX11_rest : MethodName := ⟨RX11, "rest", "(JJ)J"⟩
abbrev cX11_inverseOver : ByteArray := prog_13_method_67_code
def yX11_inverseOver : MethodName := ⟨RX11, "inverseOver", "(JJ)J"⟩
abbrev cX11_findLens : ByteArray := prog_13_method_68_code
def yX11_findLens : MethodName := ⟨RX11, "findLens", "(I)V"⟩
abbrev cX11_chooseLeast : ByteArray := prog_13_method_69_code
def yX11_chooseLeast : MethodName := ⟨RX11, "chooseLeast", "()V"⟩
abbrev cX11_lens : ByteArray := prog_13_method_70_code
def yX11_lens : MethodName := ⟨RX11, "lens", "(II)J"⟩
abbrev cX11_sees : ByteArray := prog_13_method_71_code
def yX11_sees : MethodName := ⟨RX11, "sees", "(IJ)I"⟩
abbrev cX11_forget : ByteArray := prog_13_method_72_code
def yX11_forget : MethodName := ⟨RX11, "forget", "()I"⟩
abbrev cX11_which : ByteArray := prog_13_method_73_code
def yX11_which : MethodName := ⟨RX11, "which", "()I"⟩
abbrev cX11_alike : ByteArray := prog_13_method_74_code
def yX11_alike : MethodName := ⟨RX11, "alike", "(II)I"⟩
abbrev cX11_ask : ByteArray := prog_13_method_75_code
def yX11_ask : MethodName := ⟨RX11, "ask", "()I"⟩
abbrev cX11_allFibres : ByteArray := prog_13_method_76_code
def yX11_allFibres : MethodName := ⟨RX11, "allFibres", "()I"⟩
abbrev cX11_keep : ByteArray := prog_13_method_77_code
def yX11_keep : MethodName := ⟨RX11, "keep", "(I)I"⟩
abbrev cX11_back : ByteArray := prog_13_method_78_code
def yX11_back : MethodName := ⟨RX11, "back", "(I)I"⟩
abbrev cX11_count : ByteArray := prog_13_method_79_code
def yX11_count : MethodName := ⟨RX11, "count", "(I)I"⟩
def RJ6 : String := "java/lang/Integer"
def TJ6 : u_T := fun k => match k with
  | _ => ("", "", "", false)
def tyJ6 : Nat → FieldType := fun k => match k with
  | _ => .int
abbrev wsJ60 : List Cond := u_ws RJ6 TJ6 0
theorem nmJ6 : ∀ a, a < 0 → ∀ b, b < 0 → a ≠ b → (TJ6 a).2.1 ≠ (TJ6 b).2.1 := by decide +kernel
theorem tyJ6_ok : ∀ k, k < 0 → parseFieldDescriptor (TJ6 k).2.2.1 = some (tyJ6 k) := by decide +kernel
abbrev cJ6_bitCount_0f7a4 : ByteArray := prog_14_method_49_code
def yJ6_bitCount_0f7a4 : MethodName := ⟨RJ6, "bitCount", "(I)I"⟩
def RJ13 : String := "java/lang/Long"
def TJ13 : u_T := fun k => match k with
  | _ => ("", "", "", false)
def tyJ13 : Nat → FieldType := fun k => match k with
  | _ => .int
abbrev wsJ130 : List Cond := u_ws RJ13 TJ13 0
theorem nmJ13 : ∀ a, a < 0 → ∀ b, b < 0 → a ≠ b → (TJ13 a).2.1 ≠ (TJ13 b).2.1 := by decide +kernel
theorem tyJ13_ok : ∀ k, k < 0 → parseFieldDescriptor (TJ13 k).2.2.1 = some (tyJ13 k) := by decide +kernel
abbrev cJ13_signum_95d88 : ByteArray := prog_15_method_57_code
def yJ13_signum_95d88 : MethodName := ⟨RJ13, "signum", "(J)I"⟩
def RJ9 : String := "java/lang/Math"
def TJ9 : u_T := fun k => match k with
  | _ => ("", "", "", false)
def tyJ9 : Nat → FieldType := fun k => match k with
  | _ => .int
abbrev wsJ90 : List Cond := u_ws RJ9 TJ9 0
theorem nmJ9 : ∀ a, a < 0 → ∀ b, b < 0 → a ≠ b → (TJ9 a).2.1 ≠ (TJ9 b).2.1 := by decide +kernel
theorem tyJ9_ok : ∀ k, k < 0 → parseFieldDescriptor (TJ9 k).2.2.1 = some (tyJ9 k) := by decide +kernel
abbrev cJ9_floorDiv_f86c9 : ByteArray := prog_16_method_49_code
def yJ9_floorDiv_f86c9 : MethodName := ⟨RJ9, "floorDiv", "(JJ)J"⟩
abbrev cJ9_floorMod_7cf53 : ByteArray := prog_16_method_50_code
def yJ9_floorMod_7cf53 : MethodName := ⟨RJ9, "floorMod", "(II)I"⟩
abbrev cJ9_floorMod_f86c9 : ByteArray := prog_16_method_52_code
def yJ9_floorMod_f86c9 : MethodName := ⟨RJ9, "floorMod", "(JJ)J"⟩
abbrev cJ9_abs_0f7a4 : ByteArray := prog_16_method_59_code
def yJ9_abs_0f7a4 : MethodName := ⟨RJ9, "abs", "(I)I"⟩
abbrev cJ9_abs_067f4 : ByteArray := prog_16_method_61_code
def yJ9_abs_067f4 : MethodName := ⟨RJ9, "abs", "(J)J"⟩
abbrev cJ9_max_7cf53 : ByteArray := prog_16_method_65_code
def yJ9_max_7cf53 : MethodName := ⟨RJ9, "max", "(II)I"⟩
abbrev cJ9_min_7cf53 : ByteArray := prog_16_method_69_code
def yJ9_min_7cf53 : MethodName := ⟨RJ9, "min", "(II)I"⟩
abbrev cJ9_min_f86c9 : ByteArray := prog_16_method_70_code
def yJ9_min_f86c9 : MethodName := ⟨RJ9, "min", "(JJ)J"⟩
def RJ10 : String := "java/lang/System"
def TJ10 : u_T := fun k => match k with
  | _ => ("", "", "", false)
def tyJ10 : Nat → FieldType := fun k => match k with
  | _ => .int
abbrev wsJ100 : List Cond := u_ws RJ10 TJ10 0
theorem nmJ10 : ∀ a, a < 0 → ∀ b, b < 0 → a ≠ b → (TJ10 a).2.1 ≠ (TJ10 b).2.1 := by decide +kernel
theorem tyJ10_ok : ∀ k, k < 0 → parseFieldDescriptor (TJ10 k).2.2.1 = some (tyJ10 k) := by decide +kernel
def RJ7 : String := "java/util/Arrays"
def TJ7 : u_T := fun k => match k with
  | _ => ("", "", "", false)
def tyJ7 : Nat → FieldType := fun k => match k with
  | _ => .int
abbrev wsJ70 : List Cond := u_ws RJ7 TJ7 0
theorem nmJ7 : ∀ a, a < 0 → ∀ b, b < 0 → a ≠ b → (TJ7 a).2.1 ≠ (TJ7 b).2.1 := by decide +kernel
theorem tyJ7_ok : ∀ k, k < 0 → parseFieldDescriptor (TJ7 k).2.2.1 = some (tyJ7 k) := by decide +kernel
abbrev cJ7_fill_d0a16 : ByteArray := prog_18_method_101_code
def yJ7_fill_d0a16 : MethodName := ⟨RJ7, "fill", "([JJ)V"⟩
def RL : String := "FibredSpacesLaw"
abbrev cL_law : ByteArray := code
def yL_law : MethodName := ⟨RL, "law", "([I)Z"⟩
abbrev vwCl : List vw_C := [(RX0, TX0, 2), (RX1, TX1, 3), (RX2, TX2, 4), (RX3, TX3, 2), (RX5, TX5, 3), (RX6, TX6, 1), (RX7, TX7, 3), (RX8, TX8, 7), (RX9, TX9, 9), (RX10, TX10, 12), (RX11, TX11, 32)]
end
section
theorem dX0_init_0 : decode cX0_init 0 = .ok (.aload_n 0, 1) := by decide +kernel
theorem dX0_init_1 : decode cX0_init 1 = .ok (.invokespecial 1, 3) := by decide +kernel
theorem dX0_init_4 : decode cX0_init 4 = .ok (.return_, 1) := by decide +kernel
theorem dX0_reduce_0 : decode cX0_reduce 0 = .ok (.lload_n 1, 1) := by decide +kernel
theorem dX0_reduce_1 : decode cX0_reduce 1 = .ok (.lload_n 3, 1) := by decide +kernel
theorem dX0_reduce_2 : decode cX0_reduce 2 = .ok (.invokestatic 7, 3) := by decide +kernel
theorem dX0_reduce_5 : decode cX0_reduce 5 = .ok (.lstore 5, 2) := by decide +kernel
theorem dX0_reduce_7 : decode cX0_reduce 7 = .ok (.aload_n 0, 1) := by decide +kernel
theorem dX0_reduce_8 : decode cX0_reduce 8 = .ok (.lload_n 1, 1) := by decide +kernel
theorem dX0_reduce_9 : decode cX0_reduce 9 = .ok (.lload 5, 2) := by decide +kernel
theorem dX0_reduce_11 : decode cX0_reduce 11 = .ok (.invokestatic 13, 3) := by decide +kernel
theorem dX0_reduce_14 : decode cX0_reduce 14 = .ok (.putfield 16, 3) := by decide +kernel
theorem dX0_reduce_17 : decode cX0_reduce 17 = .ok (.aload_n 0, 1) := by decide +kernel
theorem dX0_reduce_18 : decode cX0_reduce 18 = .ok (.lload_n 3, 1) := by decide +kernel
theorem dX0_reduce_19 : decode cX0_reduce 19 = .ok (.lload 5, 2) := by decide +kernel
theorem dX0_reduce_21 : decode cX0_reduce 21 = .ok (.invokestatic 13, 3) := by decide +kernel
theorem dX0_reduce_24 : decode cX0_reduce 24 = .ok (.putfield 22, 3) := by decide +kernel
theorem dX0_reduce_27 : decode cX0_reduce 27 = .ok (.return_, 1) := by decide +kernel
theorem dX1_init_0 : decode cX1_init 0 = .ok (.aload_n 0, 1) := by decide +kernel
theorem dX1_init_1 : decode cX1_init 1 = .ok (.invokespecial 3, 3) := by decide +kernel
theorem dX1_init_4 : decode cX1_init 4 = .ok (.aload_n 0, 1) := by decide +kernel
theorem dX1_init_5 : decode cX1_init 5 = .ok (.bipush 6, 2) := by decide +kernel
theorem dX1_init_7 : decode cX1_init 7 = .ok (.anewarray 9, 3) := by decide +kernel
theorem dX1_init_10 : decode cX1_init 10 = .ok (.putfield 11, 3) := by decide +kernel
theorem dX1_init_13 : decode cX1_init 13 = .ok (.iconst 0, 1) := by decide +kernel
theorem dX1_init_14 : decode cX1_init 14 = .ok (.istore_n 1, 1) := by decide +kernel
theorem dX1_init_15 : decode cX1_init 15 = .ok (.iload_n 1, 1) := by decide +kernel
theorem dX1_init_16 : decode cX1_init 16 = .ok (.bipush 6, 2) := by decide +kernel
theorem dX1_init_18 : decode cX1_init 18 = .ok (.if_icmp .ge 22, 3) := by decide +kernel
theorem dX1_init_21 : decode cX1_init 21 = .ok (.aload_n 0, 1) := by decide +kernel
theorem dX1_init_22 : decode cX1_init 22 = .ok (.getfield 11, 3) := by decide +kernel
theorem dX1_init_25 : decode cX1_init 25 = .ok (.iload_n 1, 1) := by decide +kernel
theorem dX1_init_26 : decode cX1_init 26 = .ok (.new 9, 3) := by decide +kernel
theorem dX1_init_29 : decode cX1_init 29 = .ok (.dup, 1) := by decide +kernel
theorem dX1_init_30 : decode cX1_init 30 = .ok (.invokespecial 17, 3) := by decide +kernel
theorem dX1_init_33 : decode cX1_init 33 = .ok (.aastore, 1) := by decide +kernel
theorem dX1_init_34 : decode cX1_init 34 = .ok (.iinc 1 1, 3) := by decide +kernel
theorem dX1_init_37 : decode cX1_init 37 = .ok (.goto (-22), 3) := by decide +kernel
theorem dX1_init_40 : decode cX1_init 40 = .ok (.return_, 1) := by decide +kernel
theorem dX1_save_0 : decode cX1_save 0 = .ok (.aload_n 0, 1) := by decide +kernel
theorem dX1_save_1 : decode cX1_save 1 = .ok (.getfield 11, 3) := by decide +kernel
theorem dX1_save_4 : decode cX1_save 4 = .ok (.aload_n 0, 1) := by decide +kernel
theorem dX1_save_5 : decode cX1_save 5 = .ok (.getfield 18, 3) := by decide +kernel
theorem dX1_save_8 : decode cX1_save 8 = .ok (.aaload, 1) := by decide +kernel
theorem dX1_save_9 : decode cX1_save 9 = .ok (.aload_n 1, 1) := by decide +kernel
theorem dX1_save_10 : decode cX1_save 10 = .ok (.invokevirtual 22, 3) := by decide +kernel
theorem dX1_save_13 : decode cX1_save 13 = .ok (.aload_n 0, 1) := by decide +kernel
theorem dX1_save_14 : decode cX1_save 14 = .ok (.aload_n 0, 1) := by decide +kernel
theorem dX1_save_15 : decode cX1_save 15 = .ok (.getfield 18, 3) := by decide +kernel
theorem dX1_save_18 : decode cX1_save 18 = .ok (.iconst 1, 1) := by decide +kernel
theorem dX1_save_19 : decode cX1_save 19 = .ok (.iadd, 1) := by decide +kernel
theorem dX1_save_20 : decode cX1_save 20 = .ok (.bipush 6, 2) := by decide +kernel
theorem dX1_save_22 : decode cX1_save 22 = .ok (.irem, 1) := by decide +kernel
theorem dX1_save_23 : decode cX1_save 23 = .ok (.putfield 18, 3) := by decide +kernel
theorem dX1_save_26 : decode cX1_save 26 = .ok (.aload_n 0, 1) := by decide +kernel
theorem dX1_save_27 : decode cX1_save 27 = .ok (.aload_n 0, 1) := by decide +kernel
theorem dX1_save_28 : decode cX1_save 28 = .ok (.getfield 26, 3) := by decide +kernel
theorem dX1_save_31 : decode cX1_save 31 = .ok (.iconst 1, 1) := by decide +kernel
theorem dX1_save_32 : decode cX1_save 32 = .ok (.iadd, 1) := by decide +kernel
theorem dX1_save_33 : decode cX1_save 33 = .ok (.bipush 6, 2) := by decide +kernel
theorem dX1_save_35 : decode cX1_save 35 = .ok (.invokestatic 29, 3) := by decide +kernel
theorem dX1_save_38 : decode cX1_save 38 = .ok (.putfield 26, 3) := by decide +kernel
theorem dX1_save_41 : decode cX1_save 41 = .ok (.return_, 1) := by decide +kernel
theorem dX1_restore_0 : decode cX1_restore 0 = .ok (.aload_n 0, 1) := by decide +kernel
theorem dX1_restore_1 : decode cX1_restore 1 = .ok (.aload_n 0, 1) := by decide +kernel
theorem dX1_restore_2 : decode cX1_restore 2 = .ok (.getfield 18, 3) := by decide +kernel
theorem dX1_restore_5 : decode cX1_restore 5 = .ok (.bipush 6, 2) := by decide +kernel
theorem dX1_restore_7 : decode cX1_restore 7 = .ok (.iadd, 1) := by decide +kernel
theorem dX1_restore_8 : decode cX1_restore 8 = .ok (.iconst 1, 1) := by decide +kernel
theorem dX1_restore_9 : decode cX1_restore 9 = .ok (.isub, 1) := by decide +kernel
theorem dX1_restore_10 : decode cX1_restore 10 = .ok (.bipush 6, 2) := by decide +kernel
theorem dX1_restore_12 : decode cX1_restore 12 = .ok (.irem, 1) := by decide +kernel
theorem dX1_restore_13 : decode cX1_restore 13 = .ok (.putfield 18, 3) := by decide +kernel
theorem dX1_restore_16 : decode cX1_restore 16 = .ok (.aload_n 0, 1) := by decide +kernel
theorem dX1_restore_17 : decode cX1_restore 17 = .ok (.aload_n 0, 1) := by decide +kernel
theorem dX1_restore_18 : decode cX1_restore 18 = .ok (.getfield 26, 3) := by decide +kernel
theorem dX1_restore_21 : decode cX1_restore 21 = .ok (.iconst 1, 1) := by decide +kernel
theorem dX1_restore_22 : decode cX1_restore 22 = .ok (.isub, 1) := by decide +kernel
theorem dX1_restore_23 : decode cX1_restore 23 = .ok (.iconst 0, 1) := by decide +kernel
theorem dX1_restore_24 : decode cX1_restore 24 = .ok (.invokestatic 35, 3) := by decide +kernel
theorem dX1_restore_27 : decode cX1_restore 27 = .ok (.putfield 26, 3) := by decide +kernel
theorem dX1_restore_30 : decode cX1_restore 30 = .ok (.aload_n 1, 1) := by decide +kernel
theorem dX1_restore_31 : decode cX1_restore 31 = .ok (.aload_n 0, 1) := by decide +kernel
theorem dX1_restore_32 : decode cX1_restore 32 = .ok (.getfield 11, 3) := by decide +kernel
theorem dX1_restore_35 : decode cX1_restore 35 = .ok (.aload_n 0, 1) := by decide +kernel
theorem dX1_restore_36 : decode cX1_restore 36 = .ok (.getfield 18, 3) := by decide +kernel
theorem dX1_restore_39 : decode cX1_restore 39 = .ok (.aaload, 1) := by decide +kernel
theorem dX1_restore_40 : decode cX1_restore 40 = .ok (.invokevirtual 22, 3) := by decide +kernel
theorem dX1_restore_43 : decode cX1_restore 43 = .ok (.return_, 1) := by decide +kernel
theorem dX2_init_0 : decode cX2_init 0 = .ok (.aload_n 0, 1) := by decide +kernel
theorem dX2_init_1 : decode cX2_init 1 = .ok (.invokespecial 3, 3) := by decide +kernel
theorem dX2_init_4 : decode cX2_init 4 = .ok (.aload_n 0, 1) := by decide +kernel
theorem dX2_init_5 : decode cX2_init 5 = .ok (.bipush 6, 2) := by decide +kernel
theorem dX2_init_7 : decode cX2_init 7 = .ok (.newarray .long, 2) := by decide +kernel
theorem dX2_init_9 : decode cX2_init 9 = .ok (.putfield 9, 3) := by decide +kernel
theorem dX2_init_12 : decode cX2_init 12 = .ok (.aload_n 0, 1) := by decide +kernel
theorem dX2_init_13 : decode cX2_init 13 = .ok (.bipush 8, 2) := by decide +kernel
theorem dX2_init_15 : decode cX2_init 15 = .ok (.newarray .long, 2) := by decide +kernel
theorem dX2_init_17 : decode cX2_init 17 = .ok (.putfield 15, 3) := by decide +kernel
theorem dX2_init_20 : decode cX2_init 20 = .ok (.return_, 1) := by decide +kernel
theorem dX2_study_0 : decode cX2_study 0 = .ok (.aload_n 0, 1) := by decide +kernel
theorem dX2_study_1 : decode cX2_study 1 = .ok (.aload_n 1, 1) := by decide +kernel
theorem dX2_study_2 : decode cX2_study 2 = .ok (.invokevirtual 18, 3) := by decide +kernel
theorem dX2_study_5 : decode cX2_study 5 = .ok (.aload_n 0, 1) := by decide +kernel
theorem dX2_study_6 : decode cX2_study 6 = .ok (.iconst 0, 1) := by decide +kernel
theorem dX2_study_7 : decode cX2_study 7 = .ok (.putfield 22, 3) := by decide +kernel
theorem dX2_study_10 : decode cX2_study 10 = .ok (.iconst 0, 1) := by decide +kernel
theorem dX2_study_11 : decode cX2_study 11 = .ok (.istore_n 2, 1) := by decide +kernel
theorem dX2_study_12 : decode cX2_study 12 = .ok (.iload_n 2, 1) := by decide +kernel
theorem dX2_study_13 : decode cX2_study 13 = .ok (.aload_n 1, 1) := by decide +kernel
theorem dX2_study_14 : decode cX2_study 14 = .ok (.getfield 26, 3) := by decide +kernel
theorem dX2_study_17 : decode cX2_study 17 = .ok (.iconst 2, 1) := by decide +kernel
theorem dX2_study_18 : decode cX2_study 18 = .ok (.isub, 1) := by decide +kernel
theorem dX2_study_19 : decode cX2_study 19 = .ok (.if_icmp .ge 19, 3) := by decide +kernel
theorem dX2_study_22 : decode cX2_study 22 = .ok (.aload_n 0, 1) := by decide +kernel
theorem dX2_study_23 : decode cX2_study 23 = .ok (.aload_n 0, 1) := by decide +kernel
theorem dX2_study_24 : decode cX2_study 24 = .ok (.getfield 9, 3) := by decide +kernel
theorem dX2_study_27 : decode cX2_study 27 = .ok (.iload_n 2, 1) := by decide +kernel
theorem dX2_study_28 : decode cX2_study 28 = .ok (.laload, 1) := by decide +kernel
theorem dX2_study_29 : decode cX2_study 29 = .ok (.invokevirtual 31, 3) := by decide +kernel
theorem dX2_study_32 : decode cX2_study 32 = .ok (.iinc 2 1, 3) := by decide +kernel
theorem dX2_study_35 : decode cX2_study 35 = .ok (.goto (-23), 3) := by decide +kernel
theorem dX2_study_38 : decode cX2_study 38 = .ok (.aload_n 1, 1) := by decide +kernel
theorem dX2_study_39 : decode cX2_study 39 = .ok (.invokevirtual 35, 3) := by decide +kernel
theorem dX2_study_42 : decode cX2_study 42 = .ok (.invokestatic 39, 3) := by decide +kernel
theorem dX2_study_45 : decode cX2_study 45 = .ok (.lstore_n 2, 1) := by decide +kernel
theorem dX2_study_46 : decode cX2_study 46 = .ok (.aload_n 0, 1) := by decide +kernel
theorem dX2_study_47 : decode cX2_study 47 = .ok (.aload_n 1, 1) := by decide +kernel
theorem dX2_study_48 : decode cX2_study 48 = .ok (.getfield 26, 3) := by decide +kernel
theorem dX2_study_51 : decode cX2_study 51 = .ok (.iconst 2, 1) := by decide +kernel
theorem dX2_study_52 : decode cX2_study 52 = .ok (.isub, 1) := by decide +kernel
theorem dX2_study_53 : decode cX2_study 53 = .ok (.invokevirtual 45, 3) := by decide +kernel
theorem dX2_study_56 : decode cX2_study 56 = .ok (.lstore 4, 2) := by decide +kernel
theorem dX2_study_58 : decode cX2_study 58 = .ok (.aload_n 1, 1) := by decide +kernel
theorem dX2_study_59 : decode cX2_study 59 = .ok (.getfield 49, 3) := by decide +kernel
theorem dX2_study_62 : decode cX2_study 62 = .ok (.ifCond .ne 38, 3) := by decide +kernel
theorem dX2_study_65 : decode cX2_study 65 = .ok (.aload_n 0, 1) := by decide +kernel
theorem dX2_study_66 : decode cX2_study 66 = .ok (.iconst 2, 1) := by decide +kernel
theorem dX2_study_67 : decode cX2_study 67 = .ok (.aload_n 1, 1) := by decide +kernel
theorem dX2_study_68 : decode cX2_study 68 = .ok (.getfield 52, 3) := by decide +kernel
theorem dX2_study_71 : decode cX2_study 71 = .ok (.imul, 1) := by decide +kernel
theorem dX2_study_72 : decode cX2_study 72 = .ok (.lload_n 2, 1) := by decide +kernel
theorem dX2_study_73 : decode cX2_study 73 = .ok (.lconst 0, 1) := by decide +kernel
theorem dX2_study_74 : decode cX2_study 74 = .ok (.lcmp, 1) := by decide +kernel
theorem dX2_study_75 : decode cX2_study 75 = .ok (.ifCond .ne 7, 3) := by decide +kernel
theorem dX2_study_78 : decode cX2_study 78 = .ok (.iconst 1, 1) := by decide +kernel
theorem dX2_study_79 : decode cX2_study 79 = .ok (.goto 4, 3) := by decide +kernel
theorem dX2_study_82 : decode cX2_study 82 = .ok (.iconst 0, 1) := by decide +kernel
theorem dX2_study_83 : decode cX2_study 83 = .ok (.iadd, 1) := by decide +kernel
theorem dX2_study_84 : decode cX2_study 84 = .ok (.putfield 55, 3) := by decide +kernel
theorem dX2_study_87 : decode cX2_study 87 = .ok (.aload_n 0, 1) := by decide +kernel
theorem dX2_study_88 : decode cX2_study 88 = .ok (.lload_n 2, 1) := by decide +kernel
theorem dX2_study_89 : decode cX2_study 89 = .ok (.lload 4, 2) := by decide +kernel
theorem dX2_study_91 : decode cX2_study 91 = .ok (.invokestatic 58, 3) := by decide +kernel
theorem dX2_study_94 : decode cX2_study 94 = .ok (.invokevirtual 31, 3) := by decide +kernel
theorem dX2_study_97 : decode cX2_study 97 = .ok (.goto 65, 3) := by decide +kernel
theorem dX2_study_100 : decode cX2_study 100 = .ok (.aload_n 0, 1) := by decide +kernel
theorem dX2_study_101 : decode cX2_study 101 = .ok (.aload_n 1, 1) := by decide +kernel
theorem dX2_study_102 : decode cX2_study 102 = .ok (.getfield 52, 3) := by decide +kernel
theorem dX2_study_105 : decode cX2_study 105 = .ok (.iconst 1, 1) := by decide +kernel
theorem dX2_study_106 : decode cX2_study 106 = .ok (.isub, 1) := by decide +kernel
theorem dX2_study_107 : decode cX2_study 107 = .ok (.putfield 55, 3) := by decide +kernel
theorem dX2_study_110 : decode cX2_study 110 = .ok (.lload_n 2, 1) := by decide +kernel
theorem dX2_study_111 : decode cX2_study 111 = .ok (.ldc2_w 64, 3) := by decide +kernel
theorem dX2_study_114 : decode cX2_study 114 = .ok (.aload_n 0, 1) := by decide +kernel
theorem dX2_study_115 : decode cX2_study 115 = .ok (.aload_n 1, 1) := by decide +kernel
theorem dX2_study_116 : decode cX2_study 116 = .ok (.getfield 26, 3) := by decide +kernel
theorem dX2_study_119 : decode cX2_study 119 = .ok (.iconst 1, 1) := by decide +kernel
theorem dX2_study_120 : decode cX2_study 120 = .ok (.isub, 1) := by decide +kernel
theorem dX2_study_121 : decode cX2_study 121 = .ok (.invokevirtual 45, 3) := by decide +kernel
theorem dX2_study_124 : decode cX2_study 124 = .ok (.lmul, 1) := by decide +kernel
theorem dX2_study_125 : decode cX2_study 125 = .ok (.invokestatic 66, 3) := by decide +kernel
theorem dX2_study_128 : decode cX2_study 128 = .ok (.lstore 6, 2) := by decide +kernel
theorem dX2_study_130 : decode cX2_study 130 = .ok (.aload_n 0, 1) := by decide +kernel
theorem dX2_study_131 : decode cX2_study 131 = .ok (.lload 6, 2) := by decide +kernel
theorem dX2_study_133 : decode cX2_study 133 = .ok (.lload 4, 2) := by decide +kernel
theorem dX2_study_135 : decode cX2_study 135 = .ok (.invokestatic 58, 3) := by decide +kernel
theorem dX2_study_138 : decode cX2_study 138 = .ok (.invokevirtual 31, 3) := by decide +kernel
theorem dX2_study_141 : decode cX2_study 141 = .ok (.aload_n 0, 1) := by decide +kernel
theorem dX2_study_142 : decode cX2_study 142 = .ok (.ldc2_w 69, 3) := by decide +kernel
theorem dX2_study_145 : decode cX2_study 145 = .ok (.aload_n 0, 1) := by decide +kernel
theorem dX2_study_146 : decode cX2_study 146 = .ok (.aload_n 1, 1) := by decide +kernel
theorem dX2_study_147 : decode cX2_study 147 = .ok (.getfield 26, 3) := by decide +kernel
theorem dX2_study_150 : decode cX2_study 150 = .ok (.invokevirtual 45, 3) := by decide +kernel
theorem dX2_study_153 : decode cX2_study 153 = .ok (.lmul, 1) := by decide +kernel
theorem dX2_study_154 : decode cX2_study 154 = .ok (.lload 6, 2) := by decide +kernel
theorem dX2_study_156 : decode cX2_study 156 = .ok (.invokestatic 58, 3) := by decide +kernel
theorem dX2_study_159 : decode cX2_study 159 = .ok (.invokevirtual 31, 3) := by decide +kernel
theorem dX2_study_162 : decode cX2_study 162 = .ok (.return_, 1) := by decide +kernel
theorem dX2_makeChain_0 : decode cX2_makeChain 0 = .ok (.iconst 0, 1) := by decide +kernel
theorem dX2_makeChain_1 : decode cX2_makeChain 1 = .ok (.istore_n 2, 1) := by decide +kernel
theorem dX2_makeChain_2 : decode cX2_makeChain 2 = .ok (.iload_n 2, 1) := by decide +kernel
theorem dX2_makeChain_3 : decode cX2_makeChain 3 = .ok (.aload_n 1, 1) := by decide +kernel
theorem dX2_makeChain_4 : decode cX2_makeChain 4 = .ok (.getfield 26, 3) := by decide +kernel
theorem dX2_makeChain_7 : decode cX2_makeChain 7 = .ok (.if_icmp .ge 22, 3) := by decide +kernel
theorem dX2_makeChain_10 : decode cX2_makeChain 10 = .ok (.aload_n 0, 1) := by decide +kernel
theorem dX2_makeChain_11 : decode cX2_makeChain 11 = .ok (.getfield 9, 3) := by decide +kernel
theorem dX2_makeChain_14 : decode cX2_makeChain 14 = .ok (.iload_n 2, 1) := by decide +kernel
theorem dX2_makeChain_15 : decode cX2_makeChain 15 = .ok (.aload_n 1, 1) := by decide +kernel
theorem dX2_makeChain_16 : decode cX2_makeChain 16 = .ok (.getfield 71, 3) := by decide +kernel
theorem dX2_makeChain_19 : decode cX2_makeChain 19 = .ok (.iload_n 2, 1) := by decide +kernel
theorem dX2_makeChain_20 : decode cX2_makeChain 20 = .ok (.iaload, 1) := by decide +kernel
theorem dX2_makeChain_21 : decode cX2_makeChain 21 = .ok (.i2l, 1) := by decide +kernel
theorem dX2_makeChain_22 : decode cX2_makeChain 22 = .ok (.lastore, 1) := by decide +kernel
theorem dX2_makeChain_23 : decode cX2_makeChain 23 = .ok (.iinc 2 1, 3) := by decide +kernel
theorem dX2_makeChain_26 : decode cX2_makeChain 26 = .ok (.goto (-24), 3) := by decide +kernel
theorem dX2_makeChain_29 : decode cX2_makeChain 29 = .ok (.iconst 0, 1) := by decide +kernel
theorem dX2_makeChain_30 : decode cX2_makeChain 30 = .ok (.istore_n 2, 1) := by decide +kernel
theorem dX2_makeChain_31 : decode cX2_makeChain 31 = .ok (.iload_n 2, 1) := by decide +kernel
theorem dX2_makeChain_32 : decode cX2_makeChain 32 = .ok (.aload_n 1, 1) := by decide +kernel
theorem dX2_makeChain_33 : decode cX2_makeChain 33 = .ok (.getfield 26, 3) := by decide +kernel
theorem dX2_makeChain_36 : decode cX2_makeChain 36 = .ok (.if_icmp .ge 72, 3) := by decide +kernel
theorem dX2_makeChain_39 : decode cX2_makeChain 39 = .ok (.iload_n 2, 1) := by decide +kernel
theorem dX2_makeChain_40 : decode cX2_makeChain 40 = .ok (.iconst 1, 1) := by decide +kernel
theorem dX2_makeChain_41 : decode cX2_makeChain 41 = .ok (.iadd, 1) := by decide +kernel
theorem dX2_makeChain_42 : decode cX2_makeChain 42 = .ok (.istore_n 3, 1) := by decide +kernel
theorem dX2_makeChain_43 : decode cX2_makeChain 43 = .ok (.iload_n 3, 1) := by decide +kernel
theorem dX2_makeChain_44 : decode cX2_makeChain 44 = .ok (.aload_n 1, 1) := by decide +kernel
theorem dX2_makeChain_45 : decode cX2_makeChain 45 = .ok (.getfield 26, 3) := by decide +kernel
theorem dX2_makeChain_48 : decode cX2_makeChain 48 = .ok (.if_icmp .ge 54, 3) := by decide +kernel
theorem dX2_makeChain_51 : decode cX2_makeChain 51 = .ok (.aload_n 0, 1) := by decide +kernel
theorem dX2_makeChain_52 : decode cX2_makeChain 52 = .ok (.getfield 9, 3) := by decide +kernel
theorem dX2_makeChain_55 : decode cX2_makeChain 55 = .ok (.iload_n 2, 1) := by decide +kernel
theorem dX2_makeChain_56 : decode cX2_makeChain 56 = .ok (.laload, 1) := by decide +kernel
theorem dX2_makeChain_57 : decode cX2_makeChain 57 = .ok (.aload_n 0, 1) := by decide +kernel
theorem dX2_makeChain_58 : decode cX2_makeChain 58 = .ok (.getfield 9, 3) := by decide +kernel
theorem dX2_makeChain_61 : decode cX2_makeChain 61 = .ok (.iload_n 3, 1) := by decide +kernel
theorem dX2_makeChain_62 : decode cX2_makeChain 62 = .ok (.laload, 1) := by decide +kernel
theorem dX2_makeChain_63 : decode cX2_makeChain 63 = .ok (.invokestatic 66, 3) := by decide +kernel
theorem dX2_makeChain_66 : decode cX2_makeChain 66 = .ok (.lstore 4, 2) := by decide +kernel
theorem dX2_makeChain_68 : decode cX2_makeChain 68 = .ok (.aload_n 0, 1) := by decide +kernel
theorem dX2_makeChain_69 : decode cX2_makeChain 69 = .ok (.getfield 9, 3) := by decide +kernel
theorem dX2_makeChain_72 : decode cX2_makeChain 72 = .ok (.iload_n 3, 1) := by decide +kernel
theorem dX2_makeChain_73 : decode cX2_makeChain 73 = .ok (.dup2, 1) := by decide +kernel
theorem dX2_makeChain_74 : decode cX2_makeChain 74 = .ok (.laload, 1) := by decide +kernel
theorem dX2_makeChain_75 : decode cX2_makeChain 75 = .ok (.aload_n 0, 1) := by decide +kernel
theorem dX2_makeChain_76 : decode cX2_makeChain 76 = .ok (.getfield 9, 3) := by decide +kernel
theorem dX2_makeChain_79 : decode cX2_makeChain 79 = .ok (.iload_n 2, 1) := by decide +kernel
theorem dX2_makeChain_80 : decode cX2_makeChain 80 = .ok (.laload, 1) := by decide +kernel
theorem dX2_makeChain_81 : decode cX2_makeChain 81 = .ok (.lload 4, 2) := by decide +kernel
theorem dX2_makeChain_83 : decode cX2_makeChain 83 = .ok (.invokestatic 58, 3) := by decide +kernel
theorem dX2_makeChain_86 : decode cX2_makeChain 86 = .ok (.lmul, 1) := by decide +kernel
theorem dX2_makeChain_87 : decode cX2_makeChain 87 = .ok (.lastore, 1) := by decide +kernel
theorem dX2_makeChain_88 : decode cX2_makeChain 88 = .ok (.aload_n 0, 1) := by decide +kernel
theorem dX2_makeChain_89 : decode cX2_makeChain 89 = .ok (.getfield 9, 3) := by decide +kernel
theorem dX2_makeChain_92 : decode cX2_makeChain 92 = .ok (.iload_n 2, 1) := by decide +kernel
theorem dX2_makeChain_93 : decode cX2_makeChain 93 = .ok (.lload 4, 2) := by decide +kernel
theorem dX2_makeChain_95 : decode cX2_makeChain 95 = .ok (.lastore, 1) := by decide +kernel
theorem dX2_makeChain_96 : decode cX2_makeChain 96 = .ok (.iinc 3 1, 3) := by decide +kernel
theorem dX2_makeChain_99 : decode cX2_makeChain 99 = .ok (.goto (-56), 3) := by decide +kernel
theorem dX2_makeChain_102 : decode cX2_makeChain 102 = .ok (.iinc 2 1, 3) := by decide +kernel
theorem dX2_makeChain_105 : decode cX2_makeChain 105 = .ok (.goto (-74), 3) := by decide +kernel
theorem dX2_makeChain_108 : decode cX2_makeChain 108 = .ok (.return_, 1) := by decide +kernel
theorem dX2_product_0 : decode cX2_product 0 = .ok (.lconst 1, 1) := by decide +kernel
theorem dX2_product_1 : decode cX2_product 1 = .ok (.lstore_n 2, 1) := by decide +kernel
theorem dX2_product_2 : decode cX2_product 2 = .ok (.iconst 0, 1) := by decide +kernel
theorem dX2_product_3 : decode cX2_product 3 = .ok (.istore 4, 2) := by decide +kernel
theorem dX2_product_5 : decode cX2_product 5 = .ok (.iload 4, 2) := by decide +kernel
theorem dX2_product_7 : decode cX2_product 7 = .ok (.iload_n 1, 1) := by decide +kernel
theorem dX2_product_8 : decode cX2_product 8 = .ok (.if_icmp .ge 26, 3) := by decide +kernel
theorem dX2_product_11 : decode cX2_product 11 = .ok (.iload 4, 2) := by decide +kernel
theorem dX2_product_13 : decode cX2_product 13 = .ok (.bipush 6, 2) := by decide +kernel
theorem dX2_product_15 : decode cX2_product 15 = .ok (.if_icmp .ge 19, 3) := by decide +kernel
theorem dX2_product_18 : decode cX2_product 18 = .ok (.lload_n 2, 1) := by decide +kernel
theorem dX2_product_19 : decode cX2_product 19 = .ok (.aload_n 0, 1) := by decide +kernel
theorem dX2_product_20 : decode cX2_product 20 = .ok (.getfield 9, 3) := by decide +kernel
theorem dX2_product_23 : decode cX2_product 23 = .ok (.iload 4, 2) := by decide +kernel
theorem dX2_product_25 : decode cX2_product 25 = .ok (.laload, 1) := by decide +kernel
theorem dX2_product_26 : decode cX2_product 26 = .ok (.lmul, 1) := by decide +kernel
theorem dX2_product_27 : decode cX2_product 27 = .ok (.lstore_n 2, 1) := by decide +kernel
theorem dX2_product_28 : decode cX2_product 28 = .ok (.iinc 4 1, 3) := by decide +kernel
theorem dX2_product_31 : decode cX2_product 31 = .ok (.goto (-26), 3) := by decide +kernel
theorem dX2_product_34 : decode cX2_product 34 = .ok (.lload_n 2, 1) := by decide +kernel
theorem dX2_product_35 : decode cX2_product 35 = .ok (.lreturn, 1) := by decide +kernel
theorem dX2_add_0 : decode cX2_add 0 = .ok (.lload_n 1, 1) := by decide +kernel
theorem dX2_add_1 : decode cX2_add 1 = .ok (.lconst 1, 1) := by decide +kernel
theorem dX2_add_2 : decode cX2_add 2 = .ok (.lcmp, 1) := by decide +kernel
theorem dX2_add_3 : decode cX2_add 3 = .ok (.ifCond .le 35, 3) := by decide +kernel
theorem dX2_add_6 : decode cX2_add 6 = .ok (.aload_n 0, 1) := by decide +kernel
theorem dX2_add_7 : decode cX2_add 7 = .ok (.getfield 22, 3) := by decide +kernel
theorem dX2_add_10 : decode cX2_add 10 = .ok (.aload_n 0, 1) := by decide +kernel
theorem dX2_add_11 : decode cX2_add 11 = .ok (.getfield 15, 3) := by decide +kernel
theorem dX2_add_14 : decode cX2_add 14 = .ok (.arraylength, 1) := by decide +kernel
theorem dX2_add_15 : decode cX2_add 15 = .ok (.if_icmp .ge 23, 3) := by decide +kernel
theorem dX2_add_18 : decode cX2_add 18 = .ok (.aload_n 0, 1) := by decide +kernel
theorem dX2_add_19 : decode cX2_add 19 = .ok (.getfield 15, 3) := by decide +kernel
theorem dX2_add_22 : decode cX2_add 22 = .ok (.aload_n 0, 1) := by decide +kernel
theorem dX2_add_23 : decode cX2_add 23 = .ok (.getfield 22, 3) := by decide +kernel
theorem dX2_add_26 : decode cX2_add 26 = .ok (.lload_n 1, 1) := by decide +kernel
theorem dX2_add_27 : decode cX2_add 27 = .ok (.lastore, 1) := by decide +kernel
theorem dX2_add_28 : decode cX2_add 28 = .ok (.aload_n 0, 1) := by decide +kernel
theorem dX2_add_29 : decode cX2_add 29 = .ok (.dup, 1) := by decide +kernel
theorem dX2_add_30 : decode cX2_add 30 = .ok (.getfield 22, 3) := by decide +kernel
theorem dX2_add_33 : decode cX2_add 33 = .ok (.iconst 1, 1) := by decide +kernel
theorem dX2_add_34 : decode cX2_add 34 = .ok (.iadd, 1) := by decide +kernel
theorem dX2_add_35 : decode cX2_add 35 = .ok (.putfield 22, 3) := by decide +kernel
theorem dX2_add_38 : decode cX2_add 38 = .ok (.return_, 1) := by decide +kernel
theorem dX2_order_0 : decode cX2_order 0 = .ok (.aload_n 0, 1) := by decide +kernel
theorem dX2_order_1 : decode cX2_order 1 = .ok (.getfield 55, 3) := by decide +kernel
theorem dX2_order_4 : decode cX2_order 4 = .ok (.ifCond .ne 7, 3) := by decide +kernel
theorem dX2_order_7 : decode cX2_order 7 = .ok (.lconst 1, 1) := by decide +kernel
theorem dX2_order_8 : decode cX2_order 8 = .ok (.goto 4, 3) := by decide +kernel
theorem dX2_order_11 : decode cX2_order 11 = .ok (.lconst 0, 1) := by decide +kernel
theorem dX2_order_12 : decode cX2_order 12 = .ok (.lstore_n 1, 1) := by decide +kernel
theorem dX2_order_13 : decode cX2_order 13 = .ok (.iconst 0, 1) := by decide +kernel
theorem dX2_order_14 : decode cX2_order 14 = .ok (.istore_n 3, 1) := by decide +kernel
theorem dX2_order_15 : decode cX2_order 15 = .ok (.iload_n 3, 1) := by decide +kernel
theorem dX2_order_16 : decode cX2_order 16 = .ok (.aload_n 0, 1) := by decide +kernel
theorem dX2_order_17 : decode cX2_order 17 = .ok (.getfield 22, 3) := by decide +kernel
theorem dX2_order_20 : decode cX2_order 20 = .ok (.if_icmp .ge 18, 3) := by decide +kernel
theorem dX2_order_23 : decode cX2_order 23 = .ok (.lload_n 1, 1) := by decide +kernel
theorem dX2_order_24 : decode cX2_order 24 = .ok (.aload_n 0, 1) := by decide +kernel
theorem dX2_order_25 : decode cX2_order 25 = .ok (.getfield 15, 3) := by decide +kernel
theorem dX2_order_28 : decode cX2_order 28 = .ok (.iload_n 3, 1) := by decide +kernel
theorem dX2_order_29 : decode cX2_order 29 = .ok (.laload, 1) := by decide +kernel
theorem dX2_order_30 : decode cX2_order 30 = .ok (.lmul, 1) := by decide +kernel
theorem dX2_order_31 : decode cX2_order 31 = .ok (.lstore_n 1, 1) := by decide +kernel
theorem dX2_order_32 : decode cX2_order 32 = .ok (.iinc 3 1, 3) := by decide +kernel
theorem dX2_order_35 : decode cX2_order 35 = .ok (.goto (-20), 3) := by decide +kernel
theorem dX2_order_38 : decode cX2_order 38 = .ok (.lload_n 1, 1) := by decide +kernel
theorem dX2_order_39 : decode cX2_order 39 = .ok (.lreturn, 1) := by decide +kernel
theorem dX2_mapsInto_0 : decode cX2_mapsInto 0 = .ok (.lconst 1, 1) := by decide +kernel
theorem dX2_mapsInto_1 : decode cX2_mapsInto 1 = .ok (.lstore_n 2, 1) := by decide +kernel
theorem dX2_mapsInto_2 : decode cX2_mapsInto 2 = .ok (.iconst 0, 1) := by decide +kernel
theorem dX2_mapsInto_3 : decode cX2_mapsInto 3 = .ok (.istore 4, 2) := by decide +kernel
theorem dX2_mapsInto_5 : decode cX2_mapsInto 5 = .ok (.iload 4, 2) := by decide +kernel
theorem dX2_mapsInto_7 : decode cX2_mapsInto 7 = .ok (.aload_n 0, 1) := by decide +kernel
theorem dX2_mapsInto_8 : decode cX2_mapsInto 8 = .ok (.getfield 55, 3) := by decide +kernel
theorem dX2_mapsInto_11 : decode cX2_mapsInto 11 = .ok (.if_icmp .ge 14, 3) := by decide +kernel
theorem dX2_mapsInto_14 : decode cX2_mapsInto 14 = .ok (.lload_n 2, 1) := by decide +kernel
theorem dX2_mapsInto_15 : decode cX2_mapsInto 15 = .ok (.iload_n 1, 1) := by decide +kernel
theorem dX2_mapsInto_16 : decode cX2_mapsInto 16 = .ok (.i2l, 1) := by decide +kernel
theorem dX2_mapsInto_17 : decode cX2_mapsInto 17 = .ok (.lmul, 1) := by decide +kernel
theorem dX2_mapsInto_18 : decode cX2_mapsInto 18 = .ok (.lstore_n 2, 1) := by decide +kernel
theorem dX2_mapsInto_19 : decode cX2_mapsInto 19 = .ok (.iinc 4 1, 3) := by decide +kernel
theorem dX2_mapsInto_22 : decode cX2_mapsInto 22 = .ok (.goto (-17), 3) := by decide +kernel
theorem dX2_mapsInto_25 : decode cX2_mapsInto 25 = .ok (.iconst 0, 1) := by decide +kernel
theorem dX2_mapsInto_26 : decode cX2_mapsInto 26 = .ok (.istore 4, 2) := by decide +kernel
theorem dX2_mapsInto_28 : decode cX2_mapsInto 28 = .ok (.iload 4, 2) := by decide +kernel
theorem dX2_mapsInto_30 : decode cX2_mapsInto 30 = .ok (.aload_n 0, 1) := by decide +kernel
theorem dX2_mapsInto_31 : decode cX2_mapsInto 31 = .ok (.getfield 22, 3) := by decide +kernel
theorem dX2_mapsInto_34 : decode cX2_mapsInto 34 = .ok (.if_icmp .ge 24, 3) := by decide +kernel
theorem dX2_mapsInto_37 : decode cX2_mapsInto 37 = .ok (.lload_n 2, 1) := by decide +kernel
theorem dX2_mapsInto_38 : decode cX2_mapsInto 38 = .ok (.aload_n 0, 1) := by decide +kernel
theorem dX2_mapsInto_39 : decode cX2_mapsInto 39 = .ok (.getfield 15, 3) := by decide +kernel
theorem dX2_mapsInto_42 : decode cX2_mapsInto 42 = .ok (.iload 4, 2) := by decide +kernel
theorem dX2_mapsInto_44 : decode cX2_mapsInto 44 = .ok (.laload, 1) := by decide +kernel
theorem dX2_mapsInto_45 : decode cX2_mapsInto 45 = .ok (.iload_n 1, 1) := by decide +kernel
theorem dX2_mapsInto_46 : decode cX2_mapsInto 46 = .ok (.i2l, 1) := by decide +kernel
theorem dX2_mapsInto_47 : decode cX2_mapsInto 47 = .ok (.invokestatic 66, 3) := by decide +kernel
theorem dX2_mapsInto_50 : decode cX2_mapsInto 50 = .ok (.lmul, 1) := by decide +kernel
theorem dX2_mapsInto_51 : decode cX2_mapsInto 51 = .ok (.lstore_n 2, 1) := by decide +kernel
theorem dX2_mapsInto_52 : decode cX2_mapsInto 52 = .ok (.iinc 4 1, 3) := by decide +kernel
theorem dX2_mapsInto_55 : decode cX2_mapsInto 55 = .ok (.goto (-27), 3) := by decide +kernel
theorem dX2_mapsInto_58 : decode cX2_mapsInto 58 = .ok (.lload_n 2, 1) := by decide +kernel
theorem dX2_mapsInto_59 : decode cX2_mapsInto 59 = .ok (.lreturn, 1) := by decide +kernel
theorem dX3_init_0 : decode cX3_init 0 = .ok (.aload_n 0, 1) := by decide +kernel
theorem dX3_init_1 : decode cX3_init 1 = .ok (.invokespecial 1, 3) := by decide +kernel
theorem dX3_init_4 : decode cX3_init 4 = .ok (.return_, 1) := by decide +kernel
theorem dX3_study_0 : decode cX3_study 0 = .ok (.aload_n 1, 1) := by decide +kernel
theorem dX3_study_1 : decode cX3_study 1 = .ok (.getfield 7, 3) := by decide +kernel
theorem dX3_study_4 : decode cX3_study 4 = .ok (.ifCond .le 13, 3) := by decide +kernel
theorem dX3_study_7 : decode cX3_study 7 = .ok (.aload_n 1, 1) := by decide +kernel
theorem dX3_study_8 : decode cX3_study 8 = .ok (.getfield 13, 3) := by decide +kernel
theorem dX3_study_11 : decode cX3_study 11 = .ok (.iconst 0, 1) := by decide +kernel
theorem dX3_study_12 : decode cX3_study 12 = .ok (.iaload, 1) := by decide +kernel
theorem dX3_study_13 : decode cX3_study 13 = .ok (.i2l, 1) := by decide +kernel
theorem dX3_study_14 : decode cX3_study 14 = .ok (.goto 4, 3) := by decide +kernel
theorem dX3_study_17 : decode cX3_study 17 = .ok (.lconst 1, 1) := by decide +kernel
theorem dX3_study_18 : decode cX3_study 18 = .ok (.lstore_n 2, 1) := by decide +kernel
theorem dX3_study_19 : decode cX3_study 19 = .ok (.aload_n 1, 1) := by decide +kernel
theorem dX3_study_20 : decode cX3_study 20 = .ok (.getfield 7, 3) := by decide +kernel
theorem dX3_study_23 : decode cX3_study 23 = .ok (.ifCond .le 21, 3) := by decide +kernel
theorem dX3_study_26 : decode cX3_study 26 = .ok (.aload_n 1, 1) := by decide +kernel
theorem dX3_study_27 : decode cX3_study 27 = .ok (.getfield 17, 3) := by decide +kernel
theorem dX3_study_30 : decode cX3_study 30 = .ok (.iconst 0, 1) := by decide +kernel
theorem dX3_study_31 : decode cX3_study 31 = .ok (.iaload, 1) := by decide +kernel
theorem dX3_study_32 : decode cX3_study 32 = .ok (.i2l, 1) := by decide +kernel
theorem dX3_study_33 : decode cX3_study 33 = .ok (.lload_n 2, 1) := by decide +kernel
theorem dX3_study_34 : decode cX3_study 34 = .ok (.aload_n 1, 1) := by decide +kernel
theorem dX3_study_35 : decode cX3_study 35 = .ok (.getfield 20, 3) := by decide +kernel
theorem dX3_study_38 : decode cX3_study 38 = .ok (.i2l, 1) := by decide +kernel
theorem dX3_study_39 : decode cX3_study 39 = .ok (.lmul, 1) := by decide +kernel
theorem dX3_study_40 : decode cX3_study 40 = .ok (.ladd, 1) := by decide +kernel
theorem dX3_study_41 : decode cX3_study 41 = .ok (.goto 8, 3) := by decide +kernel
theorem dX3_study_44 : decode cX3_study 44 = .ok (.aload_n 1, 1) := by decide +kernel
theorem dX3_study_45 : decode cX3_study 45 = .ok (.getfield 20, 3) := by decide +kernel
theorem dX3_study_48 : decode cX3_study 48 = .ok (.i2l, 1) := by decide +kernel
theorem dX3_study_49 : decode cX3_study 49 = .ok (.lstore 4, 2) := by decide +kernel
theorem dX3_study_51 : decode cX3_study 51 = .ok (.aload_n 1, 1) := by decide +kernel
theorem dX3_study_52 : decode cX3_study 52 = .ok (.getfield 7, 3) := by decide +kernel
theorem dX3_study_55 : decode cX3_study 55 = .ok (.iconst 1, 1) := by decide +kernel
theorem dX3_study_56 : decode cX3_study 56 = .ok (.if_icmp .le 13, 3) := by decide +kernel
theorem dX3_study_59 : decode cX3_study 59 = .ok (.aload_n 1, 1) := by decide +kernel
theorem dX3_study_60 : decode cX3_study 60 = .ok (.getfield 13, 3) := by decide +kernel
theorem dX3_study_63 : decode cX3_study 63 = .ok (.iconst 1, 1) := by decide +kernel
theorem dX3_study_64 : decode cX3_study 64 = .ok (.iaload, 1) := by decide +kernel
theorem dX3_study_65 : decode cX3_study 65 = .ok (.i2l, 1) := by decide +kernel
theorem dX3_study_66 : decode cX3_study 66 = .ok (.goto 4, 3) := by decide +kernel
theorem dX3_study_69 : decode cX3_study 69 = .ok (.lconst 1, 1) := by decide +kernel
theorem dX3_study_70 : decode cX3_study 70 = .ok (.lstore 6, 2) := by decide +kernel
theorem dX3_study_72 : decode cX3_study 72 = .ok (.aload_n 1, 1) := by decide +kernel
theorem dX3_study_73 : decode cX3_study 73 = .ok (.getfield 7, 3) := by decide +kernel
theorem dX3_study_76 : decode cX3_study 76 = .ok (.iconst 1, 1) := by decide +kernel
theorem dX3_study_77 : decode cX3_study 77 = .ok (.if_icmp .le 13, 3) := by decide +kernel
theorem dX3_study_80 : decode cX3_study 80 = .ok (.aload_n 1, 1) := by decide +kernel
theorem dX3_study_81 : decode cX3_study 81 = .ok (.getfield 17, 3) := by decide +kernel
theorem dX3_study_84 : decode cX3_study 84 = .ok (.iconst 1, 1) := by decide +kernel
theorem dX3_study_85 : decode cX3_study 85 = .ok (.iaload, 1) := by decide +kernel
theorem dX3_study_86 : decode cX3_study 86 = .ok (.i2l, 1) := by decide +kernel
theorem dX3_study_87 : decode cX3_study 87 = .ok (.goto 4, 3) := by decide +kernel
theorem dX3_study_90 : decode cX3_study 90 = .ok (.lconst 0, 1) := by decide +kernel
theorem dX3_study_91 : decode cX3_study 91 = .ok (.lstore 8, 2) := by decide +kernel
theorem dX3_study_93 : decode cX3_study 93 = .ok (.aload_n 0, 1) := by decide +kernel
theorem dX3_study_94 : decode cX3_study 94 = .ok (.lload_n 2, 1) := by decide +kernel
theorem dX3_study_95 : decode cX3_study 95 = .ok (.lload 8, 2) := by decide +kernel
theorem dX3_study_97 : decode cX3_study 97 = .ok (.lmul, 1) := by decide +kernel
theorem dX3_study_98 : decode cX3_study 98 = .ok (.lload 4, 2) := by decide +kernel
theorem dX3_study_100 : decode cX3_study 100 = .ok (.lload 6, 2) := by decide +kernel
theorem dX3_study_102 : decode cX3_study 102 = .ok (.lmul, 1) := by decide +kernel
theorem dX3_study_103 : decode cX3_study 103 = .ok (.ladd, 1) := by decide +kernel
theorem dX3_study_104 : decode cX3_study 104 = .ok (.invokestatic 23, 3) := by decide +kernel
theorem dX3_study_107 : decode cX3_study 107 = .ok (.putfield 29, 3) := by decide +kernel
theorem dX3_study_110 : decode cX3_study 110 = .ok (.lload 4, 2) := by decide +kernel
theorem dX3_study_112 : decode cX3_study 112 = .ok (.lload_n 2, 1) := by decide +kernel
theorem dX3_study_113 : decode cX3_study 113 = .ok (.invokestatic 35, 3) := by decide +kernel
theorem dX3_study_116 : decode cX3_study 116 = .ok (.lneg, 1) := by decide +kernel
theorem dX3_study_117 : decode cX3_study 117 = .ok (.lload_n 2, 1) := by decide +kernel
theorem dX3_study_118 : decode cX3_study 118 = .ok (.invokestatic 41, 3) := by decide +kernel
theorem dX3_study_121 : decode cX3_study 121 = .ok (.lstore 10, 2) := by decide +kernel
theorem dX3_study_123 : decode cX3_study 123 = .ok (.lconst 1, 1) := by decide +kernel
theorem dX3_study_124 : decode cX3_study 124 = .ok (.lload 4, 2) := by decide +kernel
theorem dX3_study_126 : decode cX3_study 126 = .ok (.lload 10, 2) := by decide +kernel
theorem dX3_study_128 : decode cX3_study 128 = .ok (.lmul, 1) := by decide +kernel
theorem dX3_study_129 : decode cX3_study 129 = .ok (.ladd, 1) := by decide +kernel
theorem dX3_study_130 : decode cX3_study 130 = .ok (.lload_n 2, 1) := by decide +kernel
theorem dX3_study_131 : decode cX3_study 131 = .ok (.invokestatic 44, 3) := by decide +kernel
theorem dX3_study_134 : decode cX3_study 134 = .ok (.lstore 12, 2) := by decide +kernel
theorem dX3_study_136 : decode cX3_study 136 = .ok (.aload_n 0, 1) := by decide +kernel
theorem dX3_study_137 : decode cX3_study 137 = .ok (.aload_n 0, 1) := by decide +kernel
theorem dX3_study_138 : decode cX3_study 138 = .ok (.getfield 29, 3) := by decide +kernel
theorem dX3_study_141 : decode cX3_study 141 = .ok (.lconst 1, 1) := by decide +kernel
theorem dX3_study_142 : decode cX3_study 142 = .ok (.lcmp, 1) := by decide +kernel
theorem dX3_study_143 : decode cX3_study 143 = .ok (.ifCond .gt 7, 3) := by decide +kernel
theorem dX3_study_146 : decode cX3_study 146 = .ok (.lconst 0, 1) := by decide +kernel
theorem dX3_study_147 : decode cX3_study 147 = .ok (.goto 25, 3) := by decide +kernel
theorem dX3_study_150 : decode cX3_study 150 = .ok (.aload_n 0, 1) := by decide +kernel
theorem dX3_study_151 : decode cX3_study 151 = .ok (.lload 6, 2) := by decide +kernel
theorem dX3_study_153 : decode cX3_study 153 = .ok (.lload 12, 2) := by decide +kernel
theorem dX3_study_155 : decode cX3_study 155 = .ok (.lmul, 1) := by decide +kernel
theorem dX3_study_156 : decode cX3_study 156 = .ok (.lload 8, 2) := by decide +kernel
theorem dX3_study_158 : decode cX3_study 158 = .ok (.lload 10, 2) := by decide +kernel
theorem dX3_study_160 : decode cX3_study 160 = .ok (.lmul, 1) := by decide +kernel
theorem dX3_study_161 : decode cX3_study 161 = .ok (.ladd, 1) := by decide +kernel
theorem dX3_study_162 : decode cX3_study 162 = .ok (.aload_n 0, 1) := by decide +kernel
theorem dX3_study_163 : decode cX3_study 163 = .ok (.getfield 29, 3) := by decide +kernel
theorem dX3_study_166 : decode cX3_study 166 = .ok (.invokestatic 41, 3) := by decide +kernel
theorem dX3_study_169 : decode cX3_study 169 = .ok (.invokevirtual 47, 3) := by decide +kernel
theorem dX3_study_172 : decode cX3_study 172 = .ok (.putfield 50, 3) := by decide +kernel
theorem dX3_study_175 : decode cX3_study 175 = .ok (.return_, 1) := by decide +kernel
theorem dX3_leastOf_0 : decode cX3_leastOf 0 = .ok (.lload_n 1, 1) := by decide +kernel
theorem dX3_leastOf_1 : decode cX3_leastOf 1 = .ok (.aload_n 0, 1) := by decide +kernel
theorem dX3_leastOf_2 : decode cX3_leastOf 2 = .ok (.getfield 29, 3) := by decide +kernel
theorem dX3_leastOf_5 : decode cX3_leastOf 5 = .ok (.invokestatic 35, 3) := by decide +kernel
theorem dX3_leastOf_8 : decode cX3_leastOf 8 = .ok (.lstore_n 3, 1) := by decide +kernel
theorem dX3_leastOf_9 : decode cX3_leastOf 9 = .ok (.lload_n 1, 1) := by decide +kernel
theorem dX3_leastOf_10 : decode cX3_leastOf 10 = .ok (.lload_n 1, 1) := by decide +kernel
theorem dX3_leastOf_11 : decode cX3_leastOf 11 = .ok (.lneg, 1) := by decide +kernel
theorem dX3_leastOf_12 : decode cX3_leastOf 12 = .ok (.aload_n 0, 1) := by decide +kernel
theorem dX3_leastOf_13 : decode cX3_leastOf 13 = .ok (.getfield 29, 3) := by decide +kernel
theorem dX3_leastOf_16 : decode cX3_leastOf 16 = .ok (.invokestatic 41, 3) := by decide +kernel
theorem dX3_leastOf_19 : decode cX3_leastOf 19 = .ok (.invokestatic 53, 3) := by decide +kernel
theorem dX3_leastOf_22 : decode cX3_leastOf 22 = .ok (.lstore 5, 2) := by decide +kernel
theorem dX3_leastOf_24 : decode cX3_leastOf 24 = .ok (.lload 5, 2) := by decide +kernel
theorem dX3_leastOf_26 : decode cX3_leastOf 26 = .ok (.lload_n 3, 1) := by decide +kernel
theorem dX3_leastOf_27 : decode cX3_leastOf 27 = .ok (.lload_n 3, 1) := by decide +kernel
theorem dX3_leastOf_28 : decode cX3_leastOf 28 = .ok (.lneg, 1) := by decide +kernel
theorem dX3_leastOf_29 : decode cX3_leastOf 29 = .ok (.aload_n 0, 1) := by decide +kernel
theorem dX3_leastOf_30 : decode cX3_leastOf 30 = .ok (.getfield 29, 3) := by decide +kernel
theorem dX3_leastOf_33 : decode cX3_leastOf 33 = .ok (.invokestatic 41, 3) := by decide +kernel
theorem dX3_leastOf_36 : decode cX3_leastOf 36 = .ok (.invokestatic 53, 3) := by decide +kernel
theorem dX3_leastOf_39 : decode cX3_leastOf 39 = .ok (.invokestatic 53, 3) := by decide +kernel
theorem dX3_leastOf_42 : decode cX3_leastOf 42 = .ok (.lreturn, 1) := by decide +kernel
theorem dX4_gcd_0 : decode cX4_gcd 0 = .ok (.lload_n 0, 1) := by decide +kernel
theorem dX4_gcd_1 : decode cX4_gcd 1 = .ok (.invokestatic 7, 3) := by decide +kernel
theorem dX4_gcd_4 : decode cX4_gcd 4 = .ok (.lstore 4, 2) := by decide +kernel
theorem dX4_gcd_6 : decode cX4_gcd 6 = .ok (.lload_n 2, 1) := by decide +kernel
theorem dX4_gcd_7 : decode cX4_gcd 7 = .ok (.invokestatic 7, 3) := by decide +kernel
theorem dX4_gcd_10 : decode cX4_gcd 10 = .ok (.lstore 6, 2) := by decide +kernel
theorem dX4_gcd_12 : decode cX4_gcd 12 = .ok (.iconst 0, 1) := by decide +kernel
theorem dX4_gcd_13 : decode cX4_gcd 13 = .ok (.istore 8, 2) := by decide +kernel
theorem dX4_gcd_15 : decode cX4_gcd 15 = .ok (.iload 8, 2) := by decide +kernel
theorem dX4_gcd_17 : decode cX4_gcd 17 = .ok (.sipush 200, 3) := by decide +kernel
theorem dX4_gcd_20 : decode cX4_gcd 20 = .ok (.if_icmp .ge 31, 3) := by decide +kernel
theorem dX4_gcd_23 : decode cX4_gcd 23 = .ok (.lload 6, 2) := by decide +kernel
theorem dX4_gcd_25 : decode cX4_gcd 25 = .ok (.lconst 0, 1) := by decide +kernel
theorem dX4_gcd_26 : decode cX4_gcd 26 = .ok (.lcmp, 1) := by decide +kernel
theorem dX4_gcd_27 : decode cX4_gcd 27 = .ok (.ifCond .eq 24, 3) := by decide +kernel
theorem dX4_gcd_30 : decode cX4_gcd 30 = .ok (.lload 4, 2) := by decide +kernel
theorem dX4_gcd_32 : decode cX4_gcd 32 = .ok (.lload 6, 2) := by decide +kernel
theorem dX4_gcd_34 : decode cX4_gcd 34 = .ok (.lrem, 1) := by decide +kernel
theorem dX4_gcd_35 : decode cX4_gcd 35 = .ok (.lstore 9, 2) := by decide +kernel
theorem dX4_gcd_37 : decode cX4_gcd 37 = .ok (.lload 6, 2) := by decide +kernel
theorem dX4_gcd_39 : decode cX4_gcd 39 = .ok (.lstore 4, 2) := by decide +kernel
theorem dX4_gcd_41 : decode cX4_gcd 41 = .ok (.lload 9, 2) := by decide +kernel
theorem dX4_gcd_43 : decode cX4_gcd 43 = .ok (.lstore 6, 2) := by decide +kernel
theorem dX4_gcd_45 : decode cX4_gcd 45 = .ok (.iinc 8 1, 3) := by decide +kernel
theorem dX4_gcd_48 : decode cX4_gcd 48 = .ok (.goto (-33), 3) := by decide +kernel
theorem dX4_gcd_51 : decode cX4_gcd 51 = .ok (.lload 4, 2) := by decide +kernel
theorem dX4_gcd_53 : decode cX4_gcd 53 = .ok (.lreturn, 1) := by decide +kernel
theorem dX4_quotient_0 : decode cX4_quotient 0 = .ok (.lload_n 2, 1) := by decide +kernel
theorem dX4_quotient_1 : decode cX4_quotient 1 = .ok (.lconst 0, 1) := by decide +kernel
theorem dX4_quotient_2 : decode cX4_quotient 2 = .ok (.lcmp, 1) := by decide +kernel
theorem dX4_quotient_3 : decode cX4_quotient 3 = .ok (.ifCond .ne 7, 3) := by decide +kernel
theorem dX4_quotient_6 : decode cX4_quotient 6 = .ok (.lconst 0, 1) := by decide +kernel
theorem dX4_quotient_7 : decode cX4_quotient 7 = .ok (.goto 8, 3) := by decide +kernel
theorem dX4_quotient_10 : decode cX4_quotient 10 = .ok (.lload_n 0, 1) := by decide +kernel
theorem dX4_quotient_11 : decode cX4_quotient 11 = .ok (.lload_n 2, 1) := by decide +kernel
theorem dX4_quotient_12 : decode cX4_quotient 12 = .ok (.invokestatic 15, 3) := by decide +kernel
theorem dX4_quotient_15 : decode cX4_quotient 15 = .ok (.lreturn, 1) := by decide +kernel
theorem dX4_modulo_0 : decode cX4_modulo 0 = .ok (.lload_n 2, 1) := by decide +kernel
theorem dX4_modulo_1 : decode cX4_modulo 1 = .ok (.lconst 0, 1) := by decide +kernel
theorem dX4_modulo_2 : decode cX4_modulo 2 = .ok (.lcmp, 1) := by decide +kernel
theorem dX4_modulo_3 : decode cX4_modulo 3 = .ok (.ifCond .gt 7, 3) := by decide +kernel
theorem dX4_modulo_6 : decode cX4_modulo 6 = .ok (.lconst 0, 1) := by decide +kernel
theorem dX4_modulo_7 : decode cX4_modulo 7 = .ok (.goto 8, 3) := by decide +kernel
theorem dX4_modulo_10 : decode cX4_modulo 10 = .ok (.lload_n 0, 1) := by decide +kernel
theorem dX4_modulo_11 : decode cX4_modulo 11 = .ok (.lload_n 2, 1) := by decide +kernel
theorem dX4_modulo_12 : decode cX4_modulo 12 = .ok (.invokestatic 19, 3) := by decide +kernel
theorem dX4_modulo_15 : decode cX4_modulo 15 = .ok (.lreturn, 1) := by decide +kernel
theorem dX4_inverse_0 : decode cX4_inverse 0 = .ok (.lload_n 2, 1) := by decide +kernel
theorem dX4_inverse_1 : decode cX4_inverse 1 = .ok (.lstore 4, 2) := by decide +kernel
theorem dX4_inverse_3 : decode cX4_inverse 3 = .ok (.lload_n 0, 1) := by decide +kernel
theorem dX4_inverse_4 : decode cX4_inverse 4 = .ok (.lload_n 2, 1) := by decide +kernel
theorem dX4_inverse_5 : decode cX4_inverse 5 = .ok (.invokestatic 22, 3) := by decide +kernel
theorem dX4_inverse_8 : decode cX4_inverse 8 = .ok (.lstore 6, 2) := by decide +kernel
theorem dX4_inverse_10 : decode cX4_inverse 10 = .ok (.lconst 0, 1) := by decide +kernel
theorem dX4_inverse_11 : decode cX4_inverse 11 = .ok (.lstore 8, 2) := by decide +kernel
theorem dX4_inverse_13 : decode cX4_inverse 13 = .ok (.lconst 1, 1) := by decide +kernel
theorem dX4_inverse_14 : decode cX4_inverse 14 = .ok (.lstore 10, 2) := by decide +kernel
theorem dX4_inverse_16 : decode cX4_inverse 16 = .ok (.iconst 0, 1) := by decide +kernel
theorem dX4_inverse_17 : decode cX4_inverse 17 = .ok (.istore 12, 2) := by decide +kernel
theorem dX4_inverse_19 : decode cX4_inverse 19 = .ok (.iload 12, 2) := by decide +kernel
theorem dX4_inverse_21 : decode cX4_inverse 21 = .ok (.sipush 200, 3) := by decide +kernel
theorem dX4_inverse_24 : decode cX4_inverse 24 = .ok (.if_icmp .ge 59, 3) := by decide +kernel
theorem dX4_inverse_27 : decode cX4_inverse 27 = .ok (.lload 6, 2) := by decide +kernel
theorem dX4_inverse_29 : decode cX4_inverse 29 = .ok (.lconst 0, 1) := by decide +kernel
theorem dX4_inverse_30 : decode cX4_inverse 30 = .ok (.lcmp, 1) := by decide +kernel
theorem dX4_inverse_31 : decode cX4_inverse 31 = .ok (.ifCond .eq 52, 3) := by decide +kernel
theorem dX4_inverse_34 : decode cX4_inverse 34 = .ok (.lload 4, 2) := by decide +kernel
theorem dX4_inverse_36 : decode cX4_inverse 36 = .ok (.lload 6, 2) := by decide +kernel
theorem dX4_inverse_38 : decode cX4_inverse 38 = .ok (.ldiv, 1) := by decide +kernel
theorem dX4_inverse_39 : decode cX4_inverse 39 = .ok (.lstore 13, 2) := by decide +kernel
theorem dX4_inverse_41 : decode cX4_inverse 41 = .ok (.lload 4, 2) := by decide +kernel
theorem dX4_inverse_43 : decode cX4_inverse 43 = .ok (.lload 13, 2) := by decide +kernel
theorem dX4_inverse_45 : decode cX4_inverse 45 = .ok (.lload 6, 2) := by decide +kernel
theorem dX4_inverse_47 : decode cX4_inverse 47 = .ok (.lmul, 1) := by decide +kernel
theorem dX4_inverse_48 : decode cX4_inverse 48 = .ok (.lsub, 1) := by decide +kernel
theorem dX4_inverse_49 : decode cX4_inverse 49 = .ok (.lstore 15, 2) := by decide +kernel
theorem dX4_inverse_51 : decode cX4_inverse 51 = .ok (.lload 8, 2) := by decide +kernel
theorem dX4_inverse_53 : decode cX4_inverse 53 = .ok (.lload 13, 2) := by decide +kernel
theorem dX4_inverse_55 : decode cX4_inverse 55 = .ok (.lload 10, 2) := by decide +kernel
theorem dX4_inverse_57 : decode cX4_inverse 57 = .ok (.lmul, 1) := by decide +kernel
theorem dX4_inverse_58 : decode cX4_inverse 58 = .ok (.lsub, 1) := by decide +kernel
theorem dX4_inverse_59 : decode cX4_inverse 59 = .ok (.lstore 17, 2) := by decide +kernel
theorem dX4_inverse_61 : decode cX4_inverse 61 = .ok (.lload 6, 2) := by decide +kernel
theorem dX4_inverse_63 : decode cX4_inverse 63 = .ok (.lstore 4, 2) := by decide +kernel
theorem dX4_inverse_65 : decode cX4_inverse 65 = .ok (.lload 15, 2) := by decide +kernel
theorem dX4_inverse_67 : decode cX4_inverse 67 = .ok (.lstore 6, 2) := by decide +kernel
theorem dX4_inverse_69 : decode cX4_inverse 69 = .ok (.lload 10, 2) := by decide +kernel
theorem dX4_inverse_71 : decode cX4_inverse 71 = .ok (.lstore 8, 2) := by decide +kernel
theorem dX4_inverse_73 : decode cX4_inverse 73 = .ok (.lload 17, 2) := by decide +kernel
theorem dX4_inverse_75 : decode cX4_inverse 75 = .ok (.lstore 10, 2) := by decide +kernel
theorem dX4_inverse_77 : decode cX4_inverse 77 = .ok (.iinc 12 1, 3) := by decide +kernel
theorem dX4_inverse_80 : decode cX4_inverse 80 = .ok (.goto (-61), 3) := by decide +kernel
theorem dX4_inverse_83 : decode cX4_inverse 83 = .ok (.lload 8, 2) := by decide +kernel
theorem dX4_inverse_85 : decode cX4_inverse 85 = .ok (.lload_n 2, 1) := by decide +kernel
theorem dX4_inverse_86 : decode cX4_inverse 86 = .ok (.invokestatic 22, 3) := by decide +kernel
theorem dX4_inverse_89 : decode cX4_inverse 89 = .ok (.lreturn, 1) := by decide +kernel
theorem dX5_init_0 : decode cX5_init 0 = .ok (.aload_n 0, 1) := by decide +kernel
theorem dX5_init_1 : decode cX5_init 1 = .ok (.invokespecial 1, 3) := by decide +kernel
theorem dX5_init_4 : decode cX5_init 4 = .ok (.aload_n 0, 1) := by decide +kernel
theorem dX5_init_5 : decode cX5_init 5 = .ok (.bipush 6, 2) := by decide +kernel
theorem dX5_init_7 : decode cX5_init 7 = .ok (.newarray .long, 2) := by decide +kernel
theorem dX5_init_9 : decode cX5_init 9 = .ok (.putfield 9, 3) := by decide +kernel
theorem dX5_init_12 : decode cX5_init 12 = .ok (.aload_n 0, 1) := by decide +kernel
theorem dX5_init_13 : decode cX5_init 13 = .ok (.bipush 6, 2) := by decide +kernel
theorem dX5_init_15 : decode cX5_init 15 = .ok (.newarray .long, 2) := by decide +kernel
theorem dX5_init_17 : decode cX5_init 17 = .ok (.putfield 13, 3) := by decide +kernel
theorem dX5_init_20 : decode cX5_init 20 = .ok (.aload_n 0, 1) := by decide +kernel
theorem dX5_init_21 : decode cX5_init 21 = .ok (.bipush 6, 2) := by decide +kernel
theorem dX5_init_23 : decode cX5_init 23 = .ok (.newarray .long, 2) := by decide +kernel
theorem dX5_init_25 : decode cX5_init 25 = .ok (.putfield 16, 3) := by decide +kernel
theorem dX5_init_28 : decode cX5_init 28 = .ok (.return_, 1) := by decide +kernel
theorem dX5_ways_0 : decode cX5_ways 0 = .ok (.lconst 0, 1) := by decide +kernel
theorem dX5_ways_1 : decode cX5_ways 1 = .ok (.lstore_n 2, 1) := by decide +kernel
theorem dX5_ways_2 : decode cX5_ways 2 = .ok (.iconst 0, 1) := by decide +kernel
theorem dX5_ways_3 : decode cX5_ways 3 = .ok (.istore 4, 2) := by decide +kernel
theorem dX5_ways_5 : decode cX5_ways 5 = .ok (.iload 4, 2) := by decide +kernel
theorem dX5_ways_7 : decode cX5_ways 7 = .ok (.bipush 6, 2) := by decide +kernel
theorem dX5_ways_9 : decode cX5_ways 9 = .ok (.if_icmp .ge 19, 3) := by decide +kernel
theorem dX5_ways_12 : decode cX5_ways 12 = .ok (.lload_n 2, 1) := by decide +kernel
theorem dX5_ways_13 : decode cX5_ways 13 = .ok (.aload_n 0, 1) := by decide +kernel
theorem dX5_ways_14 : decode cX5_ways 14 = .ok (.aload_n 1, 1) := by decide +kernel
theorem dX5_ways_15 : decode cX5_ways 15 = .ok (.iload 4, 2) := by decide +kernel
theorem dX5_ways_17 : decode cX5_ways 17 = .ok (.invokevirtual 19, 3) := by decide +kernel
theorem dX5_ways_20 : decode cX5_ways 20 = .ok (.ladd, 1) := by decide +kernel
theorem dX5_ways_21 : decode cX5_ways 21 = .ok (.lstore_n 2, 1) := by decide +kernel
theorem dX5_ways_22 : decode cX5_ways 22 = .ok (.iinc 4 1, 3) := by decide +kernel
theorem dX5_ways_25 : decode cX5_ways 25 = .ok (.goto (-20), 3) := by decide +kernel
theorem dX5_ways_28 : decode cX5_ways 28 = .ok (.lload_n 2, 1) := by decide +kernel
theorem dX5_ways_29 : decode cX5_ways 29 = .ok (.lreturn, 1) := by decide +kernel
theorem dX5_waysWith_0 : decode cX5_waysWith 0 = .ok (.aload_n 0, 1) := by decide +kernel
theorem dX5_waysWith_1 : decode cX5_waysWith 1 = .ok (.getfield 9, 3) := by decide +kernel
theorem dX5_waysWith_4 : decode cX5_waysWith 4 = .ok (.lconst 0, 1) := by decide +kernel
theorem dX5_waysWith_5 : decode cX5_waysWith 5 = .ok (.invokestatic 23, 3) := by decide +kernel
theorem dX5_waysWith_8 : decode cX5_waysWith 8 = .ok (.aload_n 0, 1) := by decide +kernel
theorem dX5_waysWith_9 : decode cX5_waysWith 9 = .ok (.getfield 9, 3) := by decide +kernel
theorem dX5_waysWith_12 : decode cX5_waysWith 12 = .ok (.iconst 0, 1) := by decide +kernel
theorem dX5_waysWith_13 : decode cX5_waysWith 13 = .ok (.lconst 1, 1) := by decide +kernel
theorem dX5_waysWith_14 : decode cX5_waysWith 14 = .ok (.lastore, 1) := by decide +kernel
theorem dX5_waysWith_15 : decode cX5_waysWith 15 = .ok (.iconst 0, 1) := by decide +kernel
theorem dX5_waysWith_16 : decode cX5_waysWith 16 = .ok (.istore_n 3, 1) := by decide +kernel
theorem dX5_waysWith_17 : decode cX5_waysWith 17 = .ok (.iload_n 3, 1) := by decide +kernel
theorem dX5_waysWith_18 : decode cX5_waysWith 18 = .ok (.aload_n 1, 1) := by decide +kernel
theorem dX5_waysWith_19 : decode cX5_waysWith 19 = .ok (.getfield 29, 3) := by decide +kernel
theorem dX5_waysWith_22 : decode cX5_waysWith 22 = .ok (.if_icmp .ge 30, 3) := by decide +kernel
theorem dX5_waysWith_25 : decode cX5_waysWith 25 = .ok (.aload_n 0, 1) := by decide +kernel
theorem dX5_waysWith_26 : decode cX5_waysWith 26 = .ok (.iload_n 2, 1) := by decide +kernel
theorem dX5_waysWith_27 : decode cX5_waysWith 27 = .ok (.aload_n 1, 1) := by decide +kernel
theorem dX5_waysWith_28 : decode cX5_waysWith 28 = .ok (.getfield 35, 3) := by decide +kernel
theorem dX5_waysWith_31 : decode cX5_waysWith 31 = .ok (.iload_n 3, 1) := by decide +kernel
theorem dX5_waysWith_32 : decode cX5_waysWith 32 = .ok (.iaload, 1) := by decide +kernel
theorem dX5_waysWith_33 : decode cX5_waysWith 33 = .ok (.aload_n 1, 1) := by decide +kernel
theorem dX5_waysWith_34 : decode cX5_waysWith 34 = .ok (.getfield 39, 3) := by decide +kernel
theorem dX5_waysWith_37 : decode cX5_waysWith 37 = .ok (.iload_n 3, 1) := by decide +kernel
theorem dX5_waysWith_38 : decode cX5_waysWith 38 = .ok (.iaload, 1) := by decide +kernel
theorem dX5_waysWith_39 : decode cX5_waysWith 39 = .ok (.invokevirtual 42, 3) := by decide +kernel
theorem dX5_waysWith_42 : decode cX5_waysWith 42 = .ok (.aload_n 0, 1) := by decide +kernel
theorem dX5_waysWith_43 : decode cX5_waysWith 43 = .ok (.invokevirtual 46, 3) := by decide +kernel
theorem dX5_waysWith_46 : decode cX5_waysWith 46 = .ok (.iinc 3 1, 3) := by decide +kernel
theorem dX5_waysWith_49 : decode cX5_waysWith 49 = .ok (.goto (-32), 3) := by decide +kernel
theorem dX5_waysWith_52 : decode cX5_waysWith 52 = .ok (.aload_n 1, 1) := by decide +kernel
theorem dX5_waysWith_53 : decode cX5_waysWith 53 = .ok (.getfield 49, 3) := by decide +kernel
theorem dX5_waysWith_56 : decode cX5_waysWith 56 = .ok (.ifCond .ne 11, 3) := by decide +kernel
theorem dX5_waysWith_59 : decode cX5_waysWith 59 = .ok (.aload_n 0, 1) := by decide +kernel
theorem dX5_waysWith_60 : decode cX5_waysWith 60 = .ok (.iload_n 2, 1) := by decide +kernel
theorem dX5_waysWith_61 : decode cX5_waysWith 61 = .ok (.invokevirtual 52, 3) := by decide +kernel
theorem dX5_waysWith_64 : decode cX5_waysWith 64 = .ok (.goto 8, 3) := by decide +kernel
theorem dX5_waysWith_67 : decode cX5_waysWith 67 = .ok (.aload_n 0, 1) := by decide +kernel
theorem dX5_waysWith_68 : decode cX5_waysWith 68 = .ok (.iload_n 2, 1) := by decide +kernel
theorem dX5_waysWith_69 : decode cX5_waysWith 69 = .ok (.invokevirtual 56, 3) := by decide +kernel
theorem dX5_waysWith_72 : decode cX5_waysWith 72 = .ok (.iconst 0, 1) := by decide +kernel
theorem dX5_waysWith_73 : decode cX5_waysWith 73 = .ok (.istore_n 3, 1) := by decide +kernel
theorem dX5_waysWith_74 : decode cX5_waysWith 74 = .ok (.iload_n 3, 1) := by decide +kernel
theorem dX5_waysWith_75 : decode cX5_waysWith 75 = .ok (.aload_n 1, 1) := by decide +kernel
theorem dX5_waysWith_76 : decode cX5_waysWith 76 = .ok (.getfield 59, 3) := by decide +kernel
theorem dX5_waysWith_79 : decode cX5_waysWith 79 = .ok (.if_icmp .ge 13, 3) := by decide +kernel
theorem dX5_waysWith_82 : decode cX5_waysWith 82 = .ok (.aload_n 0, 1) := by decide +kernel
theorem dX5_waysWith_83 : decode cX5_waysWith 83 = .ok (.invokevirtual 46, 3) := by decide +kernel
theorem dX5_waysWith_86 : decode cX5_waysWith 86 = .ok (.iinc 3 1, 3) := by decide +kernel
theorem dX5_waysWith_89 : decode cX5_waysWith 89 = .ok (.goto (-15), 3) := by decide +kernel
theorem dX5_waysWith_92 : decode cX5_waysWith 92 = .ok (.aload_n 0, 1) := by decide +kernel
theorem dX5_waysWith_93 : decode cX5_waysWith 93 = .ok (.getfield 9, 3) := by decide +kernel
theorem dX5_waysWith_96 : decode cX5_waysWith 96 = .ok (.iload_n 2, 1) := by decide +kernel
theorem dX5_waysWith_97 : decode cX5_waysWith 97 = .ok (.aload_n 1, 1) := by decide +kernel
theorem dX5_waysWith_98 : decode cX5_waysWith 98 = .ok (.getfield 62, 3) := by decide +kernel
theorem dX5_waysWith_101 : decode cX5_waysWith 101 = .ok (.invokestatic 65, 3) := by decide +kernel
theorem dX5_waysWith_104 : decode cX5_waysWith 104 = .ok (.laload, 1) := by decide +kernel
theorem dX5_waysWith_105 : decode cX5_waysWith 105 = .ok (.lreturn, 1) := by decide +kernel
theorem dX5_stepFibre_0 : decode cX5_stepFibre 0 = .ok (.aload_n 0, 1) := by decide +kernel
theorem dX5_stepFibre_1 : decode cX5_stepFibre 1 = .ok (.getfield 13, 3) := by decide +kernel
theorem dX5_stepFibre_4 : decode cX5_stepFibre 4 = .ok (.lconst 0, 1) := by decide +kernel
theorem dX5_stepFibre_5 : decode cX5_stepFibre 5 = .ok (.invokestatic 23, 3) := by decide +kernel
theorem dX5_stepFibre_8 : decode cX5_stepFibre 8 = .ok (.iconst 0, 1) := by decide +kernel
theorem dX5_stepFibre_9 : decode cX5_stepFibre 9 = .ok (.istore 4, 2) := by decide +kernel
theorem dX5_stepFibre_11 : decode cX5_stepFibre 11 = .ok (.iload 4, 2) := by decide +kernel
theorem dX5_stepFibre_13 : decode cX5_stepFibre 13 = .ok (.bipush 6, 2) := by decide +kernel
theorem dX5_stepFibre_15 : decode cX5_stepFibre 15 = .ok (.if_icmp .ge 46, 3) := by decide +kernel
theorem dX5_stepFibre_18 : decode cX5_stepFibre 18 = .ok (.iload 4, 2) := by decide +kernel
theorem dX5_stepFibre_20 : decode cX5_stepFibre 20 = .ok (.iload_n 1, 1) := by decide +kernel
theorem dX5_stepFibre_21 : decode cX5_stepFibre 21 = .ok (.invokestatic 69, 3) := by decide +kernel
theorem dX5_stepFibre_24 : decode cX5_stepFibre 24 = .ok (.ifCond .eq 31, 3) := by decide +kernel
theorem dX5_stepFibre_27 : decode cX5_stepFibre 27 = .ok (.iload 4, 2) := by decide +kernel
theorem dX5_stepFibre_29 : decode cX5_stepFibre 29 = .ok (.iload_n 2, 1) := by decide +kernel
theorem dX5_stepFibre_30 : decode cX5_stepFibre 30 = .ok (.invokestatic 65, 3) := by decide +kernel
theorem dX5_stepFibre_33 : decode cX5_stepFibre 33 = .ok (.iload_n 1, 1) := by decide +kernel
theorem dX5_stepFibre_34 : decode cX5_stepFibre 34 = .ok (.iload_n 3, 1) := by decide +kernel
theorem dX5_stepFibre_35 : decode cX5_stepFibre 35 = .ok (.invokestatic 65, 3) := by decide +kernel
theorem dX5_stepFibre_38 : decode cX5_stepFibre 38 = .ok (.invokestatic 73, 3) := by decide +kernel
theorem dX5_stepFibre_41 : decode cX5_stepFibre 41 = .ok (.ifCond .ne 14, 3) := by decide +kernel
theorem dX5_stepFibre_44 : decode cX5_stepFibre 44 = .ok (.aload_n 0, 1) := by decide +kernel
theorem dX5_stepFibre_45 : decode cX5_stepFibre 45 = .ok (.getfield 13, 3) := by decide +kernel
theorem dX5_stepFibre_48 : decode cX5_stepFibre 48 = .ok (.iload 4, 2) := by decide +kernel
theorem dX5_stepFibre_50 : decode cX5_stepFibre 50 = .ok (.dup2, 1) := by decide +kernel
theorem dX5_stepFibre_51 : decode cX5_stepFibre 51 = .ok (.laload, 1) := by decide +kernel
theorem dX5_stepFibre_52 : decode cX5_stepFibre 52 = .ok (.lconst 1, 1) := by decide +kernel
theorem dX5_stepFibre_53 : decode cX5_stepFibre 53 = .ok (.ladd, 1) := by decide +kernel
theorem dX5_stepFibre_54 : decode cX5_stepFibre 54 = .ok (.lastore, 1) := by decide +kernel
theorem dX5_stepFibre_55 : decode cX5_stepFibre 55 = .ok (.iinc 4 1, 3) := by decide +kernel
theorem dX5_stepFibre_58 : decode cX5_stepFibre 58 = .ok (.goto (-47), 3) := by decide +kernel
theorem dX5_stepFibre_61 : decode cX5_stepFibre 61 = .ok (.return_, 1) := by decide +kernel
theorem dX5_stepHandle_0 : decode cX5_stepHandle 0 = .ok (.aload_n 0, 1) := by decide +kernel
theorem dX5_stepHandle_1 : decode cX5_stepHandle 1 = .ok (.getfield 13, 3) := by decide +kernel
theorem dX5_stepHandle_4 : decode cX5_stepHandle 4 = .ok (.lconst 0, 1) := by decide +kernel
theorem dX5_stepHandle_5 : decode cX5_stepHandle 5 = .ok (.invokestatic 23, 3) := by decide +kernel
theorem dX5_stepHandle_8 : decode cX5_stepHandle 8 = .ok (.iconst 0, 1) := by decide +kernel
theorem dX5_stepHandle_9 : decode cX5_stepHandle 9 = .ok (.istore_n 2, 1) := by decide +kernel
theorem dX5_stepHandle_10 : decode cX5_stepHandle 10 = .ok (.iload_n 2, 1) := by decide +kernel
theorem dX5_stepHandle_11 : decode cX5_stepHandle 11 = .ok (.bipush 6, 2) := by decide +kernel
theorem dX5_stepHandle_13 : decode cX5_stepHandle 13 = .ok (.if_icmp .ge 67, 3) := by decide +kernel
theorem dX5_stepHandle_16 : decode cX5_stepHandle 16 = .ok (.iconst 0, 1) := by decide +kernel
theorem dX5_stepHandle_17 : decode cX5_stepHandle 17 = .ok (.istore_n 3, 1) := by decide +kernel
theorem dX5_stepHandle_18 : decode cX5_stepHandle 18 = .ok (.iload_n 3, 1) := by decide +kernel
theorem dX5_stepHandle_19 : decode cX5_stepHandle 19 = .ok (.bipush 6, 2) := by decide +kernel
theorem dX5_stepHandle_21 : decode cX5_stepHandle 21 = .ok (.if_icmp .ge 53, 3) := by decide +kernel
theorem dX5_stepHandle_24 : decode cX5_stepHandle 24 = .ok (.iload_n 2, 1) := by decide +kernel
theorem dX5_stepHandle_25 : decode cX5_stepHandle 25 = .ok (.iload_n 1, 1) := by decide +kernel
theorem dX5_stepHandle_26 : decode cX5_stepHandle 26 = .ok (.invokestatic 69, 3) := by decide +kernel
theorem dX5_stepHandle_29 : decode cX5_stepHandle 29 = .ok (.ifCond .eq 39, 3) := by decide +kernel
theorem dX5_stepHandle_32 : decode cX5_stepHandle 32 = .ok (.iload_n 3, 1) := by decide +kernel
theorem dX5_stepHandle_33 : decode cX5_stepHandle 33 = .ok (.iload_n 1, 1) := by decide +kernel
theorem dX5_stepHandle_34 : decode cX5_stepHandle 34 = .ok (.invokestatic 69, 3) := by decide +kernel
theorem dX5_stepHandle_37 : decode cX5_stepHandle 37 = .ok (.ifCond .eq 31, 3) := by decide +kernel
theorem dX5_stepHandle_40 : decode cX5_stepHandle 40 = .ok (.aload_n 0, 1) := by decide +kernel
theorem dX5_stepHandle_41 : decode cX5_stepHandle 41 = .ok (.getfield 13, 3) := by decide +kernel
theorem dX5_stepHandle_44 : decode cX5_stepHandle 44 = .ok (.iload_n 2, 1) := by decide +kernel
theorem dX5_stepHandle_45 : decode cX5_stepHandle 45 = .ok (.iload_n 3, 1) := by decide +kernel
theorem dX5_stepHandle_46 : decode cX5_stepHandle 46 = .ok (.invokestatic 73, 3) := by decide +kernel
theorem dX5_stepHandle_49 : decode cX5_stepHandle 49 = .ok (.iload_n 2, 1) := by decide +kernel
theorem dX5_stepHandle_50 : decode cX5_stepHandle 50 = .ok (.invokestatic 76, 3) := by decide +kernel
theorem dX5_stepHandle_53 : decode cX5_stepHandle 53 = .ok (.iload_n 3, 1) := by decide +kernel
theorem dX5_stepHandle_54 : decode cX5_stepHandle 54 = .ok (.invokestatic 76, 3) := by decide +kernel
theorem dX5_stepHandle_57 : decode cX5_stepHandle 57 = .ok (.invokestatic 73, 3) := by decide +kernel
theorem dX5_stepHandle_60 : decode cX5_stepHandle 60 = .ok (.invokestatic 73, 3) := by decide +kernel
theorem dX5_stepHandle_63 : decode cX5_stepHandle 63 = .ok (.dup2, 1) := by decide +kernel
theorem dX5_stepHandle_64 : decode cX5_stepHandle 64 = .ok (.laload, 1) := by decide +kernel
theorem dX5_stepHandle_65 : decode cX5_stepHandle 65 = .ok (.lconst 1, 1) := by decide +kernel
theorem dX5_stepHandle_66 : decode cX5_stepHandle 66 = .ok (.ladd, 1) := by decide +kernel
theorem dX5_stepHandle_67 : decode cX5_stepHandle 67 = .ok (.lastore, 1) := by decide +kernel
theorem dX5_stepHandle_68 : decode cX5_stepHandle 68 = .ok (.iinc 3 1, 3) := by decide +kernel
theorem dX5_stepHandle_71 : decode cX5_stepHandle 71 = .ok (.goto (-53), 3) := by decide +kernel
theorem dX5_stepHandle_74 : decode cX5_stepHandle 74 = .ok (.iinc 2 1, 3) := by decide +kernel
theorem dX5_stepHandle_77 : decode cX5_stepHandle 77 = .ok (.goto (-67), 3) := by decide +kernel
theorem dX5_stepHandle_80 : decode cX5_stepHandle 80 = .ok (.return_, 1) := by decide +kernel
theorem dX5_stepCrosscap_0 : decode cX5_stepCrosscap 0 = .ok (.aload_n 0, 1) := by decide +kernel
theorem dX5_stepCrosscap_1 : decode cX5_stepCrosscap 1 = .ok (.getfield 13, 3) := by decide +kernel
theorem dX5_stepCrosscap_4 : decode cX5_stepCrosscap 4 = .ok (.lconst 0, 1) := by decide +kernel
theorem dX5_stepCrosscap_5 : decode cX5_stepCrosscap 5 = .ok (.invokestatic 23, 3) := by decide +kernel
theorem dX5_stepCrosscap_8 : decode cX5_stepCrosscap 8 = .ok (.iconst 0, 1) := by decide +kernel
theorem dX5_stepCrosscap_9 : decode cX5_stepCrosscap 9 = .ok (.istore_n 2, 1) := by decide +kernel
theorem dX5_stepCrosscap_10 : decode cX5_stepCrosscap 10 = .ok (.iload_n 2, 1) := by decide +kernel
theorem dX5_stepCrosscap_11 : decode cX5_stepCrosscap 11 = .ok (.bipush 6, 2) := by decide +kernel
theorem dX5_stepCrosscap_13 : decode cX5_stepCrosscap 13 = .ok (.if_icmp .ge 39, 3) := by decide +kernel
theorem dX5_stepCrosscap_16 : decode cX5_stepCrosscap 16 = .ok (.iload_n 2, 1) := by decide +kernel
theorem dX5_stepCrosscap_17 : decode cX5_stepCrosscap 17 = .ok (.iload_n 1, 1) := by decide +kernel
theorem dX5_stepCrosscap_18 : decode cX5_stepCrosscap 18 = .ok (.invokestatic 73, 3) := by decide +kernel
theorem dX5_stepCrosscap_21 : decode cX5_stepCrosscap 21 = .ok (.iload_n 1, 1) := by decide +kernel
theorem dX5_stepCrosscap_22 : decode cX5_stepCrosscap 22 = .ok (.invokestatic 76, 3) := by decide +kernel
theorem dX5_stepCrosscap_25 : decode cX5_stepCrosscap 25 = .ok (.iload_n 2, 1) := by decide +kernel
theorem dX5_stepCrosscap_26 : decode cX5_stepCrosscap 26 = .ok (.invokestatic 73, 3) := by decide +kernel
theorem dX5_stepCrosscap_29 : decode cX5_stepCrosscap 29 = .ok (.if_icmp .ne 17, 3) := by decide +kernel
theorem dX5_stepCrosscap_32 : decode cX5_stepCrosscap 32 = .ok (.aload_n 0, 1) := by decide +kernel
theorem dX5_stepCrosscap_33 : decode cX5_stepCrosscap 33 = .ok (.getfield 13, 3) := by decide +kernel
theorem dX5_stepCrosscap_36 : decode cX5_stepCrosscap 36 = .ok (.iload_n 2, 1) := by decide +kernel
theorem dX5_stepCrosscap_37 : decode cX5_stepCrosscap 37 = .ok (.iload_n 2, 1) := by decide +kernel
theorem dX5_stepCrosscap_38 : decode cX5_stepCrosscap 38 = .ok (.invokestatic 73, 3) := by decide +kernel
theorem dX5_stepCrosscap_41 : decode cX5_stepCrosscap 41 = .ok (.dup2, 1) := by decide +kernel
theorem dX5_stepCrosscap_42 : decode cX5_stepCrosscap 42 = .ok (.laload, 1) := by decide +kernel
theorem dX5_stepCrosscap_43 : decode cX5_stepCrosscap 43 = .ok (.lconst 1, 1) := by decide +kernel
theorem dX5_stepCrosscap_44 : decode cX5_stepCrosscap 44 = .ok (.ladd, 1) := by decide +kernel
theorem dX5_stepCrosscap_45 : decode cX5_stepCrosscap 45 = .ok (.lastore, 1) := by decide +kernel
theorem dX5_stepCrosscap_46 : decode cX5_stepCrosscap 46 = .ok (.iinc 2 1, 3) := by decide +kernel
theorem dX5_stepCrosscap_49 : decode cX5_stepCrosscap 49 = .ok (.goto (-39), 3) := by decide +kernel
theorem dX5_stepCrosscap_52 : decode cX5_stepCrosscap 52 = .ok (.return_, 1) := by decide +kernel
theorem dX5_multiply_0 : decode cX5_multiply 0 = .ok (.aload_n 0, 1) := by decide +kernel
theorem dX5_multiply_1 : decode cX5_multiply 1 = .ok (.getfield 16, 3) := by decide +kernel
theorem dX5_multiply_4 : decode cX5_multiply 4 = .ok (.lconst 0, 1) := by decide +kernel
theorem dX5_multiply_5 : decode cX5_multiply 5 = .ok (.invokestatic 23, 3) := by decide +kernel
theorem dX5_multiply_8 : decode cX5_multiply 8 = .ok (.iconst 0, 1) := by decide +kernel
theorem dX5_multiply_9 : decode cX5_multiply 9 = .ok (.istore_n 1, 1) := by decide +kernel
theorem dX5_multiply_10 : decode cX5_multiply 10 = .ok (.iload_n 1, 1) := by decide +kernel
theorem dX5_multiply_11 : decode cX5_multiply 11 = .ok (.bipush 6, 2) := by decide +kernel
theorem dX5_multiply_13 : decode cX5_multiply 13 = .ok (.if_icmp .ge 49, 3) := by decide +kernel
theorem dX5_multiply_16 : decode cX5_multiply 16 = .ok (.iconst 0, 1) := by decide +kernel
theorem dX5_multiply_17 : decode cX5_multiply 17 = .ok (.istore_n 2, 1) := by decide +kernel
theorem dX5_multiply_18 : decode cX5_multiply 18 = .ok (.iload_n 2, 1) := by decide +kernel
theorem dX5_multiply_19 : decode cX5_multiply 19 = .ok (.bipush 6, 2) := by decide +kernel
theorem dX5_multiply_21 : decode cX5_multiply 21 = .ok (.if_icmp .ge 35, 3) := by decide +kernel
theorem dX5_multiply_24 : decode cX5_multiply 24 = .ok (.aload_n 0, 1) := by decide +kernel
theorem dX5_multiply_25 : decode cX5_multiply 25 = .ok (.getfield 16, 3) := by decide +kernel
theorem dX5_multiply_28 : decode cX5_multiply 28 = .ok (.iload_n 1, 1) := by decide +kernel
theorem dX5_multiply_29 : decode cX5_multiply 29 = .ok (.iload_n 2, 1) := by decide +kernel
theorem dX5_multiply_30 : decode cX5_multiply 30 = .ok (.invokestatic 73, 3) := by decide +kernel
theorem dX5_multiply_33 : decode cX5_multiply 33 = .ok (.dup2, 1) := by decide +kernel
theorem dX5_multiply_34 : decode cX5_multiply 34 = .ok (.laload, 1) := by decide +kernel
theorem dX5_multiply_35 : decode cX5_multiply 35 = .ok (.aload_n 0, 1) := by decide +kernel
theorem dX5_multiply_36 : decode cX5_multiply 36 = .ok (.getfield 9, 3) := by decide +kernel
theorem dX5_multiply_39 : decode cX5_multiply 39 = .ok (.iload_n 1, 1) := by decide +kernel
theorem dX5_multiply_40 : decode cX5_multiply 40 = .ok (.laload, 1) := by decide +kernel
theorem dX5_multiply_41 : decode cX5_multiply 41 = .ok (.aload_n 0, 1) := by decide +kernel
theorem dX5_multiply_42 : decode cX5_multiply 42 = .ok (.getfield 13, 3) := by decide +kernel
theorem dX5_multiply_45 : decode cX5_multiply 45 = .ok (.iload_n 2, 1) := by decide +kernel
theorem dX5_multiply_46 : decode cX5_multiply 46 = .ok (.laload, 1) := by decide +kernel
theorem dX5_multiply_47 : decode cX5_multiply 47 = .ok (.lmul, 1) := by decide +kernel
theorem dX5_multiply_48 : decode cX5_multiply 48 = .ok (.ladd, 1) := by decide +kernel
theorem dX5_multiply_49 : decode cX5_multiply 49 = .ok (.lastore, 1) := by decide +kernel
theorem dX5_multiply_50 : decode cX5_multiply 50 = .ok (.iinc 2 1, 3) := by decide +kernel
theorem dX5_multiply_53 : decode cX5_multiply 53 = .ok (.goto (-35), 3) := by decide +kernel
theorem dX5_multiply_56 : decode cX5_multiply 56 = .ok (.iinc 1 1, 3) := by decide +kernel
theorem dX5_multiply_59 : decode cX5_multiply 59 = .ok (.goto (-49), 3) := by decide +kernel
theorem dX5_multiply_62 : decode cX5_multiply 62 = .ok (.aload_n 0, 1) := by decide +kernel
theorem dX5_multiply_63 : decode cX5_multiply 63 = .ok (.getfield 16, 3) := by decide +kernel
theorem dX5_multiply_66 : decode cX5_multiply 66 = .ok (.iconst 0, 1) := by decide +kernel
theorem dX5_multiply_67 : decode cX5_multiply 67 = .ok (.aload_n 0, 1) := by decide +kernel
theorem dX5_multiply_68 : decode cX5_multiply 68 = .ok (.getfield 9, 3) := by decide +kernel
theorem dX5_multiply_71 : decode cX5_multiply 71 = .ok (.iconst 0, 1) := by decide +kernel
theorem dX5_multiply_72 : decode cX5_multiply 72 = .ok (.bipush 6, 2) := by decide +kernel
theorem dX5_multiply_74 : decode cX5_multiply 74 = .ok (.invokestatic 80, 3) := by decide +kernel
theorem dX5_multiply_77 : decode cX5_multiply 77 = .ok (.return_, 1) := by decide +kernel
theorem dX5_commute_0 : decode cX5_commute 0 = .ok (.iload_n 0, 1) := by decide +kernel
theorem dX5_commute_1 : decode cX5_commute 1 = .ok (.iload_n 1, 1) := by decide +kernel
theorem dX5_commute_2 : decode cX5_commute 2 = .ok (.invokestatic 73, 3) := by decide +kernel
theorem dX5_commute_5 : decode cX5_commute 5 = .ok (.iload_n 1, 1) := by decide +kernel
theorem dX5_commute_6 : decode cX5_commute 6 = .ok (.iload_n 0, 1) := by decide +kernel
theorem dX5_commute_7 : decode cX5_commute 7 = .ok (.invokestatic 73, 3) := by decide +kernel
theorem dX5_commute_10 : decode cX5_commute 10 = .ok (.if_icmp .ne 7, 3) := by decide +kernel
theorem dX5_commute_13 : decode cX5_commute 13 = .ok (.iconst 1, 1) := by decide +kernel
theorem dX5_commute_14 : decode cX5_commute 14 = .ok (.goto 4, 3) := by decide +kernel
theorem dX5_commute_17 : decode cX5_commute 17 = .ok (.iconst 0, 1) := by decide +kernel
theorem dX5_commute_18 : decode cX5_commute 18 = .ok (.ireturn, 1) := by decide +kernel
theorem dX5_times_0 : decode cX5_times 0 = .ok (.getstatic 86, 3) := by decide +kernel
theorem dX5_times_3 : decode cX5_times 3 = .ok (.bipush 6, 2) := by decide +kernel
theorem dX5_times_5 : decode cX5_times 5 = .ok (.iload_n 0, 1) := by decide +kernel
theorem dX5_times_6 : decode cX5_times 6 = .ok (.imul, 1) := by decide +kernel
theorem dX5_times_7 : decode cX5_times 7 = .ok (.iload_n 1, 1) := by decide +kernel
theorem dX5_times_8 : decode cX5_times 8 = .ok (.iadd, 1) := by decide +kernel
theorem dX5_times_9 : decode cX5_times 9 = .ok (.iaload, 1) := by decide +kernel
theorem dX5_times_10 : decode cX5_times 10 = .ok (.ireturn, 1) := by decide +kernel
theorem dX5_inverse_0 : decode cX5_inverse 0 = .ok (.iload_n 0, 1) := by decide +kernel
theorem dX5_inverse_1 : decode cX5_inverse 1 = .ok (.iconst (-1), 1) := by decide +kernel
theorem dX5_inverse_2 : decode cX5_inverse 2 = .ok (.invokestatic 65, 3) := by decide +kernel
theorem dX5_inverse_5 : decode cX5_inverse 5 = .ok (.ireturn, 1) := by decide +kernel
theorem dX5_power_0 : decode cX5_power 0 = .ok (.iconst 0, 1) := by decide +kernel
theorem dX5_power_1 : decode cX5_power 1 = .ok (.istore_n 2, 1) := by decide +kernel
theorem dX5_power_2 : decode cX5_power 2 = .ok (.iload_n 1, 1) := by decide +kernel
theorem dX5_power_3 : decode cX5_power 3 = .ok (.bipush 6, 2) := by decide +kernel
theorem dX5_power_5 : decode cX5_power 5 = .ok (.invokestatic 89, 3) := by decide +kernel
theorem dX5_power_8 : decode cX5_power 8 = .ok (.istore_n 3, 1) := by decide +kernel
theorem dX5_power_9 : decode cX5_power 9 = .ok (.iconst 0, 1) := by decide +kernel
theorem dX5_power_10 : decode cX5_power 10 = .ok (.istore 4, 2) := by decide +kernel
theorem dX5_power_12 : decode cX5_power 12 = .ok (.iload 4, 2) := by decide +kernel
theorem dX5_power_14 : decode cX5_power 14 = .ok (.iload_n 3, 1) := by decide +kernel
theorem dX5_power_15 : decode cX5_power 15 = .ok (.if_icmp .ge 15, 3) := by decide +kernel
theorem dX5_power_18 : decode cX5_power 18 = .ok (.iload_n 2, 1) := by decide +kernel
theorem dX5_power_19 : decode cX5_power 19 = .ok (.iload_n 0, 1) := by decide +kernel
theorem dX5_power_20 : decode cX5_power 20 = .ok (.invokestatic 73, 3) := by decide +kernel
theorem dX5_power_23 : decode cX5_power 23 = .ok (.istore_n 2, 1) := by decide +kernel
theorem dX5_power_24 : decode cX5_power 24 = .ok (.iinc 4 1, 3) := by decide +kernel
theorem dX5_power_27 : decode cX5_power 27 = .ok (.goto (-15), 3) := by decide +kernel
theorem dX5_power_30 : decode cX5_power 30 = .ok (.iload_n 2, 1) := by decide +kernel
theorem dX5_power_31 : decode cX5_power 31 = .ok (.ireturn, 1) := by decide +kernel
theorem dX6_init_0 : decode cX6_init 0 = .ok (.aload_n 0, 1) := by decide +kernel
theorem dX6_init_1 : decode cX6_init 1 = .ok (.invokespecial 3, 3) := by decide +kernel
theorem dX6_init_4 : decode cX6_init 4 = .ok (.aload_n 0, 1) := by decide +kernel
theorem dX6_init_5 : decode cX6_init 5 = .ok (.bipush 6, 2) := by decide +kernel
theorem dX6_init_7 : decode cX6_init 7 = .ok (.anewarray 9, 3) := by decide +kernel
theorem dX6_init_10 : decode cX6_init 10 = .ok (.putfield 11, 3) := by decide +kernel
theorem dX6_init_13 : decode cX6_init 13 = .ok (.iconst 0, 1) := by decide +kernel
theorem dX6_init_14 : decode cX6_init 14 = .ok (.istore_n 1, 1) := by decide +kernel
theorem dX6_init_15 : decode cX6_init 15 = .ok (.iload_n 1, 1) := by decide +kernel
theorem dX6_init_16 : decode cX6_init 16 = .ok (.bipush 6, 2) := by decide +kernel
theorem dX6_init_18 : decode cX6_init 18 = .ok (.if_icmp .ge 22, 3) := by decide +kernel
theorem dX6_init_21 : decode cX6_init 21 = .ok (.aload_n 0, 1) := by decide +kernel
theorem dX6_init_22 : decode cX6_init 22 = .ok (.getfield 11, 3) := by decide +kernel
theorem dX6_init_25 : decode cX6_init 25 = .ok (.iload_n 1, 1) := by decide +kernel
theorem dX6_init_26 : decode cX6_init 26 = .ok (.new 9, 3) := by decide +kernel
theorem dX6_init_29 : decode cX6_init 29 = .ok (.dup, 1) := by decide +kernel
theorem dX6_init_30 : decode cX6_init 30 = .ok (.invokespecial 17, 3) := by decide +kernel
theorem dX6_init_33 : decode cX6_init 33 = .ok (.aastore, 1) := by decide +kernel
theorem dX6_init_34 : decode cX6_init 34 = .ok (.iinc 1 1, 3) := by decide +kernel
theorem dX6_init_37 : decode cX6_init 37 = .ok (.goto (-22), 3) := by decide +kernel
theorem dX6_init_40 : decode cX6_init 40 = .ok (.return_, 1) := by decide +kernel
theorem dX6_copy_0 : decode cX6_copy 0 = .ok (.iconst 0, 1) := by decide +kernel
theorem dX6_copy_1 : decode cX6_copy 1 = .ok (.istore_n 2, 1) := by decide +kernel
theorem dX6_copy_2 : decode cX6_copy 2 = .ok (.iload_n 2, 1) := by decide +kernel
theorem dX6_copy_3 : decode cX6_copy 3 = .ok (.bipush 6, 2) := by decide +kernel
theorem dX6_copy_5 : decode cX6_copy 5 = .ok (.if_icmp .ge 24, 3) := by decide +kernel
theorem dX6_copy_8 : decode cX6_copy 8 = .ok (.aload_n 0, 1) := by decide +kernel
theorem dX6_copy_9 : decode cX6_copy 9 = .ok (.getfield 11, 3) := by decide +kernel
theorem dX6_copy_12 : decode cX6_copy 12 = .ok (.iload_n 2, 1) := by decide +kernel
theorem dX6_copy_13 : decode cX6_copy 13 = .ok (.aaload, 1) := by decide +kernel
theorem dX6_copy_14 : decode cX6_copy 14 = .ok (.aload_n 1, 1) := by decide +kernel
theorem dX6_copy_15 : decode cX6_copy 15 = .ok (.getfield 11, 3) := by decide +kernel
theorem dX6_copy_18 : decode cX6_copy 18 = .ok (.iload_n 2, 1) := by decide +kernel
theorem dX6_copy_19 : decode cX6_copy 19 = .ok (.aaload, 1) := by decide +kernel
theorem dX6_copy_20 : decode cX6_copy 20 = .ok (.invokevirtual 18, 3) := by decide +kernel
theorem dX6_copy_23 : decode cX6_copy 23 = .ok (.iinc 2 1, 3) := by decide +kernel
theorem dX6_copy_26 : decode cX6_copy 26 = .ok (.goto (-24), 3) := by decide +kernel
theorem dX6_copy_29 : decode cX6_copy 29 = .ok (.return_, 1) := by decide +kernel
theorem dX6_allFibres_0 : decode cX6_allFibres 0 = .ok (.iconst 0, 1) := by decide +kernel
theorem dX6_allFibres_1 : decode cX6_allFibres 1 = .ok (.istore_n 1, 1) := by decide +kernel
theorem dX6_allFibres_2 : decode cX6_allFibres 2 = .ok (.iconst 0, 1) := by decide +kernel
theorem dX6_allFibres_3 : decode cX6_allFibres 3 = .ok (.istore_n 2, 1) := by decide +kernel
theorem dX6_allFibres_4 : decode cX6_allFibres 4 = .ok (.iload_n 2, 1) := by decide +kernel
theorem dX6_allFibres_5 : decode cX6_allFibres 5 = .ok (.bipush 6, 2) := by decide +kernel
theorem dX6_allFibres_7 : decode cX6_allFibres 7 = .ok (.if_icmp .ge 21, 3) := by decide +kernel
theorem dX6_allFibres_10 : decode cX6_allFibres 10 = .ok (.iload_n 1, 1) := by decide +kernel
theorem dX6_allFibres_11 : decode cX6_allFibres 11 = .ok (.aload_n 0, 1) := by decide +kernel
theorem dX6_allFibres_12 : decode cX6_allFibres 12 = .ok (.getfield 11, 3) := by decide +kernel
theorem dX6_allFibres_15 : decode cX6_allFibres 15 = .ok (.iload_n 2, 1) := by decide +kernel
theorem dX6_allFibres_16 : decode cX6_allFibres 16 = .ok (.aaload, 1) := by decide +kernel
theorem dX6_allFibres_17 : decode cX6_allFibres 17 = .ok (.getfield 22, 3) := by decide +kernel
theorem dX6_allFibres_20 : decode cX6_allFibres 20 = .ok (.iadd, 1) := by decide +kernel
theorem dX6_allFibres_21 : decode cX6_allFibres 21 = .ok (.istore_n 1, 1) := by decide +kernel
theorem dX6_allFibres_22 : decode cX6_allFibres 22 = .ok (.iinc 2 1, 3) := by decide +kernel
theorem dX6_allFibres_25 : decode cX6_allFibres 25 = .ok (.goto (-21), 3) := by decide +kernel
theorem dX6_allFibres_28 : decode cX6_allFibres 28 = .ok (.iload_n 1, 1) := by decide +kernel
theorem dX6_allFibres_29 : decode cX6_allFibres 29 = .ok (.ireturn, 1) := by decide +kernel
theorem dX7_init_0 : decode cX7_init 0 = .ok (.aload_n 0, 1) := by decide +kernel
theorem dX7_init_1 : decode cX7_init 1 = .ok (.invokespecial 3, 3) := by decide +kernel
theorem dX7_init_4 : decode cX7_init 4 = .ok (.aload_n 0, 1) := by decide +kernel
theorem dX7_init_5 : decode cX7_init 5 = .ok (.bipush 6, 2) := by decide +kernel
theorem dX7_init_7 : decode cX7_init 7 = .ok (.newarray .int, 2) := by decide +kernel
theorem dX7_init_9 : decode cX7_init 9 = .ok (.putfield 9, 3) := by decide +kernel
theorem dX7_init_12 : decode cX7_init 12 = .ok (.aload_n 0, 1) := by decide +kernel
theorem dX7_init_13 : decode cX7_init 13 = .ok (.bipush 6, 2) := by decide +kernel
theorem dX7_init_15 : decode cX7_init 15 = .ok (.newarray .long, 2) := by decide +kernel
theorem dX7_init_17 : decode cX7_init 17 = .ok (.putfield 15, 3) := by decide +kernel
theorem dX7_init_20 : decode cX7_init 20 = .ok (.return_, 1) := by decide +kernel
theorem dX7_add_0 : decode cX7_add 0 = .ok (.aload_n 0, 1) := by decide +kernel
theorem dX7_add_1 : decode cX7_add 1 = .ok (.getfield 19, 3) := by decide +kernel
theorem dX7_add_4 : decode cX7_add 4 = .ok (.bipush 6, 2) := by decide +kernel
theorem dX7_add_6 : decode cX7_add 6 = .ok (.if_icmp .ge 33, 3) := by decide +kernel
theorem dX7_add_9 : decode cX7_add 9 = .ok (.aload_n 0, 1) := by decide +kernel
theorem dX7_add_10 : decode cX7_add 10 = .ok (.getfield 9, 3) := by decide +kernel
theorem dX7_add_13 : decode cX7_add 13 = .ok (.aload_n 0, 1) := by decide +kernel
theorem dX7_add_14 : decode cX7_add 14 = .ok (.getfield 19, 3) := by decide +kernel
theorem dX7_add_17 : decode cX7_add 17 = .ok (.iload_n 1, 1) := by decide +kernel
theorem dX7_add_18 : decode cX7_add 18 = .ok (.iastore, 1) := by decide +kernel
theorem dX7_add_19 : decode cX7_add 19 = .ok (.aload_n 0, 1) := by decide +kernel
theorem dX7_add_20 : decode cX7_add 20 = .ok (.getfield 15, 3) := by decide +kernel
theorem dX7_add_23 : decode cX7_add 23 = .ok (.aload_n 0, 1) := by decide +kernel
theorem dX7_add_24 : decode cX7_add 24 = .ok (.getfield 19, 3) := by decide +kernel
theorem dX7_add_27 : decode cX7_add 27 = .ok (.lload_n 2, 1) := by decide +kernel
theorem dX7_add_28 : decode cX7_add 28 = .ok (.lastore, 1) := by decide +kernel
theorem dX7_add_29 : decode cX7_add 29 = .ok (.aload_n 0, 1) := by decide +kernel
theorem dX7_add_30 : decode cX7_add 30 = .ok (.dup, 1) := by decide +kernel
theorem dX7_add_31 : decode cX7_add 31 = .ok (.getfield 19, 3) := by decide +kernel
theorem dX7_add_34 : decode cX7_add 34 = .ok (.iconst 1, 1) := by decide +kernel
theorem dX7_add_35 : decode cX7_add 35 = .ok (.iadd, 1) := by decide +kernel
theorem dX7_add_36 : decode cX7_add 36 = .ok (.putfield 19, 3) := by decide +kernel
theorem dX7_add_39 : decode cX7_add 39 = .ok (.return_, 1) := by decide +kernel
theorem dX7_agree_0 : decode cX7_agree 0 = .ok (.iconst 1, 1) := by decide +kernel
theorem dX7_agree_1 : decode cX7_agree 1 = .ok (.istore_n 2, 1) := by decide +kernel
theorem dX7_agree_2 : decode cX7_agree 2 = .ok (.iconst 0, 1) := by decide +kernel
theorem dX7_agree_3 : decode cX7_agree 3 = .ok (.istore_n 3, 1) := by decide +kernel
theorem dX7_agree_4 : decode cX7_agree 4 = .ok (.iload_n 3, 1) := by decide +kernel
theorem dX7_agree_5 : decode cX7_agree 5 = .ok (.aload_n 0, 1) := by decide +kernel
theorem dX7_agree_6 : decode cX7_agree 6 = .ok (.getfield 19, 3) := by decide +kernel
theorem dX7_agree_9 : decode cX7_agree 9 = .ok (.if_icmp .ge 39, 3) := by decide +kernel
theorem dX7_agree_12 : decode cX7_agree 12 = .ok (.iload_n 2, 1) := by decide +kernel
theorem dX7_agree_13 : decode cX7_agree 13 = .ok (.ifCond .eq 27, 3) := by decide +kernel
theorem dX7_agree_16 : decode cX7_agree 16 = .ok (.aload_n 1, 1) := by decide +kernel
theorem dX7_agree_17 : decode cX7_agree 17 = .ok (.aload_n 0, 1) := by decide +kernel
theorem dX7_agree_18 : decode cX7_agree 18 = .ok (.getfield 9, 3) := by decide +kernel
theorem dX7_agree_21 : decode cX7_agree 21 = .ok (.iload_n 3, 1) := by decide +kernel
theorem dX7_agree_22 : decode cX7_agree 22 = .ok (.iaload, 1) := by decide +kernel
theorem dX7_agree_23 : decode cX7_agree 23 = .ok (.invokevirtual 23, 3) := by decide +kernel
theorem dX7_agree_26 : decode cX7_agree 26 = .ok (.aload_n 0, 1) := by decide +kernel
theorem dX7_agree_27 : decode cX7_agree 27 = .ok (.getfield 15, 3) := by decide +kernel
theorem dX7_agree_30 : decode cX7_agree 30 = .ok (.iload_n 3, 1) := by decide +kernel
theorem dX7_agree_31 : decode cX7_agree 31 = .ok (.laload, 1) := by decide +kernel
theorem dX7_agree_32 : decode cX7_agree 32 = .ok (.lcmp, 1) := by decide +kernel
theorem dX7_agree_33 : decode cX7_agree 33 = .ok (.ifCond .ne 7, 3) := by decide +kernel
theorem dX7_agree_36 : decode cX7_agree 36 = .ok (.iconst 1, 1) := by decide +kernel
theorem dX7_agree_37 : decode cX7_agree 37 = .ok (.goto 4, 3) := by decide +kernel
theorem dX7_agree_40 : decode cX7_agree 40 = .ok (.iconst 0, 1) := by decide +kernel
theorem dX7_agree_41 : decode cX7_agree 41 = .ok (.istore_n 2, 1) := by decide +kernel
theorem dX7_agree_42 : decode cX7_agree 42 = .ok (.iinc 3 1, 3) := by decide +kernel
theorem dX7_agree_45 : decode cX7_agree 45 = .ok (.goto (-41), 3) := by decide +kernel
theorem dX7_agree_48 : decode cX7_agree 48 = .ok (.iload_n 2, 1) := by decide +kernel
theorem dX7_agree_49 : decode cX7_agree 49 = .ok (.ireturn, 1) := by decide +kernel
theorem dX8_init_0 : decode cX8_init 0 = .ok (.aload_n 0, 1) := by decide +kernel
theorem dX8_init_1 : decode cX8_init 1 = .ok (.invokespecial 3, 3) := by decide +kernel
theorem dX8_init_4 : decode cX8_init 4 = .ok (.aload_n 0, 1) := by decide +kernel
theorem dX8_init_5 : decode cX8_init 5 = .ok (.bipush 6, 2) := by decide +kernel
theorem dX8_init_7 : decode cX8_init 7 = .ok (.newarray .int, 2) := by decide +kernel
theorem dX8_init_9 : decode cX8_init 9 = .ok (.putfield 9, 3) := by decide +kernel
theorem dX8_init_12 : decode cX8_init 12 = .ok (.aload_n 0, 1) := by decide +kernel
theorem dX8_init_13 : decode cX8_init 13 = .ok (.bipush 6, 2) := by decide +kernel
theorem dX8_init_15 : decode cX8_init 15 = .ok (.newarray .int, 2) := by decide +kernel
theorem dX8_init_17 : decode cX8_init 17 = .ok (.putfield 15, 3) := by decide +kernel
theorem dX8_init_20 : decode cX8_init 20 = .ok (.return_, 1) := by decide +kernel
theorem dX8_start_0 : decode cX8_start 0 = .ok (.aload_n 0, 1) := by decide +kernel
theorem dX8_start_1 : decode cX8_start 1 = .ok (.iload_n 1, 1) := by decide +kernel
theorem dX8_start_2 : decode cX8_start 2 = .ok (.putfield 18, 3) := by decide +kernel
theorem dX8_start_5 : decode cX8_start 5 = .ok (.aload_n 0, 1) := by decide +kernel
theorem dX8_start_6 : decode cX8_start 6 = .ok (.iload_n 2, 1) := by decide +kernel
theorem dX8_start_7 : decode cX8_start 7 = .ok (.putfield 22, 3) := by decide +kernel
theorem dX8_start_10 : decode cX8_start 10 = .ok (.aload_n 0, 1) := by decide +kernel
theorem dX8_start_11 : decode cX8_start 11 = .ok (.iload_n 3, 1) := by decide +kernel
theorem dX8_start_12 : decode cX8_start 12 = .ok (.putfield 25, 3) := by decide +kernel
theorem dX8_start_15 : decode cX8_start 15 = .ok (.aload_n 0, 1) := by decide +kernel
theorem dX8_start_16 : decode cX8_start 16 = .ok (.iconst 0, 1) := by decide +kernel
theorem dX8_start_17 : decode cX8_start 17 = .ok (.putfield 28, 3) := by decide +kernel
theorem dX8_start_20 : decode cX8_start 20 = .ok (.aload_n 0, 1) := by decide +kernel
theorem dX8_start_21 : decode cX8_start 21 = .ok (.iconst 0, 1) := by decide +kernel
theorem dX8_start_22 : decode cX8_start 22 = .ok (.putfield 31, 3) := by decide +kernel
theorem dX8_start_25 : decode cX8_start 25 = .ok (.return_, 1) := by decide +kernel
theorem dX8_copy_0 : decode cX8_copy 0 = .ok (.aload_n 0, 1) := by decide +kernel
theorem dX8_copy_1 : decode cX8_copy 1 = .ok (.aload_n 1, 1) := by decide +kernel
theorem dX8_copy_2 : decode cX8_copy 2 = .ok (.getfield 18, 3) := by decide +kernel
theorem dX8_copy_5 : decode cX8_copy 5 = .ok (.aload_n 1, 1) := by decide +kernel
theorem dX8_copy_6 : decode cX8_copy 6 = .ok (.getfield 22, 3) := by decide +kernel
theorem dX8_copy_9 : decode cX8_copy 9 = .ok (.aload_n 1, 1) := by decide +kernel
theorem dX8_copy_10 : decode cX8_copy 10 = .ok (.getfield 25, 3) := by decide +kernel
theorem dX8_copy_13 : decode cX8_copy 13 = .ok (.invokevirtual 35, 3) := by decide +kernel
theorem dX8_copy_16 : decode cX8_copy 16 = .ok (.aload_n 0, 1) := by decide +kernel
theorem dX8_copy_17 : decode cX8_copy 17 = .ok (.aload_n 1, 1) := by decide +kernel
theorem dX8_copy_18 : decode cX8_copy 18 = .ok (.getfield 28, 3) := by decide +kernel
theorem dX8_copy_21 : decode cX8_copy 21 = .ok (.putfield 28, 3) := by decide +kernel
theorem dX8_copy_24 : decode cX8_copy 24 = .ok (.aload_n 0, 1) := by decide +kernel
theorem dX8_copy_25 : decode cX8_copy 25 = .ok (.aload_n 1, 1) := by decide +kernel
theorem dX8_copy_26 : decode cX8_copy 26 = .ok (.getfield 31, 3) := by decide +kernel
theorem dX8_copy_29 : decode cX8_copy 29 = .ok (.putfield 31, 3) := by decide +kernel
theorem dX8_copy_32 : decode cX8_copy 32 = .ok (.iconst 0, 1) := by decide +kernel
theorem dX8_copy_33 : decode cX8_copy 33 = .ok (.istore_n 2, 1) := by decide +kernel
theorem dX8_copy_34 : decode cX8_copy 34 = .ok (.iload_n 2, 1) := by decide +kernel
theorem dX8_copy_35 : decode cX8_copy 35 = .ok (.bipush 6, 2) := by decide +kernel
theorem dX8_copy_37 : decode cX8_copy 37 = .ok (.if_icmp .ge 33, 3) := by decide +kernel
theorem dX8_copy_40 : decode cX8_copy 40 = .ok (.aload_n 0, 1) := by decide +kernel
theorem dX8_copy_41 : decode cX8_copy 41 = .ok (.getfield 9, 3) := by decide +kernel
theorem dX8_copy_44 : decode cX8_copy 44 = .ok (.iload_n 2, 1) := by decide +kernel
theorem dX8_copy_45 : decode cX8_copy 45 = .ok (.aload_n 1, 1) := by decide +kernel
theorem dX8_copy_46 : decode cX8_copy 46 = .ok (.getfield 9, 3) := by decide +kernel
theorem dX8_copy_49 : decode cX8_copy 49 = .ok (.iload_n 2, 1) := by decide +kernel
theorem dX8_copy_50 : decode cX8_copy 50 = .ok (.iaload, 1) := by decide +kernel
theorem dX8_copy_51 : decode cX8_copy 51 = .ok (.iastore, 1) := by decide +kernel
theorem dX8_copy_52 : decode cX8_copy 52 = .ok (.aload_n 0, 1) := by decide +kernel
theorem dX8_copy_53 : decode cX8_copy 53 = .ok (.getfield 15, 3) := by decide +kernel
theorem dX8_copy_56 : decode cX8_copy 56 = .ok (.iload_n 2, 1) := by decide +kernel
theorem dX8_copy_57 : decode cX8_copy 57 = .ok (.aload_n 1, 1) := by decide +kernel
theorem dX8_copy_58 : decode cX8_copy 58 = .ok (.getfield 15, 3) := by decide +kernel
theorem dX8_copy_61 : decode cX8_copy 61 = .ok (.iload_n 2, 1) := by decide +kernel
theorem dX8_copy_62 : decode cX8_copy 62 = .ok (.iaload, 1) := by decide +kernel
theorem dX8_copy_63 : decode cX8_copy 63 = .ok (.iastore, 1) := by decide +kernel
theorem dX8_copy_64 : decode cX8_copy 64 = .ok (.iinc 2 1, 3) := by decide +kernel
theorem dX8_copy_67 : decode cX8_copy 67 = .ok (.goto (-33), 3) := by decide +kernel
theorem dX8_copy_70 : decode cX8_copy 70 = .ok (.return_, 1) := by decide +kernel
theorem dX8_fits_0 : decode cX8_fits 0 = .ok (.aload_n 0, 1) := by decide +kernel
theorem dX8_fits_1 : decode cX8_fits 1 = .ok (.getfield 31, 3) := by decide +kernel
theorem dX8_fits_4 : decode cX8_fits 4 = .ok (.ifCond .ne 28, 3) := by decide +kernel
theorem dX8_fits_7 : decode cX8_fits 7 = .ok (.aload_n 0, 1) := by decide +kernel
theorem dX8_fits_8 : decode cX8_fits 8 = .ok (.getfield 22, 3) := by decide +kernel
theorem dX8_fits_11 : decode cX8_fits 11 = .ok (.iconst 4, 1) := by decide +kernel
theorem dX8_fits_12 : decode cX8_fits 12 = .ok (.if_icmp .gt 20, 3) := by decide +kernel
theorem dX8_fits_15 : decode cX8_fits 15 = .ok (.aload_n 0, 1) := by decide +kernel
theorem dX8_fits_16 : decode cX8_fits 16 = .ok (.getfield 25, 3) := by decide +kernel
theorem dX8_fits_19 : decode cX8_fits 19 = .ok (.invokestatic 39, 3) := by decide +kernel
theorem dX8_fits_22 : decode cX8_fits 22 = .ok (.sipush 999, 3) := by decide +kernel
theorem dX8_fits_25 : decode cX8_fits 25 = .ok (.if_icmp .gt 7, 3) := by decide +kernel
theorem dX8_fits_28 : decode cX8_fits 28 = .ok (.iconst 1, 1) := by decide +kernel
theorem dX8_fits_29 : decode cX8_fits 29 = .ok (.goto 4, 3) := by decide +kernel
theorem dX8_fits_32 : decode cX8_fits 32 = .ok (.iconst 0, 1) := by decide +kernel
theorem dX8_fits_33 : decode cX8_fits 33 = .ok (.ireturn, 1) := by decide +kernel
theorem dX8_put_0 : decode cX8_put 0 = .ok (.aload_n 0, 1) := by decide +kernel
theorem dX8_put_1 : decode cX8_put 1 = .ok (.dup, 1) := by decide +kernel
theorem dX8_put_2 : decode cX8_put 2 = .ok (.getfield 25, 3) := by decide +kernel
theorem dX8_put_5 : decode cX8_put 5 = .ok (.iload_n 2, 1) := by decide +kernel
theorem dX8_put_6 : decode cX8_put 6 = .ok (.i2l, 1) := by decide +kernel
theorem dX8_put_7 : decode cX8_put 7 = .ok (.iload_n 1, 1) := by decide +kernel
theorem dX8_put_8 : decode cX8_put 8 = .ok (.i2l, 1) := by decide +kernel
theorem dX8_put_9 : decode cX8_put 9 = .ok (.invokestatic 45, 3) := by decide +kernel
theorem dX8_put_12 : decode cX8_put 12 = .ok (.l2i, 1) := by decide +kernel
theorem dX8_put_13 : decode cX8_put 13 = .ok (.iadd, 1) := by decide +kernel
theorem dX8_put_14 : decode cX8_put 14 = .ok (.putfield 25, 3) := by decide +kernel
theorem dX8_put_17 : decode cX8_put 17 = .ok (.iload_n 1, 1) := by decide +kernel
theorem dX8_put_18 : decode cX8_put 18 = .ok (.iconst 1, 1) := by decide +kernel
theorem dX8_put_19 : decode cX8_put 19 = .ok (.if_icmp .le 16, 3) := by decide +kernel
theorem dX8_put_22 : decode cX8_put 22 = .ok (.aload_n 0, 1) := by decide +kernel
theorem dX8_put_23 : decode cX8_put 23 = .ok (.iload_n 1, 1) := by decide +kernel
theorem dX8_put_24 : decode cX8_put 24 = .ok (.iload_n 2, 1) := by decide +kernel
theorem dX8_put_25 : decode cX8_put 25 = .ok (.i2l, 1) := by decide +kernel
theorem dX8_put_26 : decode cX8_put 26 = .ok (.iload_n 1, 1) := by decide +kernel
theorem dX8_put_27 : decode cX8_put 27 = .ok (.i2l, 1) := by decide +kernel
theorem dX8_put_28 : decode cX8_put 28 = .ok (.invokestatic 51, 3) := by decide +kernel
theorem dX8_put_31 : decode cX8_put 31 = .ok (.l2i, 1) := by decide +kernel
theorem dX8_put_32 : decode cX8_put 32 = .ok (.invokevirtual 54, 3) := by decide +kernel
theorem dX8_put_35 : decode cX8_put 35 = .ok (.return_, 1) := by decide +kernel
theorem dX8_insert_0 : decode cX8_insert 0 = .ok (.aload_n 0, 1) := by decide +kernel
theorem dX8_insert_1 : decode cX8_insert 1 = .ok (.getfield 28, 3) := by decide +kernel
theorem dX8_insert_4 : decode cX8_insert 4 = .ok (.bipush 6, 2) := by decide +kernel
theorem dX8_insert_6 : decode cX8_insert 6 = .ok (.if_icmp .lt 9, 3) := by decide +kernel
theorem dX8_insert_9 : decode cX8_insert 9 = .ok (.aload_n 0, 1) := by decide +kernel
theorem dX8_insert_10 : decode cX8_insert 10 = .ok (.iconst 1, 1) := by decide +kernel
theorem dX8_insert_11 : decode cX8_insert 11 = .ok (.putfield 31, 3) := by decide +kernel
theorem dX8_insert_14 : decode cX8_insert 14 = .ok (.return_, 1) := by decide +kernel
theorem dX8_insert_15 : decode cX8_insert 15 = .ok (.aload_n 0, 1) := by decide +kernel
theorem dX8_insert_16 : decode cX8_insert 16 = .ok (.getfield 28, 3) := by decide +kernel
theorem dX8_insert_19 : decode cX8_insert 19 = .ok (.istore_n 3, 1) := by decide +kernel
theorem dX8_insert_20 : decode cX8_insert 20 = .ok (.iload_n 3, 1) := by decide +kernel
theorem dX8_insert_21 : decode cX8_insert 21 = .ok (.ifCond .le 73, 3) := by decide +kernel
theorem dX8_insert_24 : decode cX8_insert 24 = .ok (.aload_n 0, 1) := by decide +kernel
theorem dX8_insert_25 : decode cX8_insert 25 = .ok (.getfield 9, 3) := by decide +kernel
theorem dX8_insert_28 : decode cX8_insert 28 = .ok (.iload_n 3, 1) := by decide +kernel
theorem dX8_insert_29 : decode cX8_insert 29 = .ok (.iconst 1, 1) := by decide +kernel
theorem dX8_insert_30 : decode cX8_insert 30 = .ok (.isub, 1) := by decide +kernel
theorem dX8_insert_31 : decode cX8_insert 31 = .ok (.iaload, 1) := by decide +kernel
theorem dX8_insert_32 : decode cX8_insert 32 = .ok (.iload_n 1, 1) := by decide +kernel
theorem dX8_insert_33 : decode cX8_insert 33 = .ok (.if_icmp .gt 27, 3) := by decide +kernel
theorem dX8_insert_36 : decode cX8_insert 36 = .ok (.aload_n 0, 1) := by decide +kernel
theorem dX8_insert_37 : decode cX8_insert 37 = .ok (.getfield 9, 3) := by decide +kernel
theorem dX8_insert_40 : decode cX8_insert 40 = .ok (.iload_n 3, 1) := by decide +kernel
theorem dX8_insert_41 : decode cX8_insert 41 = .ok (.iconst 1, 1) := by decide +kernel
theorem dX8_insert_42 : decode cX8_insert 42 = .ok (.isub, 1) := by decide +kernel
theorem dX8_insert_43 : decode cX8_insert 43 = .ok (.iaload, 1) := by decide +kernel
theorem dX8_insert_44 : decode cX8_insert 44 = .ok (.iload_n 1, 1) := by decide +kernel
theorem dX8_insert_45 : decode cX8_insert 45 = .ok (.if_icmp .ne 49, 3) := by decide +kernel
theorem dX8_insert_48 : decode cX8_insert 48 = .ok (.aload_n 0, 1) := by decide +kernel
theorem dX8_insert_49 : decode cX8_insert 49 = .ok (.getfield 15, 3) := by decide +kernel
theorem dX8_insert_52 : decode cX8_insert 52 = .ok (.iload_n 3, 1) := by decide +kernel
theorem dX8_insert_53 : decode cX8_insert 53 = .ok (.iconst 1, 1) := by decide +kernel
theorem dX8_insert_54 : decode cX8_insert 54 = .ok (.isub, 1) := by decide +kernel
theorem dX8_insert_55 : decode cX8_insert 55 = .ok (.iaload, 1) := by decide +kernel
theorem dX8_insert_56 : decode cX8_insert 56 = .ok (.iload_n 2, 1) := by decide +kernel
theorem dX8_insert_57 : decode cX8_insert 57 = .ok (.if_icmp .le 37, 3) := by decide +kernel
theorem dX8_insert_60 : decode cX8_insert 60 = .ok (.aload_n 0, 1) := by decide +kernel
theorem dX8_insert_61 : decode cX8_insert 61 = .ok (.getfield 9, 3) := by decide +kernel
theorem dX8_insert_64 : decode cX8_insert 64 = .ok (.iload_n 3, 1) := by decide +kernel
theorem dX8_insert_65 : decode cX8_insert 65 = .ok (.aload_n 0, 1) := by decide +kernel
theorem dX8_insert_66 : decode cX8_insert 66 = .ok (.getfield 9, 3) := by decide +kernel
theorem dX8_insert_69 : decode cX8_insert 69 = .ok (.iload_n 3, 1) := by decide +kernel
theorem dX8_insert_70 : decode cX8_insert 70 = .ok (.iconst 1, 1) := by decide +kernel
theorem dX8_insert_71 : decode cX8_insert 71 = .ok (.isub, 1) := by decide +kernel
theorem dX8_insert_72 : decode cX8_insert 72 = .ok (.iaload, 1) := by decide +kernel
theorem dX8_insert_73 : decode cX8_insert 73 = .ok (.iastore, 1) := by decide +kernel
theorem dX8_insert_74 : decode cX8_insert 74 = .ok (.aload_n 0, 1) := by decide +kernel
theorem dX8_insert_75 : decode cX8_insert 75 = .ok (.getfield 15, 3) := by decide +kernel
theorem dX8_insert_78 : decode cX8_insert 78 = .ok (.iload_n 3, 1) := by decide +kernel
theorem dX8_insert_79 : decode cX8_insert 79 = .ok (.aload_n 0, 1) := by decide +kernel
theorem dX8_insert_80 : decode cX8_insert 80 = .ok (.getfield 15, 3) := by decide +kernel
theorem dX8_insert_83 : decode cX8_insert 83 = .ok (.iload_n 3, 1) := by decide +kernel
theorem dX8_insert_84 : decode cX8_insert 84 = .ok (.iconst 1, 1) := by decide +kernel
theorem dX8_insert_85 : decode cX8_insert 85 = .ok (.isub, 1) := by decide +kernel
theorem dX8_insert_86 : decode cX8_insert 86 = .ok (.iaload, 1) := by decide +kernel
theorem dX8_insert_87 : decode cX8_insert 87 = .ok (.iastore, 1) := by decide +kernel
theorem dX8_insert_88 : decode cX8_insert 88 = .ok (.iinc 3 (-1), 3) := by decide +kernel
theorem dX8_insert_91 : decode cX8_insert 91 = .ok (.goto (-71), 3) := by decide +kernel
theorem dX8_insert_94 : decode cX8_insert 94 = .ok (.aload_n 0, 1) := by decide +kernel
theorem dX8_insert_95 : decode cX8_insert 95 = .ok (.getfield 9, 3) := by decide +kernel
theorem dX8_insert_98 : decode cX8_insert 98 = .ok (.iload_n 3, 1) := by decide +kernel
theorem dX8_insert_99 : decode cX8_insert 99 = .ok (.iload_n 1, 1) := by decide +kernel
theorem dX8_insert_100 : decode cX8_insert 100 = .ok (.iastore, 1) := by decide +kernel
theorem dX8_insert_101 : decode cX8_insert 101 = .ok (.aload_n 0, 1) := by decide +kernel
theorem dX8_insert_102 : decode cX8_insert 102 = .ok (.getfield 15, 3) := by decide +kernel
theorem dX8_insert_105 : decode cX8_insert 105 = .ok (.iload_n 3, 1) := by decide +kernel
theorem dX8_insert_106 : decode cX8_insert 106 = .ok (.iload_n 2, 1) := by decide +kernel
theorem dX8_insert_107 : decode cX8_insert 107 = .ok (.iastore, 1) := by decide +kernel
theorem dX8_insert_108 : decode cX8_insert 108 = .ok (.aload_n 0, 1) := by decide +kernel
theorem dX8_insert_109 : decode cX8_insert 109 = .ok (.dup, 1) := by decide +kernel
theorem dX8_insert_110 : decode cX8_insert 110 = .ok (.getfield 28, 3) := by decide +kernel
theorem dX8_insert_113 : decode cX8_insert 113 = .ok (.iconst 1, 1) := by decide +kernel
theorem dX8_insert_114 : decode cX8_insert 114 = .ok (.iadd, 1) := by decide +kernel
theorem dX8_insert_115 : decode cX8_insert 115 = .ok (.putfield 28, 3) := by decide +kernel
theorem dX8_insert_118 : decode cX8_insert 118 = .ok (.return_, 1) := by decide +kernel
theorem dX8_putAll_0 : decode cX8_putAll 0 = .ok (.iconst 0, 1) := by decide +kernel
theorem dX8_putAll_1 : decode cX8_putAll 1 = .ok (.istore_n 3, 1) := by decide +kernel
theorem dX8_putAll_2 : decode cX8_putAll 2 = .ok (.iload_n 3, 1) := by decide +kernel
theorem dX8_putAll_3 : decode cX8_putAll 3 = .ok (.aload_n 1, 1) := by decide +kernel
theorem dX8_putAll_4 : decode cX8_putAll 4 = .ok (.getfield 28, 3) := by decide +kernel
theorem dX8_putAll_7 : decode cX8_putAll 7 = .ok (.if_icmp .ge 27, 3) := by decide +kernel
theorem dX8_putAll_10 : decode cX8_putAll 10 = .ok (.aload_n 0, 1) := by decide +kernel
theorem dX8_putAll_11 : decode cX8_putAll 11 = .ok (.aload_n 1, 1) := by decide +kernel
theorem dX8_putAll_12 : decode cX8_putAll 12 = .ok (.getfield 9, 3) := by decide +kernel
theorem dX8_putAll_15 : decode cX8_putAll 15 = .ok (.iload_n 3, 1) := by decide +kernel
theorem dX8_putAll_16 : decode cX8_putAll 16 = .ok (.iaload, 1) := by decide +kernel
theorem dX8_putAll_17 : decode cX8_putAll 17 = .ok (.aload_n 1, 1) := by decide +kernel
theorem dX8_putAll_18 : decode cX8_putAll 18 = .ok (.getfield 15, 3) := by decide +kernel
theorem dX8_putAll_21 : decode cX8_putAll 21 = .ok (.iload_n 3, 1) := by decide +kernel
theorem dX8_putAll_22 : decode cX8_putAll 22 = .ok (.iaload, 1) := by decide +kernel
theorem dX8_putAll_23 : decode cX8_putAll 23 = .ok (.iload_n 2, 1) := by decide +kernel
theorem dX8_putAll_24 : decode cX8_putAll 24 = .ok (.imul, 1) := by decide +kernel
theorem dX8_putAll_25 : decode cX8_putAll 25 = .ok (.invokevirtual 58, 3) := by decide +kernel
theorem dX8_putAll_28 : decode cX8_putAll 28 = .ok (.iinc 3 1, 3) := by decide +kernel
theorem dX8_putAll_31 : decode cX8_putAll 31 = .ok (.goto (-29), 3) := by decide +kernel
theorem dX8_putAll_34 : decode cX8_putAll 34 = .ok (.return_, 1) := by decide +kernel
theorem dX8_becomeMultiple_0 : decode cX8_becomeMultiple 0 = .ok (.aload_n 0, 1) := by decide +kernel
theorem dX8_becomeMultiple_1 : decode cX8_becomeMultiple 1 = .ok (.aload_n 1, 1) := by decide +kernel
theorem dX8_becomeMultiple_2 : decode cX8_becomeMultiple 2 = .ok (.getfield 18, 3) := by decide +kernel
theorem dX8_becomeMultiple_5 : decode cX8_becomeMultiple 5 = .ok (.aload_n 1, 1) := by decide +kernel
theorem dX8_becomeMultiple_6 : decode cX8_becomeMultiple 6 = .ok (.getfield 22, 3) := by decide +kernel
theorem dX8_becomeMultiple_9 : decode cX8_becomeMultiple 9 = .ok (.aload_n 1, 1) := by decide +kernel
theorem dX8_becomeMultiple_10 : decode cX8_becomeMultiple 10 = .ok (.getfield 25, 3) := by decide +kernel
theorem dX8_becomeMultiple_13 : decode cX8_becomeMultiple 13 = .ok (.iload_n 2, 1) := by decide +kernel
theorem dX8_becomeMultiple_14 : decode cX8_becomeMultiple 14 = .ok (.imul, 1) := by decide +kernel
theorem dX8_becomeMultiple_15 : decode cX8_becomeMultiple 15 = .ok (.invokevirtual 35, 3) := by decide +kernel
theorem dX8_becomeMultiple_18 : decode cX8_becomeMultiple 18 = .ok (.aload_n 0, 1) := by decide +kernel
theorem dX8_becomeMultiple_19 : decode cX8_becomeMultiple 19 = .ok (.aload_n 1, 1) := by decide +kernel
theorem dX8_becomeMultiple_20 : decode cX8_becomeMultiple 20 = .ok (.iload_n 2, 1) := by decide +kernel
theorem dX8_becomeMultiple_21 : decode cX8_becomeMultiple 21 = .ok (.invokevirtual 61, 3) := by decide +kernel
theorem dX8_becomeMultiple_24 : decode cX8_becomeMultiple 24 = .ok (.return_, 1) := by decide +kernel
theorem dX8_becomePart_0 : decode cX8_becomePart 0 = .ok (.aload_n 0, 1) := by decide +kernel
theorem dX8_becomePart_1 : decode cX8_becomePart 1 = .ok (.aload_n 1, 1) := by decide +kernel
theorem dX8_becomePart_2 : decode cX8_becomePart 2 = .ok (.getfield 18, 3) := by decide +kernel
theorem dX8_becomePart_5 : decode cX8_becomePart 5 = .ok (.aload_n 1, 1) := by decide +kernel
theorem dX8_becomePart_6 : decode cX8_becomePart 6 = .ok (.getfield 22, 3) := by decide +kernel
theorem dX8_becomePart_9 : decode cX8_becomePart 9 = .ok (.iconst 0, 1) := by decide +kernel
theorem dX8_becomePart_10 : decode cX8_becomePart 10 = .ok (.invokevirtual 35, 3) := by decide +kernel
theorem dX8_becomePart_13 : decode cX8_becomePart 13 = .ok (.iconst 0, 1) := by decide +kernel
theorem dX8_becomePart_14 : decode cX8_becomePart 14 = .ok (.istore_n 3, 1) := by decide +kernel
theorem dX8_becomePart_15 : decode cX8_becomePart 15 = .ok (.iconst 0, 1) := by decide +kernel
theorem dX8_becomePart_16 : decode cX8_becomePart 16 = .ok (.istore 4, 2) := by decide +kernel
theorem dX8_becomePart_18 : decode cX8_becomePart 18 = .ok (.iload 4, 2) := by decide +kernel
theorem dX8_becomePart_20 : decode cX8_becomePart 20 = .ok (.aload_n 1, 1) := by decide +kernel
theorem dX8_becomePart_21 : decode cX8_becomePart 21 = .ok (.getfield 28, 3) := by decide +kernel
theorem dX8_becomePart_24 : decode cX8_becomePart 24 = .ok (.if_icmp .ge 67, 3) := by decide +kernel
theorem dX8_becomePart_27 : decode cX8_becomePart 27 = .ok (.aload_n 1, 1) := by decide +kernel
theorem dX8_becomePart_28 : decode cX8_becomePart 28 = .ok (.getfield 9, 3) := by decide +kernel
theorem dX8_becomePart_31 : decode cX8_becomePart 31 = .ok (.iload 4, 2) := by decide +kernel
theorem dX8_becomePart_33 : decode cX8_becomePart 33 = .ok (.iaload, 1) := by decide +kernel
theorem dX8_becomePart_34 : decode cX8_becomePart 34 = .ok (.istore 5, 2) := by decide +kernel
theorem dX8_becomePart_36 : decode cX8_becomePart 36 = .ok (.aload_n 1, 1) := by decide +kernel
theorem dX8_becomePart_37 : decode cX8_becomePart 37 = .ok (.getfield 15, 3) := by decide +kernel
theorem dX8_becomePart_40 : decode cX8_becomePart 40 = .ok (.iload 4, 2) := by decide +kernel
theorem dX8_becomePart_42 : decode cX8_becomePart 42 = .ok (.iaload, 1) := by decide +kernel
theorem dX8_becomePart_43 : decode cX8_becomePart 43 = .ok (.i2l, 1) := by decide +kernel
theorem dX8_becomePart_44 : decode cX8_becomePart 44 = .ok (.iload_n 2, 1) := by decide +kernel
theorem dX8_becomePart_45 : decode cX8_becomePart 45 = .ok (.i2l, 1) := by decide +kernel
theorem dX8_becomePart_46 : decode cX8_becomePart 46 = .ok (.iload 5, 2) := by decide +kernel
theorem dX8_becomePart_48 : decode cX8_becomePart 48 = .ok (.i2l, 1) := by decide +kernel
theorem dX8_becomePart_49 : decode cX8_becomePart 49 = .ok (.invokestatic 65, 3) := by decide +kernel
theorem dX8_becomePart_52 : decode cX8_becomePart 52 = .ok (.lmul, 1) := by decide +kernel
theorem dX8_becomePart_53 : decode cX8_becomePart 53 = .ok (.iload 5, 2) := by decide +kernel
theorem dX8_becomePart_55 : decode cX8_becomePart 55 = .ok (.i2l, 1) := by decide +kernel
theorem dX8_becomePart_56 : decode cX8_becomePart 56 = .ok (.invokestatic 51, 3) := by decide +kernel
theorem dX8_becomePart_59 : decode cX8_becomePart 59 = .ok (.l2i, 1) := by decide +kernel
theorem dX8_becomePart_60 : decode cX8_becomePart 60 = .ok (.istore 6, 2) := by decide +kernel
theorem dX8_becomePart_62 : decode cX8_becomePart 62 = .ok (.iload_n 3, 1) := by decide +kernel
theorem dX8_becomePart_63 : decode cX8_becomePart 63 = .ok (.iload 6, 2) := by decide +kernel
theorem dX8_becomePart_65 : decode cX8_becomePart 65 = .ok (.iload_n 2, 1) := by decide +kernel
theorem dX8_becomePart_66 : decode cX8_becomePart 66 = .ok (.imul, 1) := by decide +kernel
theorem dX8_becomePart_67 : decode cX8_becomePart 67 = .ok (.i2l, 1) := by decide +kernel
theorem dX8_becomePart_68 : decode cX8_becomePart 68 = .ok (.iload 5, 2) := by decide +kernel
theorem dX8_becomePart_70 : decode cX8_becomePart 70 = .ok (.i2l, 1) := by decide +kernel
theorem dX8_becomePart_71 : decode cX8_becomePart 71 = .ok (.invokestatic 45, 3) := by decide +kernel
theorem dX8_becomePart_74 : decode cX8_becomePart 74 = .ok (.l2i, 1) := by decide +kernel
theorem dX8_becomePart_75 : decode cX8_becomePart 75 = .ok (.iadd, 1) := by decide +kernel
theorem dX8_becomePart_76 : decode cX8_becomePart 76 = .ok (.istore_n 3, 1) := by decide +kernel
theorem dX8_becomePart_77 : decode cX8_becomePart 77 = .ok (.aload_n 0, 1) := by decide +kernel
theorem dX8_becomePart_78 : decode cX8_becomePart 78 = .ok (.iload 5, 2) := by decide +kernel
theorem dX8_becomePart_80 : decode cX8_becomePart 80 = .ok (.iload 6, 2) := by decide +kernel
theorem dX8_becomePart_82 : decode cX8_becomePart 82 = .ok (.invokevirtual 58, 3) := by decide +kernel
theorem dX8_becomePart_85 : decode cX8_becomePart 85 = .ok (.iinc 4 1, 3) := by decide +kernel
theorem dX8_becomePart_88 : decode cX8_becomePart 88 = .ok (.goto (-70), 3) := by decide +kernel
theorem dX8_becomePart_91 : decode cX8_becomePart 91 = .ok (.aload_n 0, 1) := by decide +kernel
theorem dX8_becomePart_92 : decode cX8_becomePart 92 = .ok (.aload_n 1, 1) := by decide +kernel
theorem dX8_becomePart_93 : decode cX8_becomePart 93 = .ok (.getfield 25, 3) := by decide +kernel
theorem dX8_becomePart_96 : decode cX8_becomePart 96 = .ok (.iload_n 3, 1) := by decide +kernel
theorem dX8_becomePart_97 : decode cX8_becomePart 97 = .ok (.isub, 1) := by decide +kernel
theorem dX8_becomePart_98 : decode cX8_becomePart 98 = .ok (.i2l, 1) := by decide +kernel
theorem dX8_becomePart_99 : decode cX8_becomePart 99 = .ok (.iload_n 2, 1) := by decide +kernel
theorem dX8_becomePart_100 : decode cX8_becomePart 100 = .ok (.i2l, 1) := by decide +kernel
theorem dX8_becomePart_101 : decode cX8_becomePart 101 = .ok (.invokestatic 45, 3) := by decide +kernel
theorem dX8_becomePart_104 : decode cX8_becomePart 104 = .ok (.l2i, 1) := by decide +kernel
theorem dX8_becomePart_105 : decode cX8_becomePart 105 = .ok (.putfield 25, 3) := by decide +kernel
theorem dX8_becomePart_108 : decode cX8_becomePart 108 = .ok (.aload_n 0, 1) := by decide +kernel
theorem dX8_becomePart_109 : decode cX8_becomePart 109 = .ok (.getfield 25, 3) := by decide +kernel
theorem dX8_becomePart_112 : decode cX8_becomePart 112 = .ok (.iload_n 2, 1) := by decide +kernel
theorem dX8_becomePart_113 : decode cX8_becomePart 113 = .ok (.imul, 1) := by decide +kernel
theorem dX8_becomePart_114 : decode cX8_becomePart 114 = .ok (.aload_n 1, 1) := by decide +kernel
theorem dX8_becomePart_115 : decode cX8_becomePart 115 = .ok (.getfield 25, 3) := by decide +kernel
theorem dX8_becomePart_118 : decode cX8_becomePart 118 = .ok (.iload_n 3, 1) := by decide +kernel
theorem dX8_becomePart_119 : decode cX8_becomePart 119 = .ok (.isub, 1) := by decide +kernel
theorem dX8_becomePart_120 : decode cX8_becomePart 120 = .ok (.if_icmp .ne 7, 3) := by decide +kernel
theorem dX8_becomePart_123 : decode cX8_becomePart 123 = .ok (.iconst 1, 1) := by decide +kernel
theorem dX8_becomePart_124 : decode cX8_becomePart 124 = .ok (.goto 4, 3) := by decide +kernel
theorem dX8_becomePart_127 : decode cX8_becomePart 127 = .ok (.iconst 0, 1) := by decide +kernel
theorem dX8_becomePart_128 : decode cX8_becomePart 128 = .ok (.ireturn, 1) := by decide +kernel
theorem dX8_becomeJoin_0 : decode cX8_becomeJoin 0 = .ok (.aload_n 1, 1) := by decide +kernel
theorem dX8_becomeJoin_1 : decode cX8_becomeJoin 1 = .ok (.getfield 18, 3) := by decide +kernel
theorem dX8_becomeJoin_4 : decode cX8_becomeJoin 4 = .ok (.aload_n 2, 1) := by decide +kernel
theorem dX8_becomeJoin_5 : decode cX8_becomeJoin 5 = .ok (.getfield 18, 3) := by decide +kernel
theorem dX8_becomeJoin_8 : decode cX8_becomeJoin 8 = .ok (.invokestatic 68, 3) := by decide +kernel
theorem dX8_becomeJoin_11 : decode cX8_becomeJoin 11 = .ok (.istore_n 3, 1) := by decide +kernel
theorem dX8_becomeJoin_12 : decode cX8_becomeJoin 12 = .ok (.aload_n 1, 1) := by decide +kernel
theorem dX8_becomeJoin_13 : decode cX8_becomeJoin 13 = .ok (.iload_n 3, 1) := by decide +kernel
theorem dX8_becomeJoin_14 : decode cX8_becomeJoin 14 = .ok (.invokevirtual 72, 3) := by decide +kernel
theorem dX8_becomeJoin_17 : decode cX8_becomeJoin 17 = .ok (.aload_n 2, 1) := by decide +kernel
theorem dX8_becomeJoin_18 : decode cX8_becomeJoin 18 = .ok (.iload_n 3, 1) := by decide +kernel
theorem dX8_becomeJoin_19 : decode cX8_becomeJoin 19 = .ok (.invokevirtual 72, 3) := by decide +kernel
theorem dX8_becomeJoin_22 : decode cX8_becomeJoin 22 = .ok (.iadd, 1) := by decide +kernel
theorem dX8_becomeJoin_23 : decode cX8_becomeJoin 23 = .ok (.istore 4, 2) := by decide +kernel
theorem dX8_becomeJoin_25 : decode cX8_becomeJoin 25 = .ok (.aload_n 0, 1) := by decide +kernel
theorem dX8_becomeJoin_26 : decode cX8_becomeJoin 26 = .ok (.iload_n 3, 1) := by decide +kernel
theorem dX8_becomeJoin_27 : decode cX8_becomeJoin 27 = .ok (.iload 4, 2) := by decide +kernel
theorem dX8_becomeJoin_29 : decode cX8_becomeJoin 29 = .ok (.aload_n 1, 1) := by decide +kernel
theorem dX8_becomeJoin_30 : decode cX8_becomeJoin 30 = .ok (.getfield 25, 3) := by decide +kernel
theorem dX8_becomeJoin_33 : decode cX8_becomeJoin 33 = .ok (.aload_n 2, 1) := by decide +kernel
theorem dX8_becomeJoin_34 : decode cX8_becomeJoin 34 = .ok (.getfield 25, 3) := by decide +kernel
theorem dX8_becomeJoin_37 : decode cX8_becomeJoin 37 = .ok (.iadd, 1) := by decide +kernel
theorem dX8_becomeJoin_38 : decode cX8_becomeJoin 38 = .ok (.invokevirtual 35, 3) := by decide +kernel
theorem dX8_becomeJoin_41 : decode cX8_becomeJoin 41 = .ok (.aload_n 0, 1) := by decide +kernel
theorem dX8_becomeJoin_42 : decode cX8_becomeJoin 42 = .ok (.aload_n 1, 1) := by decide +kernel
theorem dX8_becomeJoin_43 : decode cX8_becomeJoin 43 = .ok (.iconst 1, 1) := by decide +kernel
theorem dX8_becomeJoin_44 : decode cX8_becomeJoin 44 = .ok (.invokevirtual 61, 3) := by decide +kernel
theorem dX8_becomeJoin_47 : decode cX8_becomeJoin 47 = .ok (.aload_n 0, 1) := by decide +kernel
theorem dX8_becomeJoin_48 : decode cX8_becomeJoin 48 = .ok (.aload_n 2, 1) := by decide +kernel
theorem dX8_becomeJoin_49 : decode cX8_becomeJoin 49 = .ok (.iconst 1, 1) := by decide +kernel
theorem dX8_becomeJoin_50 : decode cX8_becomeJoin 50 = .ok (.invokevirtual 61, 3) := by decide +kernel
theorem dX8_becomeJoin_53 : decode cX8_becomeJoin 53 = .ok (.return_, 1) := by decide +kernel
theorem dX8_genusAs_0 : decode cX8_genusAs 0 = .ok (.aload_n 0, 1) := by decide +kernel
theorem dX8_genusAs_1 : decode cX8_genusAs 1 = .ok (.getfield 18, 3) := by decide +kernel
theorem dX8_genusAs_4 : decode cX8_genusAs 4 = .ok (.iload_n 1, 1) := by decide +kernel
theorem dX8_genusAs_5 : decode cX8_genusAs 5 = .ok (.if_icmp .ne 10, 3) := by decide +kernel
theorem dX8_genusAs_8 : decode cX8_genusAs 8 = .ok (.aload_n 0, 1) := by decide +kernel
theorem dX8_genusAs_9 : decode cX8_genusAs 9 = .ok (.getfield 22, 3) := by decide +kernel
theorem dX8_genusAs_12 : decode cX8_genusAs 12 = .ok (.goto 9, 3) := by decide +kernel
theorem dX8_genusAs_15 : decode cX8_genusAs 15 = .ok (.iconst 2, 1) := by decide +kernel
theorem dX8_genusAs_16 : decode cX8_genusAs 16 = .ok (.aload_n 0, 1) := by decide +kernel
theorem dX8_genusAs_17 : decode cX8_genusAs 17 = .ok (.getfield 22, 3) := by decide +kernel
theorem dX8_genusAs_20 : decode cX8_genusAs 20 = .ok (.imul, 1) := by decide +kernel
theorem dX8_genusAs_21 : decode cX8_genusAs 21 = .ok (.ireturn, 1) := by decide +kernel
theorem dX8_becomeWithout_0 : decode cX8_becomeWithout 0 = .ok (.aload_n 0, 1) := by decide +kernel
theorem dX8_becomeWithout_1 : decode cX8_becomeWithout 1 = .ok (.aload_n 1, 1) := by decide +kernel
theorem dX8_becomeWithout_2 : decode cX8_becomeWithout 2 = .ok (.getfield 18, 3) := by decide +kernel
theorem dX8_becomeWithout_5 : decode cX8_becomeWithout 5 = .ok (.aload_n 1, 1) := by decide +kernel
theorem dX8_becomeWithout_6 : decode cX8_becomeWithout 6 = .ok (.getfield 22, 3) := by decide +kernel
theorem dX8_becomeWithout_9 : decode cX8_becomeWithout 9 = .ok (.aload_n 1, 1) := by decide +kernel
theorem dX8_becomeWithout_10 : decode cX8_becomeWithout 10 = .ok (.getfield 25, 3) := by decide +kernel
theorem dX8_becomeWithout_13 : decode cX8_becomeWithout 13 = .ok (.invokevirtual 35, 3) := by decide +kernel
theorem dX8_becomeWithout_16 : decode cX8_becomeWithout 16 = .ok (.iconst 0, 1) := by decide +kernel
theorem dX8_becomeWithout_17 : decode cX8_becomeWithout 17 = .ok (.istore_n 3, 1) := by decide +kernel
theorem dX8_becomeWithout_18 : decode cX8_becomeWithout 18 = .ok (.iload_n 3, 1) := by decide +kernel
theorem dX8_becomeWithout_19 : decode cX8_becomeWithout 19 = .ok (.aload_n 1, 1) := by decide +kernel
theorem dX8_becomeWithout_20 : decode cX8_becomeWithout 20 = .ok (.getfield 28, 3) := by decide +kernel
theorem dX8_becomeWithout_23 : decode cX8_becomeWithout 23 = .ok (.if_icmp .ge 30, 3) := by decide +kernel
theorem dX8_becomeWithout_26 : decode cX8_becomeWithout 26 = .ok (.iload_n 3, 1) := by decide +kernel
theorem dX8_becomeWithout_27 : decode cX8_becomeWithout 27 = .ok (.iload_n 2, 1) := by decide +kernel
theorem dX8_becomeWithout_28 : decode cX8_becomeWithout 28 = .ok (.if_icmp .eq 19, 3) := by decide +kernel
theorem dX8_becomeWithout_31 : decode cX8_becomeWithout 31 = .ok (.aload_n 0, 1) := by decide +kernel
theorem dX8_becomeWithout_32 : decode cX8_becomeWithout 32 = .ok (.aload_n 1, 1) := by decide +kernel
theorem dX8_becomeWithout_33 : decode cX8_becomeWithout 33 = .ok (.getfield 9, 3) := by decide +kernel
theorem dX8_becomeWithout_36 : decode cX8_becomeWithout 36 = .ok (.iload_n 3, 1) := by decide +kernel
theorem dX8_becomeWithout_37 : decode cX8_becomeWithout 37 = .ok (.iaload, 1) := by decide +kernel
theorem dX8_becomeWithout_38 : decode cX8_becomeWithout 38 = .ok (.aload_n 1, 1) := by decide +kernel
theorem dX8_becomeWithout_39 : decode cX8_becomeWithout 39 = .ok (.getfield 15, 3) := by decide +kernel
theorem dX8_becomeWithout_42 : decode cX8_becomeWithout 42 = .ok (.iload_n 3, 1) := by decide +kernel
theorem dX8_becomeWithout_43 : decode cX8_becomeWithout 43 = .ok (.iaload, 1) := by decide +kernel
theorem dX8_becomeWithout_44 : decode cX8_becomeWithout 44 = .ok (.invokevirtual 58, 3) := by decide +kernel
theorem dX8_becomeWithout_47 : decode cX8_becomeWithout 47 = .ok (.iinc 3 1, 3) := by decide +kernel
theorem dX8_becomeWithout_50 : decode cX8_becomeWithout 50 = .ok (.goto (-32), 3) := by decide +kernel
theorem dX8_becomeWithout_53 : decode cX8_becomeWithout 53 = .ok (.return_, 1) := by decide +kernel
theorem dX8_becomeCovering_0 : decode cX8_becomeCovering 0 = .ok (.aload_n 1, 1) := by decide +kernel
theorem dX8_becomeCovering_1 : decode cX8_becomeCovering 1 = .ok (.getfield 18, 3) := by decide +kernel
theorem dX8_becomeCovering_4 : decode cX8_becomeCovering 4 = .ok (.iconst 1, 1) := by decide +kernel
theorem dX8_becomeCovering_5 : decode cX8_becomeCovering 5 = .ok (.iadd, 1) := by decide +kernel
theorem dX8_becomeCovering_6 : decode cX8_becomeCovering 6 = .ok (.istore_n 3, 1) := by decide +kernel
theorem dX8_becomeCovering_7 : decode cX8_becomeCovering 7 = .ok (.aload_n 0, 1) := by decide +kernel
theorem dX8_becomeCovering_8 : decode cX8_becomeCovering 8 = .ok (.aload_n 1, 1) := by decide +kernel
theorem dX8_becomeCovering_9 : decode cX8_becomeCovering 9 = .ok (.getfield 18, 3) := by decide +kernel
theorem dX8_becomeCovering_12 : decode cX8_becomeCovering 12 = .ok (.iload_n 2, 1) := by decide +kernel
theorem dX8_becomeCovering_13 : decode cX8_becomeCovering 13 = .ok (.aload_n 1, 1) := by decide +kernel
theorem dX8_becomeCovering_14 : decode cX8_becomeCovering 14 = .ok (.getfield 22, 3) := by decide +kernel
theorem dX8_becomeCovering_17 : decode cX8_becomeCovering 17 = .ok (.iload_n 3, 1) := by decide +kernel
theorem dX8_becomeCovering_18 : decode cX8_becomeCovering 18 = .ok (.isub, 1) := by decide +kernel
theorem dX8_becomeCovering_19 : decode cX8_becomeCovering 19 = .ok (.imul, 1) := by decide +kernel
theorem dX8_becomeCovering_20 : decode cX8_becomeCovering 20 = .ok (.iload_n 3, 1) := by decide +kernel
theorem dX8_becomeCovering_21 : decode cX8_becomeCovering 21 = .ok (.iadd, 1) := by decide +kernel
theorem dX8_becomeCovering_22 : decode cX8_becomeCovering 22 = .ok (.aload_n 1, 1) := by decide +kernel
theorem dX8_becomeCovering_23 : decode cX8_becomeCovering 23 = .ok (.getfield 25, 3) := by decide +kernel
theorem dX8_becomeCovering_26 : decode cX8_becomeCovering 26 = .ok (.iload_n 2, 1) := by decide +kernel
theorem dX8_becomeCovering_27 : decode cX8_becomeCovering 27 = .ok (.imul, 1) := by decide +kernel
theorem dX8_becomeCovering_28 : decode cX8_becomeCovering 28 = .ok (.invokevirtual 35, 3) := by decide +kernel
theorem dX8_becomeCovering_31 : decode cX8_becomeCovering 31 = .ok (.iconst 0, 1) := by decide +kernel
theorem dX8_becomeCovering_32 : decode cX8_becomeCovering 32 = .ok (.istore 4, 2) := by decide +kernel
theorem dX8_becomeCovering_34 : decode cX8_becomeCovering 34 = .ok (.iload 4, 2) := by decide +kernel
theorem dX8_becomeCovering_36 : decode cX8_becomeCovering 36 = .ok (.iload_n 2, 1) := by decide +kernel
theorem dX8_becomeCovering_37 : decode cX8_becomeCovering 37 = .ok (.if_icmp .ge 15, 3) := by decide +kernel
theorem dX8_becomeCovering_40 : decode cX8_becomeCovering 40 = .ok (.aload_n 0, 1) := by decide +kernel
theorem dX8_becomeCovering_41 : decode cX8_becomeCovering 41 = .ok (.aload_n 1, 1) := by decide +kernel
theorem dX8_becomeCovering_42 : decode cX8_becomeCovering 42 = .ok (.iconst 1, 1) := by decide +kernel
theorem dX8_becomeCovering_43 : decode cX8_becomeCovering 43 = .ok (.invokevirtual 61, 3) := by decide +kernel
theorem dX8_becomeCovering_46 : decode cX8_becomeCovering 46 = .ok (.iinc 4 1, 3) := by decide +kernel
theorem dX8_becomeCovering_49 : decode cX8_becomeCovering 49 = .ok (.goto (-15), 3) := by decide +kernel
theorem dX8_becomeCovering_52 : decode cX8_becomeCovering 52 = .ok (.return_, 1) := by decide +kernel
theorem dX8_sameAs_0 : decode cX8_sameAs 0 = .ok (.aload_n 0, 1) := by decide +kernel
theorem dX8_sameAs_1 : decode cX8_sameAs 1 = .ok (.getfield 18, 3) := by decide +kernel
theorem dX8_sameAs_4 : decode cX8_sameAs 4 = .ok (.aload_n 1, 1) := by decide +kernel
theorem dX8_sameAs_5 : decode cX8_sameAs 5 = .ok (.getfield 18, 3) := by decide +kernel
theorem dX8_sameAs_8 : decode cX8_sameAs 8 = .ok (.if_icmp .ne 40, 3) := by decide +kernel
theorem dX8_sameAs_11 : decode cX8_sameAs 11 = .ok (.aload_n 0, 1) := by decide +kernel
theorem dX8_sameAs_12 : decode cX8_sameAs 12 = .ok (.getfield 22, 3) := by decide +kernel
theorem dX8_sameAs_15 : decode cX8_sameAs 15 = .ok (.aload_n 1, 1) := by decide +kernel
theorem dX8_sameAs_16 : decode cX8_sameAs 16 = .ok (.getfield 22, 3) := by decide +kernel
theorem dX8_sameAs_19 : decode cX8_sameAs 19 = .ok (.if_icmp .ne 29, 3) := by decide +kernel
theorem dX8_sameAs_22 : decode cX8_sameAs 22 = .ok (.aload_n 0, 1) := by decide +kernel
theorem dX8_sameAs_23 : decode cX8_sameAs 23 = .ok (.getfield 25, 3) := by decide +kernel
theorem dX8_sameAs_26 : decode cX8_sameAs 26 = .ok (.aload_n 1, 1) := by decide +kernel
theorem dX8_sameAs_27 : decode cX8_sameAs 27 = .ok (.getfield 25, 3) := by decide +kernel
theorem dX8_sameAs_30 : decode cX8_sameAs 30 = .ok (.if_icmp .ne 18, 3) := by decide +kernel
theorem dX8_sameAs_33 : decode cX8_sameAs 33 = .ok (.aload_n 0, 1) := by decide +kernel
theorem dX8_sameAs_34 : decode cX8_sameAs 34 = .ok (.getfield 28, 3) := by decide +kernel
theorem dX8_sameAs_37 : decode cX8_sameAs 37 = .ok (.aload_n 1, 1) := by decide +kernel
theorem dX8_sameAs_38 : decode cX8_sameAs 38 = .ok (.getfield 28, 3) := by decide +kernel
theorem dX8_sameAs_41 : decode cX8_sameAs 41 = .ok (.if_icmp .ne 7, 3) := by decide +kernel
theorem dX8_sameAs_44 : decode cX8_sameAs 44 = .ok (.iconst 1, 1) := by decide +kernel
theorem dX8_sameAs_45 : decode cX8_sameAs 45 = .ok (.goto 4, 3) := by decide +kernel
theorem dX8_sameAs_48 : decode cX8_sameAs 48 = .ok (.iconst 0, 1) := by decide +kernel
theorem dX8_sameAs_49 : decode cX8_sameAs 49 = .ok (.istore_n 2, 1) := by decide +kernel
theorem dX8_sameAs_50 : decode cX8_sameAs 50 = .ok (.iconst 0, 1) := by decide +kernel
theorem dX8_sameAs_51 : decode cX8_sameAs 51 = .ok (.istore_n 3, 1) := by decide +kernel
theorem dX8_sameAs_52 : decode cX8_sameAs 52 = .ok (.iload_n 3, 1) := by decide +kernel
theorem dX8_sameAs_53 : decode cX8_sameAs 53 = .ok (.aload_n 0, 1) := by decide +kernel
theorem dX8_sameAs_54 : decode cX8_sameAs 54 = .ok (.getfield 28, 3) := by decide +kernel
theorem dX8_sameAs_57 : decode cX8_sameAs 57 = .ok (.if_icmp .ge 49, 3) := by decide +kernel
theorem dX8_sameAs_60 : decode cX8_sameAs 60 = .ok (.iload_n 2, 1) := by decide +kernel
theorem dX8_sameAs_61 : decode cX8_sameAs 61 = .ok (.ifCond .eq 45, 3) := by decide +kernel
theorem dX8_sameAs_64 : decode cX8_sameAs 64 = .ok (.aload_n 0, 1) := by decide +kernel
theorem dX8_sameAs_65 : decode cX8_sameAs 65 = .ok (.getfield 9, 3) := by decide +kernel
theorem dX8_sameAs_68 : decode cX8_sameAs 68 = .ok (.iload_n 3, 1) := by decide +kernel
theorem dX8_sameAs_69 : decode cX8_sameAs 69 = .ok (.iaload, 1) := by decide +kernel
theorem dX8_sameAs_70 : decode cX8_sameAs 70 = .ok (.aload_n 1, 1) := by decide +kernel
theorem dX8_sameAs_71 : decode cX8_sameAs 71 = .ok (.getfield 9, 3) := by decide +kernel
theorem dX8_sameAs_74 : decode cX8_sameAs 74 = .ok (.iload_n 3, 1) := by decide +kernel
theorem dX8_sameAs_75 : decode cX8_sameAs 75 = .ok (.iaload, 1) := by decide +kernel
theorem dX8_sameAs_76 : decode cX8_sameAs 76 = .ok (.if_icmp .ne 22, 3) := by decide +kernel
theorem dX8_sameAs_79 : decode cX8_sameAs 79 = .ok (.aload_n 0, 1) := by decide +kernel
theorem dX8_sameAs_80 : decode cX8_sameAs 80 = .ok (.getfield 15, 3) := by decide +kernel
theorem dX8_sameAs_83 : decode cX8_sameAs 83 = .ok (.iload_n 3, 1) := by decide +kernel
theorem dX8_sameAs_84 : decode cX8_sameAs 84 = .ok (.iaload, 1) := by decide +kernel
theorem dX8_sameAs_85 : decode cX8_sameAs 85 = .ok (.aload_n 1, 1) := by decide +kernel
theorem dX8_sameAs_86 : decode cX8_sameAs 86 = .ok (.getfield 15, 3) := by decide +kernel
theorem dX8_sameAs_89 : decode cX8_sameAs 89 = .ok (.iload_n 3, 1) := by decide +kernel
theorem dX8_sameAs_90 : decode cX8_sameAs 90 = .ok (.iaload, 1) := by decide +kernel
theorem dX8_sameAs_91 : decode cX8_sameAs 91 = .ok (.if_icmp .ne 7, 3) := by decide +kernel
theorem dX8_sameAs_94 : decode cX8_sameAs 94 = .ok (.iconst 1, 1) := by decide +kernel
theorem dX8_sameAs_95 : decode cX8_sameAs 95 = .ok (.goto 4, 3) := by decide +kernel
theorem dX8_sameAs_98 : decode cX8_sameAs 98 = .ok (.iconst 0, 1) := by decide +kernel
theorem dX8_sameAs_99 : decode cX8_sameAs 99 = .ok (.istore_n 2, 1) := by decide +kernel
theorem dX8_sameAs_100 : decode cX8_sameAs 100 = .ok (.iinc 3 1, 3) := by decide +kernel
theorem dX8_sameAs_103 : decode cX8_sameAs 103 = .ok (.goto (-51), 3) := by decide +kernel
theorem dX8_sameAs_106 : decode cX8_sameAs 106 = .ok (.iload_n 2, 1) := by decide +kernel
theorem dX8_sameAs_107 : decode cX8_sameAs 107 = .ok (.ireturn, 1) := by decide +kernel
theorem dX8_isCoprimeTo_0 : decode cX8_isCoprimeTo 0 = .ok (.iconst 1, 1) := by decide +kernel
theorem dX8_isCoprimeTo_1 : decode cX8_isCoprimeTo 1 = .ok (.istore_n 2, 1) := by decide +kernel
theorem dX8_isCoprimeTo_2 : decode cX8_isCoprimeTo 2 = .ok (.iconst 0, 1) := by decide +kernel
theorem dX8_isCoprimeTo_3 : decode cX8_isCoprimeTo 3 = .ok (.istore_n 3, 1) := by decide +kernel
theorem dX8_isCoprimeTo_4 : decode cX8_isCoprimeTo 4 = .ok (.iload_n 3, 1) := by decide +kernel
theorem dX8_isCoprimeTo_5 : decode cX8_isCoprimeTo 5 = .ok (.aload_n 0, 1) := by decide +kernel
theorem dX8_isCoprimeTo_6 : decode cX8_isCoprimeTo 6 = .ok (.getfield 28, 3) := by decide +kernel
theorem dX8_isCoprimeTo_9 : decode cX8_isCoprimeTo 9 = .ok (.if_icmp .ge 36, 3) := by decide +kernel
theorem dX8_isCoprimeTo_12 : decode cX8_isCoprimeTo 12 = .ok (.iload_n 2, 1) := by decide +kernel
theorem dX8_isCoprimeTo_13 : decode cX8_isCoprimeTo 13 = .ok (.ifCond .eq 24, 3) := by decide +kernel
theorem dX8_isCoprimeTo_16 : decode cX8_isCoprimeTo 16 = .ok (.aload_n 0, 1) := by decide +kernel
theorem dX8_isCoprimeTo_17 : decode cX8_isCoprimeTo 17 = .ok (.getfield 9, 3) := by decide +kernel
theorem dX8_isCoprimeTo_20 : decode cX8_isCoprimeTo 20 = .ok (.iload_n 3, 1) := by decide +kernel
theorem dX8_isCoprimeTo_21 : decode cX8_isCoprimeTo 21 = .ok (.iaload, 1) := by decide +kernel
theorem dX8_isCoprimeTo_22 : decode cX8_isCoprimeTo 22 = .ok (.i2l, 1) := by decide +kernel
theorem dX8_isCoprimeTo_23 : decode cX8_isCoprimeTo 23 = .ok (.iload_n 1, 1) := by decide +kernel
theorem dX8_isCoprimeTo_24 : decode cX8_isCoprimeTo 24 = .ok (.i2l, 1) := by decide +kernel
theorem dX8_isCoprimeTo_25 : decode cX8_isCoprimeTo 25 = .ok (.invokestatic 75, 3) := by decide +kernel
theorem dX8_isCoprimeTo_28 : decode cX8_isCoprimeTo 28 = .ok (.lconst 1, 1) := by decide +kernel
theorem dX8_isCoprimeTo_29 : decode cX8_isCoprimeTo 29 = .ok (.lcmp, 1) := by decide +kernel
theorem dX8_isCoprimeTo_30 : decode cX8_isCoprimeTo 30 = .ok (.ifCond .ne 7, 3) := by decide +kernel
theorem dX8_isCoprimeTo_33 : decode cX8_isCoprimeTo 33 = .ok (.iconst 1, 1) := by decide +kernel
theorem dX8_isCoprimeTo_34 : decode cX8_isCoprimeTo 34 = .ok (.goto 4, 3) := by decide +kernel
theorem dX8_isCoprimeTo_37 : decode cX8_isCoprimeTo 37 = .ok (.iconst 0, 1) := by decide +kernel
theorem dX8_isCoprimeTo_38 : decode cX8_isCoprimeTo 38 = .ok (.istore_n 2, 1) := by decide +kernel
theorem dX8_isCoprimeTo_39 : decode cX8_isCoprimeTo 39 = .ok (.iinc 3 1, 3) := by decide +kernel
theorem dX8_isCoprimeTo_42 : decode cX8_isCoprimeTo 42 = .ok (.goto (-38), 3) := by decide +kernel
theorem dX8_isCoprimeTo_45 : decode cX8_isCoprimeTo 45 = .ok (.iload_n 2, 1) := by decide +kernel
theorem dX8_isCoprimeTo_46 : decode cX8_isCoprimeTo 46 = .ok (.ireturn, 1) := by decide +kernel
theorem dX8_allA_0 : decode cX8_allA 0 = .ok (.lconst 1, 1) := by decide +kernel
theorem dX8_allA_1 : decode cX8_allA 1 = .ok (.lstore_n 1, 1) := by decide +kernel
theorem dX8_allA_2 : decode cX8_allA 2 = .ok (.iconst 0, 1) := by decide +kernel
theorem dX8_allA_3 : decode cX8_allA 3 = .ok (.istore_n 3, 1) := by decide +kernel
theorem dX8_allA_4 : decode cX8_allA 4 = .ok (.iload_n 3, 1) := by decide +kernel
theorem dX8_allA_5 : decode cX8_allA 5 = .ok (.aload_n 0, 1) := by decide +kernel
theorem dX8_allA_6 : decode cX8_allA 6 = .ok (.getfield 28, 3) := by decide +kernel
theorem dX8_allA_9 : decode cX8_allA 9 = .ok (.if_icmp .ge 19, 3) := by decide +kernel
theorem dX8_allA_12 : decode cX8_allA 12 = .ok (.lload_n 1, 1) := by decide +kernel
theorem dX8_allA_13 : decode cX8_allA 13 = .ok (.aload_n 0, 1) := by decide +kernel
theorem dX8_allA_14 : decode cX8_allA 14 = .ok (.getfield 9, 3) := by decide +kernel
theorem dX8_allA_17 : decode cX8_allA 17 = .ok (.iload_n 3, 1) := by decide +kernel
theorem dX8_allA_18 : decode cX8_allA 18 = .ok (.iaload, 1) := by decide +kernel
theorem dX8_allA_19 : decode cX8_allA 19 = .ok (.i2l, 1) := by decide +kernel
theorem dX8_allA_20 : decode cX8_allA 20 = .ok (.lmul, 1) := by decide +kernel
theorem dX8_allA_21 : decode cX8_allA 21 = .ok (.lstore_n 1, 1) := by decide +kernel
theorem dX8_allA_22 : decode cX8_allA 22 = .ok (.iinc 3 1, 3) := by decide +kernel
theorem dX8_allA_25 : decode cX8_allA 25 = .ok (.goto (-21), 3) := by decide +kernel
theorem dX8_allA_28 : decode cX8_allA 28 = .ok (.lload_n 1, 1) := by decide +kernel
theorem dX8_allA_29 : decode cX8_allA 29 = .ok (.lreturn, 1) := by decide +kernel
theorem dX8_eulerTop_0 : decode cX8_eulerTop 0 = .ok (.aload_n 0, 1) := by decide +kernel
theorem dX8_eulerTop_1 : decode cX8_eulerTop 1 = .ok (.invokevirtual 78, 3) := by decide +kernel
theorem dX8_eulerTop_4 : decode cX8_eulerTop 4 = .ok (.lstore_n 1, 1) := by decide +kernel
theorem dX8_eulerTop_5 : decode cX8_eulerTop 5 = .ok (.aload_n 0, 1) := by decide +kernel
theorem dX8_eulerTop_6 : decode cX8_eulerTop 6 = .ok (.getfield 25, 3) := by decide +kernel
theorem dX8_eulerTop_9 : decode cX8_eulerTop 9 = .ok (.i2l, 1) := by decide +kernel
theorem dX8_eulerTop_10 : decode cX8_eulerTop 10 = .ok (.lload_n 1, 1) := by decide +kernel
theorem dX8_eulerTop_11 : decode cX8_eulerTop 11 = .ok (.lmul, 1) := by decide +kernel
theorem dX8_eulerTop_12 : decode cX8_eulerTop 12 = .ok (.lstore_n 3, 1) := by decide +kernel
theorem dX8_eulerTop_13 : decode cX8_eulerTop 13 = .ok (.iconst 0, 1) := by decide +kernel
theorem dX8_eulerTop_14 : decode cX8_eulerTop 14 = .ok (.istore 5, 2) := by decide +kernel
theorem dX8_eulerTop_16 : decode cX8_eulerTop 16 = .ok (.iload 5, 2) := by decide +kernel
theorem dX8_eulerTop_18 : decode cX8_eulerTop 18 = .ok (.aload_n 0, 1) := by decide +kernel
theorem dX8_eulerTop_19 : decode cX8_eulerTop 19 = .ok (.getfield 28, 3) := by decide +kernel
theorem dX8_eulerTop_22 : decode cX8_eulerTop 22 = .ok (.if_icmp .ge 33, 3) := by decide +kernel
theorem dX8_eulerTop_25 : decode cX8_eulerTop 25 = .ok (.lload_n 3, 1) := by decide +kernel
theorem dX8_eulerTop_26 : decode cX8_eulerTop 26 = .ok (.aload_n 0, 1) := by decide +kernel
theorem dX8_eulerTop_27 : decode cX8_eulerTop 27 = .ok (.getfield 15, 3) := by decide +kernel
theorem dX8_eulerTop_30 : decode cX8_eulerTop 30 = .ok (.iload 5, 2) := by decide +kernel
theorem dX8_eulerTop_32 : decode cX8_eulerTop 32 = .ok (.iaload, 1) := by decide +kernel
theorem dX8_eulerTop_33 : decode cX8_eulerTop 33 = .ok (.i2l, 1) := by decide +kernel
theorem dX8_eulerTop_34 : decode cX8_eulerTop 34 = .ok (.lload_n 1, 1) := by decide +kernel
theorem dX8_eulerTop_35 : decode cX8_eulerTop 35 = .ok (.aload_n 0, 1) := by decide +kernel
theorem dX8_eulerTop_36 : decode cX8_eulerTop 36 = .ok (.getfield 9, 3) := by decide +kernel
theorem dX8_eulerTop_39 : decode cX8_eulerTop 39 = .ok (.iload 5, 2) := by decide +kernel
theorem dX8_eulerTop_41 : decode cX8_eulerTop 41 = .ok (.iaload, 1) := by decide +kernel
theorem dX8_eulerTop_42 : decode cX8_eulerTop 42 = .ok (.i2l, 1) := by decide +kernel
theorem dX8_eulerTop_43 : decode cX8_eulerTop 43 = .ok (.invokestatic 45, 3) := by decide +kernel
theorem dX8_eulerTop_46 : decode cX8_eulerTop 46 = .ok (.lmul, 1) := by decide +kernel
theorem dX8_eulerTop_47 : decode cX8_eulerTop 47 = .ok (.ladd, 1) := by decide +kernel
theorem dX8_eulerTop_48 : decode cX8_eulerTop 48 = .ok (.lstore_n 3, 1) := by decide +kernel
theorem dX8_eulerTop_49 : decode cX8_eulerTop 49 = .ok (.iinc 5 1, 3) := by decide +kernel
theorem dX8_eulerTop_52 : decode cX8_eulerTop 52 = .ok (.goto (-36), 3) := by decide +kernel
theorem dX8_eulerTop_55 : decode cX8_eulerTop 55 = .ok (.lload_n 3, 1) := by decide +kernel
theorem dX8_eulerTop_56 : decode cX8_eulerTop 56 = .ok (.lreturn, 1) := by decide +kernel
theorem dX8_characteristicTop_0 : decode cX8_characteristicTop 0 = .ok (.aload_n 0, 1) := by decide +kernel
theorem dX8_characteristicTop_1 : decode cX8_characteristicTop 1 = .ok (.invokevirtual 78, 3) := by decide +kernel
theorem dX8_characteristicTop_4 : decode cX8_characteristicTop 4 = .ok (.lstore_n 1, 1) := by decide +kernel
theorem dX8_characteristicTop_5 : decode cX8_characteristicTop 5 = .ok (.aload_n 0, 1) := by decide +kernel
theorem dX8_characteristicTop_6 : decode cX8_characteristicTop 6 = .ok (.getfield 18, 3) := by decide +kernel
theorem dX8_characteristicTop_9 : decode cX8_characteristicTop 9 = .ok (.ifCond .ne 14, 3) := by decide +kernel
theorem dX8_characteristicTop_12 : decode cX8_characteristicTop 12 = .ok (.iconst 2, 1) := by decide +kernel
theorem dX8_characteristicTop_13 : decode cX8_characteristicTop 13 = .ok (.iconst 2, 1) := by decide +kernel
theorem dX8_characteristicTop_14 : decode cX8_characteristicTop 14 = .ok (.aload_n 0, 1) := by decide +kernel
theorem dX8_characteristicTop_15 : decode cX8_characteristicTop 15 = .ok (.getfield 22, 3) := by decide +kernel
theorem dX8_characteristicTop_18 : decode cX8_characteristicTop 18 = .ok (.imul, 1) := by decide +kernel
theorem dX8_characteristicTop_19 : decode cX8_characteristicTop 19 = .ok (.isub, 1) := by decide +kernel
theorem dX8_characteristicTop_20 : decode cX8_characteristicTop 20 = .ok (.goto 9, 3) := by decide +kernel
theorem dX8_characteristicTop_23 : decode cX8_characteristicTop 23 = .ok (.iconst 2, 1) := by decide +kernel
theorem dX8_characteristicTop_24 : decode cX8_characteristicTop 24 = .ok (.aload_n 0, 1) := by decide +kernel
theorem dX8_characteristicTop_25 : decode cX8_characteristicTop 25 = .ok (.getfield 22, 3) := by decide +kernel
theorem dX8_characteristicTop_28 : decode cX8_characteristicTop 28 = .ok (.isub, 1) := by decide +kernel
theorem dX8_characteristicTop_29 : decode cX8_characteristicTop 29 = .ok (.i2l, 1) := by decide +kernel
theorem dX8_characteristicTop_30 : decode cX8_characteristicTop 30 = .ok (.lload_n 1, 1) := by decide +kernel
theorem dX8_characteristicTop_31 : decode cX8_characteristicTop 31 = .ok (.lmul, 1) := by decide +kernel
theorem dX8_characteristicTop_32 : decode cX8_characteristicTop 32 = .ok (.lstore_n 3, 1) := by decide +kernel
theorem dX8_characteristicTop_33 : decode cX8_characteristicTop 33 = .ok (.iconst 0, 1) := by decide +kernel
theorem dX8_characteristicTop_34 : decode cX8_characteristicTop 34 = .ok (.istore 5, 2) := by decide +kernel
theorem dX8_characteristicTop_36 : decode cX8_characteristicTop 36 = .ok (.iload 5, 2) := by decide +kernel
theorem dX8_characteristicTop_38 : decode cX8_characteristicTop 38 = .ok (.aload_n 0, 1) := by decide +kernel
theorem dX8_characteristicTop_39 : decode cX8_characteristicTop 39 = .ok (.getfield 28, 3) := by decide +kernel
theorem dX8_characteristicTop_42 : decode cX8_characteristicTop 42 = .ok (.if_icmp .ge 26, 3) := by decide +kernel
theorem dX8_characteristicTop_45 : decode cX8_characteristicTop 45 = .ok (.lload_n 3, 1) := by decide +kernel
theorem dX8_characteristicTop_46 : decode cX8_characteristicTop 46 = .ok (.lload_n 1, 1) := by decide +kernel
theorem dX8_characteristicTop_47 : decode cX8_characteristicTop 47 = .ok (.lload_n 1, 1) := by decide +kernel
theorem dX8_characteristicTop_48 : decode cX8_characteristicTop 48 = .ok (.aload_n 0, 1) := by decide +kernel
theorem dX8_characteristicTop_49 : decode cX8_characteristicTop 49 = .ok (.getfield 9, 3) := by decide +kernel
theorem dX8_characteristicTop_52 : decode cX8_characteristicTop 52 = .ok (.iload 5, 2) := by decide +kernel
theorem dX8_characteristicTop_54 : decode cX8_characteristicTop 54 = .ok (.iaload, 1) := by decide +kernel
theorem dX8_characteristicTop_55 : decode cX8_characteristicTop 55 = .ok (.i2l, 1) := by decide +kernel
theorem dX8_characteristicTop_56 : decode cX8_characteristicTop 56 = .ok (.invokestatic 45, 3) := by decide +kernel
theorem dX8_characteristicTop_59 : decode cX8_characteristicTop 59 = .ok (.lsub, 1) := by decide +kernel
theorem dX8_characteristicTop_60 : decode cX8_characteristicTop 60 = .ok (.lsub, 1) := by decide +kernel
theorem dX8_characteristicTop_61 : decode cX8_characteristicTop 61 = .ok (.lstore_n 3, 1) := by decide +kernel
theorem dX8_characteristicTop_62 : decode cX8_characteristicTop 62 = .ok (.iinc 5 1, 3) := by decide +kernel
theorem dX8_characteristicTop_65 : decode cX8_characteristicTop 65 = .ok (.goto (-29), 3) := by decide +kernel
theorem dX8_characteristicTop_68 : decode cX8_characteristicTop 68 = .ok (.lload_n 3, 1) := by decide +kernel
theorem dX8_characteristicTop_69 : decode cX8_characteristicTop 69 = .ok (.lreturn, 1) := by decide +kernel
theorem dX8_geometry_0 : decode cX8_geometry 0 = .ok (.iconst 1, 1) := by decide +kernel
theorem dX8_geometry_1 : decode cX8_geometry 1 = .ok (.aload_n 0, 1) := by decide +kernel
theorem dX8_geometry_2 : decode cX8_geometry 2 = .ok (.invokevirtual 82, 3) := by decide +kernel
theorem dX8_geometry_5 : decode cX8_geometry 5 = .ok (.invokestatic 85, 3) := by decide +kernel
theorem dX8_geometry_8 : decode cX8_geometry 8 = .ok (.isub, 1) := by decide +kernel
theorem dX8_geometry_9 : decode cX8_geometry 9 = .ok (.istore_n 1, 1) := by decide +kernel
theorem dX8_geometry_10 : decode cX8_geometry 10 = .ok (.aload_n 0, 1) := by decide +kernel
theorem dX8_geometry_11 : decode cX8_geometry 11 = .ok (.invokevirtual 91, 3) := by decide +kernel
theorem dX8_geometry_14 : decode cX8_geometry 14 = .ok (.lconst 0, 1) := by decide +kernel
theorem dX8_geometry_15 : decode cX8_geometry 15 = .ok (.lcmp, 1) := by decide +kernel
theorem dX8_geometry_16 : decode cX8_geometry 16 = .ok (.ifCond .ne 7, 3) := by decide +kernel
theorem dX8_geometry_19 : decode cX8_geometry 19 = .ok (.iload_n 1, 1) := by decide +kernel
theorem dX8_geometry_20 : decode cX8_geometry 20 = .ok (.goto 6, 3) := by decide +kernel
theorem dX8_geometry_23 : decode cX8_geometry 23 = .ok (.iload_n 1, 1) := by decide +kernel
theorem dX8_geometry_24 : decode cX8_geometry 24 = .ok (.iconst 3, 1) := by decide +kernel
theorem dX8_geometry_25 : decode cX8_geometry 25 = .ok (.iadd, 1) := by decide +kernel
theorem dX8_geometry_26 : decode cX8_geometry 26 = .ok (.ireturn, 1) := by decide +kernel
theorem dX9_init_0 : decode cX9_init 0 = .ok (.aload_n 0, 1) := by decide +kernel
theorem dX9_init_1 : decode cX9_init 1 = .ok (.invokespecial 3, 3) := by decide +kernel
theorem dX9_init_4 : decode cX9_init 4 = .ok (.aload_n 0, 1) := by decide +kernel
theorem dX9_init_5 : decode cX9_init 5 = .ok (.bipush 100, 2) := by decide +kernel
theorem dX9_init_7 : decode cX9_init 7 = .ok (.newarray .int, 2) := by decide +kernel
theorem dX9_init_9 : decode cX9_init 9 = .ok (.putfield 9, 3) := by decide +kernel
theorem dX9_init_12 : decode cX9_init 12 = .ok (.return_, 1) := by decide +kernel
theorem dX9_append_0 : decode cX9_append 0 = .ok (.aload_n 0, 1) := by decide +kernel
theorem dX9_append_1 : decode cX9_append 1 = .ok (.getfield 15, 3) := by decide +kernel
theorem dX9_append_4 : decode cX9_append 4 = .ok (.bipush 100, 2) := by decide +kernel
theorem dX9_append_6 : decode cX9_append 6 = .ok (.if_icmp .ge 23, 3) := by decide +kernel
theorem dX9_append_9 : decode cX9_append 9 = .ok (.aload_n 0, 1) := by decide +kernel
theorem dX9_append_10 : decode cX9_append 10 = .ok (.getfield 9, 3) := by decide +kernel
theorem dX9_append_13 : decode cX9_append 13 = .ok (.aload_n 0, 1) := by decide +kernel
theorem dX9_append_14 : decode cX9_append 14 = .ok (.getfield 15, 3) := by decide +kernel
theorem dX9_append_17 : decode cX9_append 17 = .ok (.iload_n 1, 1) := by decide +kernel
theorem dX9_append_18 : decode cX9_append 18 = .ok (.iastore, 1) := by decide +kernel
theorem dX9_append_19 : decode cX9_append 19 = .ok (.aload_n 0, 1) := by decide +kernel
theorem dX9_append_20 : decode cX9_append 20 = .ok (.dup, 1) := by decide +kernel
theorem dX9_append_21 : decode cX9_append 21 = .ok (.getfield 15, 3) := by decide +kernel
theorem dX9_append_24 : decode cX9_append 24 = .ok (.iconst 1, 1) := by decide +kernel
theorem dX9_append_25 : decode cX9_append 25 = .ok (.iadd, 1) := by decide +kernel
theorem dX9_append_26 : decode cX9_append 26 = .ok (.putfield 15, 3) := by decide +kernel
theorem dX9_append_29 : decode cX9_append 29 = .ok (.return_, 1) := by decide +kernel
theorem dX9_describe_0 : decode cX9_describe 0 = .ok (.aload_n 1, 1) := by decide +kernel
theorem dX9_describe_1 : decode cX9_describe 1 = .ok (.iconst 0, 1) := by decide +kernel
theorem dX9_describe_2 : decode cX9_describe 2 = .ok (.iconst 0, 1) := by decide +kernel
theorem dX9_describe_3 : decode cX9_describe 3 = .ok (.iconst 0, 1) := by decide +kernel
theorem dX9_describe_4 : decode cX9_describe 4 = .ok (.invokevirtual 19, 3) := by decide +kernel
theorem dX9_describe_7 : decode cX9_describe 7 = .ok (.aload_n 0, 1) := by decide +kernel
theorem dX9_describe_8 : decode cX9_describe 8 = .ok (.iconst 0, 1) := by decide +kernel
theorem dX9_describe_9 : decode cX9_describe 9 = .ok (.putfield 25, 3) := by decide +kernel
theorem dX9_describe_12 : decode cX9_describe 12 = .ok (.aload_n 0, 1) := by decide +kernel
theorem dX9_describe_13 : decode cX9_describe 13 = .ok (.iconst 0, 1) := by decide +kernel
theorem dX9_describe_14 : decode cX9_describe 14 = .ok (.putfield 28, 3) := by decide +kernel
theorem dX9_describe_17 : decode cX9_describe 17 = .ok (.aload_n 0, 1) := by decide +kernel
theorem dX9_describe_18 : decode cX9_describe 18 = .ok (.iconst 0, 1) := by decide +kernel
theorem dX9_describe_19 : decode cX9_describe 19 = .ok (.putfield 31, 3) := by decide +kernel
theorem dX9_describe_22 : decode cX9_describe 22 = .ok (.aload_n 0, 1) := by decide +kernel
theorem dX9_describe_23 : decode cX9_describe 23 = .ok (.iconst 0, 1) := by decide +kernel
theorem dX9_describe_24 : decode cX9_describe 24 = .ok (.putfield 34, 3) := by decide +kernel
theorem dX9_describe_27 : decode cX9_describe 27 = .ok (.iconst 1, 1) := by decide +kernel
theorem dX9_describe_28 : decode cX9_describe 28 = .ok (.istore_n 2, 1) := by decide +kernel
theorem dX9_describe_29 : decode cX9_describe 29 = .ok (.aload_n 0, 1) := by decide +kernel
theorem dX9_describe_30 : decode cX9_describe 30 = .ok (.invokevirtual 37, 3) := by decide +kernel
theorem dX9_describe_33 : decode cX9_describe 33 = .ok (.iconst 0, 1) := by decide +kernel
theorem dX9_describe_34 : decode cX9_describe 34 = .ok (.istore_n 3, 1) := by decide +kernel
theorem dX9_describe_35 : decode cX9_describe 35 = .ok (.iload_n 3, 1) := by decide +kernel
theorem dX9_describe_36 : decode cX9_describe 36 = .ok (.bipush 100, 2) := by decide +kernel
theorem dX9_describe_38 : decode cX9_describe 38 = .ok (.if_icmp .gt 29, 3) := by decide +kernel
theorem dX9_describe_41 : decode cX9_describe 41 = .ok (.iload_n 2, 1) := by decide +kernel
theorem dX9_describe_42 : decode cX9_describe 42 = .ok (.ifCond .eq 25, 3) := by decide +kernel
theorem dX9_describe_45 : decode cX9_describe 45 = .ok (.aload_n 0, 1) := by decide +kernel
theorem dX9_describe_46 : decode cX9_describe 46 = .ok (.getfield 40, 3) := by decide +kernel
theorem dX9_describe_49 : decode cX9_describe 49 = .ok (.sipush 257, 3) := by decide +kernel
theorem dX9_describe_52 : decode cX9_describe 52 = .ok (.if_icmp .eq 15, 3) := by decide +kernel
theorem dX9_describe_55 : decode cX9_describe 55 = .ok (.aload_n 0, 1) := by decide +kernel
theorem dX9_describe_56 : decode cX9_describe 56 = .ok (.aload_n 1, 1) := by decide +kernel
theorem dX9_describe_57 : decode cX9_describe 57 = .ok (.invokevirtual 43, 3) := by decide +kernel
theorem dX9_describe_60 : decode cX9_describe 60 = .ok (.istore_n 2, 1) := by decide +kernel
theorem dX9_describe_61 : decode cX9_describe 61 = .ok (.iinc 3 1, 3) := by decide +kernel
theorem dX9_describe_64 : decode cX9_describe 64 = .ok (.goto (-29), 3) := by decide +kernel
theorem dX9_describe_67 : decode cX9_describe 67 = .ok (.iload_n 2, 1) := by decide +kernel
theorem dX9_describe_68 : decode cX9_describe 68 = .ok (.ifCond .eq 10, 3) := by decide +kernel
theorem dX9_describe_71 : decode cX9_describe 71 = .ok (.aload_n 0, 1) := by decide +kernel
theorem dX9_describe_72 : decode cX9_describe 72 = .ok (.getfield 28, 3) := by decide +kernel
theorem dX9_describe_75 : decode cX9_describe 75 = .ok (.goto 10, 3) := by decide +kernel
theorem dX9_describe_78 : decode cX9_describe 78 = .ok (.bipush (-10), 2) := by decide +kernel
theorem dX9_describe_80 : decode cX9_describe 80 = .ok (.aload_n 0, 1) := by decide +kernel
theorem dX9_describe_81 : decode cX9_describe 81 = .ok (.getfield 47, 3) := by decide +kernel
theorem dX9_describe_84 : decode cX9_describe 84 = .ok (.isub, 1) := by decide +kernel
theorem dX9_describe_85 : decode cX9_describe 85 = .ok (.ireturn, 1) := by decide +kernel
theorem dX9_readItem_0 : decode cX9_readItem 0 = .ok (.aload_n 0, 1) := by decide +kernel
theorem dX9_readItem_1 : decode cX9_readItem 1 = .ok (.getfield 40, 3) := by decide +kernel
theorem dX9_readItem_4 : decode cX9_readItem 4 = .ok (.bipush 111, 2) := by decide +kernel
theorem dX9_readItem_6 : decode cX9_readItem 6 = .ok (.if_icmp .eq 12, 3) := by decide +kernel
theorem dX9_readItem_9 : decode cX9_readItem 9 = .ok (.aload_n 0, 1) := by decide +kernel
theorem dX9_readItem_10 : decode cX9_readItem 10 = .ok (.getfield 40, 3) := by decide +kernel
theorem dX9_readItem_13 : decode cX9_readItem 13 = .ok (.bipush 110, 2) := by decide +kernel
theorem dX9_readItem_15 : decode cX9_readItem 15 = .ok (.if_icmp .ne 27, 3) := by decide +kernel
theorem dX9_readItem_18 : decode cX9_readItem 18 = .ok (.aload_n 0, 1) := by decide +kernel
theorem dX9_readItem_19 : decode cX9_readItem 19 = .ok (.getfield 28, 3) := by decide +kernel
theorem dX9_readItem_22 : decode cX9_readItem 22 = .ok (.ifCond .ne 15, 3) := by decide +kernel
theorem dX9_readItem_25 : decode cX9_readItem 25 = .ok (.aload_n 0, 1) := by decide +kernel
theorem dX9_readItem_26 : decode cX9_readItem 26 = .ok (.aload_n 1, 1) := by decide +kernel
theorem dX9_readItem_27 : decode cX9_readItem 27 = .ok (.invokevirtual 50, 3) := by decide +kernel
theorem dX9_readItem_30 : decode cX9_readItem 30 = .ok (.ifCond .eq 7, 3) := by decide +kernel
theorem dX9_readItem_33 : decode cX9_readItem 33 = .ok (.iconst 1, 1) := by decide +kernel
theorem dX9_readItem_34 : decode cX9_readItem 34 = .ok (.goto 4, 3) := by decide +kernel
theorem dX9_readItem_37 : decode cX9_readItem 37 = .ok (.iconst 0, 1) := by decide +kernel
theorem dX9_readItem_38 : decode cX9_readItem 38 = .ok (.istore_n 2, 1) := by decide +kernel
theorem dX9_readItem_39 : decode cX9_readItem 39 = .ok (.goto 35, 3) := by decide +kernel
theorem dX9_readItem_42 : decode cX9_readItem 42 = .ok (.aload_n 0, 1) := by decide +kernel
theorem dX9_readItem_43 : decode cX9_readItem 43 = .ok (.getfield 40, 3) := by decide +kernel
theorem dX9_readItem_46 : decode cX9_readItem 46 = .ok (.bipush 102, 2) := by decide +kernel
theorem dX9_readItem_48 : decode cX9_readItem 48 = .ok (.if_icmp .ne 24, 3) := by decide +kernel
theorem dX9_readItem_51 : decode cX9_readItem 51 = .ok (.aload_n 0, 1) := by decide +kernel
theorem dX9_readItem_52 : decode cX9_readItem 52 = .ok (.getfield 31, 3) := by decide +kernel
theorem dX9_readItem_55 : decode cX9_readItem 55 = .ok (.bipush 8, 2) := by decide +kernel
theorem dX9_readItem_57 : decode cX9_readItem 57 = .ok (.if_icmp .ge 15, 3) := by decide +kernel
theorem dX9_readItem_60 : decode cX9_readItem 60 = .ok (.aload_n 0, 1) := by decide +kernel
theorem dX9_readItem_61 : decode cX9_readItem 61 = .ok (.aload_n 1, 1) := by decide +kernel
theorem dX9_readItem_62 : decode cX9_readItem 62 = .ok (.invokevirtual 53, 3) := by decide +kernel
theorem dX9_readItem_65 : decode cX9_readItem 65 = .ok (.ifCond .eq 7, 3) := by decide +kernel
theorem dX9_readItem_68 : decode cX9_readItem 68 = .ok (.iconst 1, 1) := by decide +kernel
theorem dX9_readItem_69 : decode cX9_readItem 69 = .ok (.goto 4, 3) := by decide +kernel
theorem dX9_readItem_72 : decode cX9_readItem 72 = .ok (.iconst 0, 1) := by decide +kernel
theorem dX9_readItem_73 : decode cX9_readItem 73 = .ok (.istore_n 2, 1) := by decide +kernel
theorem dX9_readItem_74 : decode cX9_readItem 74 = .ok (.iload_n 2, 1) := by decide +kernel
theorem dX9_readItem_75 : decode cX9_readItem 75 = .ok (.ifCond .eq 12, 3) := by decide +kernel
theorem dX9_readItem_78 : decode cX9_readItem 78 = .ok (.aload_n 0, 1) := by decide +kernel
theorem dX9_readItem_79 : decode cX9_readItem 79 = .ok (.getfield 40, 3) := by decide +kernel
theorem dX9_readItem_82 : decode cX9_readItem 82 = .ok (.bipush 59, 2) := by decide +kernel
theorem dX9_readItem_84 : decode cX9_readItem 84 = .ok (.if_icmp .eq 5, 3) := by decide +kernel
theorem dX9_readItem_87 : decode cX9_readItem 87 = .ok (.iconst 0, 1) := by decide +kernel
theorem dX9_readItem_88 : decode cX9_readItem 88 = .ok (.ireturn, 1) := by decide +kernel
theorem dX9_readItem_89 : decode cX9_readItem 89 = .ok (.aload_n 0, 1) := by decide +kernel
theorem dX9_readItem_90 : decode cX9_readItem 90 = .ok (.dup, 1) := by decide +kernel
theorem dX9_readItem_91 : decode cX9_readItem 91 = .ok (.getfield 28, 3) := by decide +kernel
theorem dX9_readItem_94 : decode cX9_readItem 94 = .ok (.iconst 1, 1) := by decide +kernel
theorem dX9_readItem_95 : decode cX9_readItem 95 = .ok (.iadd, 1) := by decide +kernel
theorem dX9_readItem_96 : decode cX9_readItem 96 = .ok (.putfield 28, 3) := by decide +kernel
theorem dX9_readItem_99 : decode cX9_readItem 99 = .ok (.aload_n 0, 1) := by decide +kernel
theorem dX9_readItem_100 : decode cX9_readItem 100 = .ok (.invokevirtual 37, 3) := by decide +kernel
theorem dX9_readItem_103 : decode cX9_readItem 103 = .ok (.iconst 1, 1) := by decide +kernel
theorem dX9_readItem_104 : decode cX9_readItem 104 = .ok (.ireturn, 1) := by decide +kernel
theorem dX9_readBase_0 : decode cX9_readBase 0 = .ok (.aload_n 0, 1) := by decide +kernel
theorem dX9_readBase_1 : decode cX9_readBase 1 = .ok (.getfield 40, 3) := by decide +kernel
theorem dX9_readBase_4 : decode cX9_readBase 4 = .ok (.bipush 111, 2) := by decide +kernel
theorem dX9_readBase_6 : decode cX9_readBase 6 = .ok (.if_icmp .ne 7, 3) := by decide +kernel
theorem dX9_readBase_9 : decode cX9_readBase 9 = .ok (.iconst 0, 1) := by decide +kernel
theorem dX9_readBase_10 : decode cX9_readBase 10 = .ok (.goto 4, 3) := by decide +kernel
theorem dX9_readBase_13 : decode cX9_readBase 13 = .ok (.iconst 1, 1) := by decide +kernel
theorem dX9_readBase_14 : decode cX9_readBase 14 = .ok (.istore_n 2, 1) := by decide +kernel
theorem dX9_readBase_15 : decode cX9_readBase 15 = .ok (.aload_n 0, 1) := by decide +kernel
theorem dX9_readBase_16 : decode cX9_readBase 16 = .ok (.invokevirtual 37, 3) := by decide +kernel
theorem dX9_readBase_19 : decode cX9_readBase 19 = .ok (.aload_n 0, 1) := by decide +kernel
theorem dX9_readBase_20 : decode cX9_readBase 20 = .ok (.iload_n 2, 1) := by decide +kernel
theorem dX9_readBase_21 : decode cX9_readBase 21 = .ok (.iconst 4, 1) := by decide +kernel
theorem dX9_readBase_22 : decode cX9_readBase 22 = .ok (.invokevirtual 56, 3) := by decide +kernel
theorem dX9_readBase_25 : decode cX9_readBase 25 = .ok (.ifCond .ne 5, 3) := by decide +kernel
theorem dX9_readBase_28 : decode cX9_readBase 28 = .ok (.iconst 0, 1) := by decide +kernel
theorem dX9_readBase_29 : decode cX9_readBase 29 = .ok (.ireturn, 1) := by decide +kernel
theorem dX9_readBase_30 : decode cX9_readBase 30 = .ok (.aload_n 1, 1) := by decide +kernel
theorem dX9_readBase_31 : decode cX9_readBase 31 = .ok (.iload_n 2, 1) := by decide +kernel
theorem dX9_readBase_32 : decode cX9_readBase 32 = .ok (.aload_n 0, 1) := by decide +kernel
theorem dX9_readBase_33 : decode cX9_readBase 33 = .ok (.getfield 60, 3) := by decide +kernel
theorem dX9_readBase_36 : decode cX9_readBase 36 = .ok (.iconst 0, 1) := by decide +kernel
theorem dX9_readBase_37 : decode cX9_readBase 37 = .ok (.invokevirtual 19, 3) := by decide +kernel
theorem dX9_readBase_40 : decode cX9_readBase 40 = .ok (.aload_n 0, 1) := by decide +kernel
theorem dX9_readBase_41 : decode cX9_readBase 41 = .ok (.invokevirtual 37, 3) := by decide +kernel
theorem dX9_readBase_44 : decode cX9_readBase 44 = .ok (.iconst 1, 1) := by decide +kernel
theorem dX9_readBase_45 : decode cX9_readBase 45 = .ok (.ireturn, 1) := by decide +kernel
theorem dX9_readPair_0 : decode cX9_readPair 0 = .ok (.aload_n 0, 1) := by decide +kernel
theorem dX9_readPair_1 : decode cX9_readPair 1 = .ok (.invokevirtual 37, 3) := by decide +kernel
theorem dX9_readPair_4 : decode cX9_readPair 4 = .ok (.aload_n 0, 1) := by decide +kernel
theorem dX9_readPair_5 : decode cX9_readPair 5 = .ok (.getfield 34, 3) := by decide +kernel
theorem dX9_readPair_8 : decode cX9_readPair 8 = .ok (.bipush 6, 2) := by decide +kernel
theorem dX9_readPair_10 : decode cX9_readPair 10 = .ok (.if_icmp .ge 8, 3) := by decide +kernel
theorem dX9_readPair_13 : decode cX9_readPair 13 = .ok (.bipush 30, 2) := by decide +kernel
theorem dX9_readPair_15 : decode cX9_readPair 15 = .ok (.goto 4, 3) := by decide +kernel
theorem dX9_readPair_18 : decode cX9_readPair 18 = .ok (.iconst 1, 1) := by decide +kernel
theorem dX9_readPair_19 : decode cX9_readPair 19 = .ok (.istore_n 2, 1) := by decide +kernel
theorem dX9_readPair_20 : decode cX9_readPair 20 = .ok (.aload_n 0, 1) := by decide +kernel
theorem dX9_readPair_21 : decode cX9_readPair 21 = .ok (.iconst 1, 1) := by decide +kernel
theorem dX9_readPair_22 : decode cX9_readPair 22 = .ok (.iload_n 2, 1) := by decide +kernel
theorem dX9_readPair_23 : decode cX9_readPair 23 = .ok (.invokevirtual 56, 3) := by decide +kernel
theorem dX9_readPair_26 : decode cX9_readPair 26 = .ok (.ifCond .ne 5, 3) := by decide +kernel
theorem dX9_readPair_29 : decode cX9_readPair 29 = .ok (.iconst 0, 1) := by decide +kernel
theorem dX9_readPair_30 : decode cX9_readPair 30 = .ok (.ireturn, 1) := by decide +kernel
theorem dX9_readPair_31 : decode cX9_readPair 31 = .ok (.aload_n 0, 1) := by decide +kernel
theorem dX9_readPair_32 : decode cX9_readPair 32 = .ok (.getfield 60, 3) := by decide +kernel
theorem dX9_readPair_35 : decode cX9_readPair 35 = .ok (.istore_n 3, 1) := by decide +kernel
theorem dX9_readPair_36 : decode cX9_readPair 36 = .ok (.aload_n 0, 1) := by decide +kernel
theorem dX9_readPair_37 : decode cX9_readPair 37 = .ok (.invokevirtual 37, 3) := by decide +kernel
theorem dX9_readPair_40 : decode cX9_readPair 40 = .ok (.iconst 1, 1) := by decide +kernel
theorem dX9_readPair_41 : decode cX9_readPair 41 = .ok (.istore 4, 2) := by decide +kernel
theorem dX9_readPair_43 : decode cX9_readPair 43 = .ok (.aload_n 0, 1) := by decide +kernel
theorem dX9_readPair_44 : decode cX9_readPair 44 = .ok (.getfield 40, 3) := by decide +kernel
theorem dX9_readPair_47 : decode cX9_readPair 47 = .ok (.bipush 45, 2) := by decide +kernel
theorem dX9_readPair_49 : decode cX9_readPair 49 = .ok (.if_icmp .ne 10, 3) := by decide +kernel
theorem dX9_readPair_52 : decode cX9_readPair 52 = .ok (.iconst (-1), 1) := by decide +kernel
theorem dX9_readPair_53 : decode cX9_readPair 53 = .ok (.istore 4, 2) := by decide +kernel
theorem dX9_readPair_55 : decode cX9_readPair 55 = .ok (.aload_n 0, 1) := by decide +kernel
theorem dX9_readPair_56 : decode cX9_readPair 56 = .ok (.invokevirtual 37, 3) := by decide +kernel
theorem dX9_readPair_59 : decode cX9_readPair 59 = .ok (.aload_n 0, 1) := by decide +kernel
theorem dX9_readPair_60 : decode cX9_readPair 60 = .ok (.iconst 0, 1) := by decide +kernel
theorem dX9_readPair_61 : decode cX9_readPair 61 = .ok (.bipush 99, 2) := by decide +kernel
theorem dX9_readPair_63 : decode cX9_readPair 63 = .ok (.invokevirtual 56, 3) := by decide +kernel
theorem dX9_readPair_66 : decode cX9_readPair 66 = .ok (.ifCond .eq 18, 3) := by decide +kernel
theorem dX9_readPair_69 : decode cX9_readPair 69 = .ok (.iload_n 3, 1) := by decide +kernel
theorem dX9_readPair_70 : decode cX9_readPair 70 = .ok (.i2l, 1) := by decide +kernel
theorem dX9_readPair_71 : decode cX9_readPair 71 = .ok (.aload_n 0, 1) := by decide +kernel
theorem dX9_readPair_72 : decode cX9_readPair 72 = .ok (.getfield 60, 3) := by decide +kernel
theorem dX9_readPair_75 : decode cX9_readPair 75 = .ok (.i2l, 1) := by decide +kernel
theorem dX9_readPair_76 : decode cX9_readPair 76 = .ok (.invokestatic 63, 3) := by decide +kernel
theorem dX9_readPair_79 : decode cX9_readPair 79 = .ok (.lconst 1, 1) := by decide +kernel
theorem dX9_readPair_80 : decode cX9_readPair 80 = .ok (.lcmp, 1) := by decide +kernel
theorem dX9_readPair_81 : decode cX9_readPair 81 = .ok (.ifCond .eq 5, 3) := by decide +kernel
theorem dX9_readPair_84 : decode cX9_readPair 84 = .ok (.iconst 0, 1) := by decide +kernel
theorem dX9_readPair_85 : decode cX9_readPair 85 = .ok (.ireturn, 1) := by decide +kernel
theorem dX9_readPair_86 : decode cX9_readPair 86 = .ok (.aload_n 1, 1) := by decide +kernel
theorem dX9_readPair_87 : decode cX9_readPair 87 = .ok (.iload_n 3, 1) := by decide +kernel
theorem dX9_readPair_88 : decode cX9_readPair 88 = .ok (.iload 4, 2) := by decide +kernel
theorem dX9_readPair_90 : decode cX9_readPair 90 = .ok (.aload_n 0, 1) := by decide +kernel
theorem dX9_readPair_91 : decode cX9_readPair 91 = .ok (.getfield 60, 3) := by decide +kernel
theorem dX9_readPair_94 : decode cX9_readPair 94 = .ok (.imul, 1) := by decide +kernel
theorem dX9_readPair_95 : decode cX9_readPair 95 = .ok (.invokevirtual 69, 3) := by decide +kernel
theorem dX9_readPair_98 : decode cX9_readPair 98 = .ok (.aload_n 0, 1) := by decide +kernel
theorem dX9_readPair_99 : decode cX9_readPair 99 = .ok (.dup, 1) := by decide +kernel
theorem dX9_readPair_100 : decode cX9_readPair 100 = .ok (.getfield 31, 3) := by decide +kernel
theorem dX9_readPair_103 : decode cX9_readPair 103 = .ok (.iconst 1, 1) := by decide +kernel
theorem dX9_readPair_104 : decode cX9_readPair 104 = .ok (.iadd, 1) := by decide +kernel
theorem dX9_readPair_105 : decode cX9_readPair 105 = .ok (.putfield 31, 3) := by decide +kernel
theorem dX9_readPair_108 : decode cX9_readPair 108 = .ok (.aload_n 0, 1) := by decide +kernel
theorem dX9_readPair_109 : decode cX9_readPair 109 = .ok (.dup, 1) := by decide +kernel
theorem dX9_readPair_110 : decode cX9_readPair 110 = .ok (.getfield 34, 3) := by decide +kernel
theorem dX9_readPair_113 : decode cX9_readPair 113 = .ok (.iload_n 3, 1) := by decide +kernel
theorem dX9_readPair_114 : decode cX9_readPair 114 = .ok (.iconst 1, 1) := by decide +kernel
theorem dX9_readPair_115 : decode cX9_readPair 115 = .ok (.if_icmp .ne 7, 3) := by decide +kernel
theorem dX9_readPair_118 : decode cX9_readPair 118 = .ok (.iconst 0, 1) := by decide +kernel
theorem dX9_readPair_119 : decode cX9_readPair 119 = .ok (.goto 4, 3) := by decide +kernel
theorem dX9_readPair_122 : decode cX9_readPair 122 = .ok (.iconst 1, 1) := by decide +kernel
theorem dX9_readPair_123 : decode cX9_readPair 123 = .ok (.iadd, 1) := by decide +kernel
theorem dX9_readPair_124 : decode cX9_readPair 124 = .ok (.putfield 34, 3) := by decide +kernel
theorem dX9_readPair_127 : decode cX9_readPair 127 = .ok (.aload_n 0, 1) := by decide +kernel
theorem dX9_readPair_128 : decode cX9_readPair 128 = .ok (.invokevirtual 37, 3) := by decide +kernel
theorem dX9_readPair_131 : decode cX9_readPair 131 = .ok (.iconst 1, 1) := by decide +kernel
theorem dX9_readPair_132 : decode cX9_readPair 132 = .ok (.ireturn, 1) := by decide +kernel
theorem dX9_isNumber_0 : decode cX9_isNumber 0 = .ok (.aload_n 0, 1) := by decide +kernel
theorem dX9_isNumber_1 : decode cX9_isNumber 1 = .ok (.getfield 40, 3) := by decide +kernel
theorem dX9_isNumber_4 : decode cX9_isNumber 4 = .ok (.sipush 256, 3) := by decide +kernel
theorem dX9_isNumber_7 : decode cX9_isNumber 7 = .ok (.if_icmp .ne 23, 3) := by decide +kernel
theorem dX9_isNumber_10 : decode cX9_isNumber 10 = .ok (.aload_n 0, 1) := by decide +kernel
theorem dX9_isNumber_11 : decode cX9_isNumber 11 = .ok (.getfield 60, 3) := by decide +kernel
theorem dX9_isNumber_14 : decode cX9_isNumber 14 = .ok (.iload_n 1, 1) := by decide +kernel
theorem dX9_isNumber_15 : decode cX9_isNumber 15 = .ok (.if_icmp .lt 15, 3) := by decide +kernel
theorem dX9_isNumber_18 : decode cX9_isNumber 18 = .ok (.aload_n 0, 1) := by decide +kernel
theorem dX9_isNumber_19 : decode cX9_isNumber 19 = .ok (.getfield 60, 3) := by decide +kernel
theorem dX9_isNumber_22 : decode cX9_isNumber 22 = .ok (.iload_n 2, 1) := by decide +kernel
theorem dX9_isNumber_23 : decode cX9_isNumber 23 = .ok (.if_icmp .gt 7, 3) := by decide +kernel
theorem dX9_isNumber_26 : decode cX9_isNumber 26 = .ok (.iconst 1, 1) := by decide +kernel
theorem dX9_isNumber_27 : decode cX9_isNumber 27 = .ok (.goto 4, 3) := by decide +kernel
theorem dX9_isNumber_30 : decode cX9_isNumber 30 = .ok (.iconst 0, 1) := by decide +kernel
theorem dX9_isNumber_31 : decode cX9_isNumber 31 = .ok (.ireturn, 1) := by decide +kernel
theorem dX9_advance_0 : decode cX9_advance 0 = .ok (.aload_n 0, 1) := by decide +kernel
theorem dX9_advance_1 : decode cX9_advance 1 = .ok (.getfield 25, 3) := by decide +kernel
theorem dX9_advance_4 : decode cX9_advance 4 = .ok (.aload_n 0, 1) := by decide +kernel
theorem dX9_advance_5 : decode cX9_advance 5 = .ok (.getfield 15, 3) := by decide +kernel
theorem dX9_advance_8 : decode cX9_advance 8 = .ok (.if_icmp .ge 29, 3) := by decide +kernel
theorem dX9_advance_11 : decode cX9_advance 11 = .ok (.aload_n 0, 1) := by decide +kernel
theorem dX9_advance_12 : decode cX9_advance 12 = .ok (.aload_n 0, 1) := by decide +kernel
theorem dX9_advance_13 : decode cX9_advance 13 = .ok (.getfield 25, 3) := by decide +kernel
theorem dX9_advance_16 : decode cX9_advance 16 = .ok (.invokevirtual 73, 3) := by decide +kernel
theorem dX9_advance_19 : decode cX9_advance 19 = .ok (.bipush 32, 2) := by decide +kernel
theorem dX9_advance_21 : decode cX9_advance 21 = .ok (.if_icmp .ne 16, 3) := by decide +kernel
theorem dX9_advance_24 : decode cX9_advance 24 = .ok (.aload_n 0, 1) := by decide +kernel
theorem dX9_advance_25 : decode cX9_advance 25 = .ok (.dup, 1) := by decide +kernel
theorem dX9_advance_26 : decode cX9_advance 26 = .ok (.getfield 25, 3) := by decide +kernel
theorem dX9_advance_29 : decode cX9_advance 29 = .ok (.iconst 1, 1) := by decide +kernel
theorem dX9_advance_30 : decode cX9_advance 30 = .ok (.iadd, 1) := by decide +kernel
theorem dX9_advance_31 : decode cX9_advance 31 = .ok (.putfield 25, 3) := by decide +kernel
theorem dX9_advance_34 : decode cX9_advance 34 = .ok (.goto (-34), 3) := by decide +kernel
theorem dX9_advance_37 : decode cX9_advance 37 = .ok (.aload_n 0, 1) := by decide +kernel
theorem dX9_advance_38 : decode cX9_advance 38 = .ok (.aload_n 0, 1) := by decide +kernel
theorem dX9_advance_39 : decode cX9_advance 39 = .ok (.getfield 25, 3) := by decide +kernel
theorem dX9_advance_42 : decode cX9_advance 42 = .ok (.putfield 47, 3) := by decide +kernel
theorem dX9_advance_45 : decode cX9_advance 45 = .ok (.aload_n 0, 1) := by decide +kernel
theorem dX9_advance_46 : decode cX9_advance 46 = .ok (.aload_n 0, 1) := by decide +kernel
theorem dX9_advance_47 : decode cX9_advance 47 = .ok (.getfield 25, 3) := by decide +kernel
theorem dX9_advance_50 : decode cX9_advance 50 = .ok (.aload_n 0, 1) := by decide +kernel
theorem dX9_advance_51 : decode cX9_advance 51 = .ok (.getfield 15, 3) := by decide +kernel
theorem dX9_advance_54 : decode cX9_advance 54 = .ok (.if_icmp .ge 14, 3) := by decide +kernel
theorem dX9_advance_57 : decode cX9_advance 57 = .ok (.aload_n 0, 1) := by decide +kernel
theorem dX9_advance_58 : decode cX9_advance 58 = .ok (.aload_n 0, 1) := by decide +kernel
theorem dX9_advance_59 : decode cX9_advance 59 = .ok (.getfield 25, 3) := by decide +kernel
theorem dX9_advance_62 : decode cX9_advance 62 = .ok (.invokevirtual 73, 3) := by decide +kernel
theorem dX9_advance_65 : decode cX9_advance 65 = .ok (.goto 6, 3) := by decide +kernel
theorem dX9_advance_68 : decode cX9_advance 68 = .ok (.sipush 257, 3) := by decide +kernel
theorem dX9_advance_71 : decode cX9_advance 71 = .ok (.putfield 40, 3) := by decide +kernel
theorem dX9_advance_74 : decode cX9_advance 74 = .ok (.aload_n 0, 1) := by decide +kernel
theorem dX9_advance_75 : decode cX9_advance 75 = .ok (.aload_n 0, 1) := by decide +kernel
theorem dX9_advance_76 : decode cX9_advance 76 = .ok (.getfield 25, 3) := by decide +kernel
theorem dX9_advance_79 : decode cX9_advance 79 = .ok (.invokevirtual 77, 3) := by decide +kernel
theorem dX9_advance_82 : decode cX9_advance 82 = .ok (.ifCond .eq 17, 3) := by decide +kernel
theorem dX9_advance_85 : decode cX9_advance 85 = .ok (.aload_n 0, 1) := by decide +kernel
theorem dX9_advance_86 : decode cX9_advance 86 = .ok (.sipush 256, 3) := by decide +kernel
theorem dX9_advance_89 : decode cX9_advance 89 = .ok (.putfield 40, 3) := by decide +kernel
theorem dX9_advance_92 : decode cX9_advance 92 = .ok (.aload_n 0, 1) := by decide +kernel
theorem dX9_advance_93 : decode cX9_advance 93 = .ok (.invokevirtual 81, 3) := by decide +kernel
theorem dX9_advance_96 : decode cX9_advance 96 = .ok (.goto 24, 3) := by decide +kernel
theorem dX9_advance_99 : decode cX9_advance 99 = .ok (.aload_n 0, 1) := by decide +kernel
theorem dX9_advance_100 : decode cX9_advance 100 = .ok (.getfield 25, 3) := by decide +kernel
theorem dX9_advance_103 : decode cX9_advance 103 = .ok (.aload_n 0, 1) := by decide +kernel
theorem dX9_advance_104 : decode cX9_advance 104 = .ok (.getfield 15, 3) := by decide +kernel
theorem dX9_advance_107 : decode cX9_advance 107 = .ok (.if_icmp .ge 13, 3) := by decide +kernel
theorem dX9_advance_110 : decode cX9_advance 110 = .ok (.aload_n 0, 1) := by decide +kernel
theorem dX9_advance_111 : decode cX9_advance 111 = .ok (.dup, 1) := by decide +kernel
theorem dX9_advance_112 : decode cX9_advance 112 = .ok (.getfield 25, 3) := by decide +kernel
theorem dX9_advance_115 : decode cX9_advance 115 = .ok (.iconst 1, 1) := by decide +kernel
theorem dX9_advance_116 : decode cX9_advance 116 = .ok (.iadd, 1) := by decide +kernel
theorem dX9_advance_117 : decode cX9_advance 117 = .ok (.putfield 25, 3) := by decide +kernel
theorem dX9_advance_120 : decode cX9_advance 120 = .ok (.return_, 1) := by decide +kernel
theorem dX9_readNumber_0 : decode cX9_readNumber 0 = .ok (.aload_n 0, 1) := by decide +kernel
theorem dX9_readNumber_1 : decode cX9_readNumber 1 = .ok (.iconst 0, 1) := by decide +kernel
theorem dX9_readNumber_2 : decode cX9_readNumber 2 = .ok (.putfield 60, 3) := by decide +kernel
theorem dX9_readNumber_5 : decode cX9_readNumber 5 = .ok (.aload_n 0, 1) := by decide +kernel
theorem dX9_readNumber_6 : decode cX9_readNumber 6 = .ok (.getfield 25, 3) := by decide +kernel
theorem dX9_readNumber_9 : decode cX9_readNumber 9 = .ok (.aload_n 0, 1) := by decide +kernel
theorem dX9_readNumber_10 : decode cX9_readNumber 10 = .ok (.getfield 15, 3) := by decide +kernel
theorem dX9_readNumber_13 : decode cX9_readNumber 13 = .ok (.if_icmp .ge 56, 3) := by decide +kernel
theorem dX9_readNumber_16 : decode cX9_readNumber 16 = .ok (.aload_n 0, 1) := by decide +kernel
theorem dX9_readNumber_17 : decode cX9_readNumber 17 = .ok (.aload_n 0, 1) := by decide +kernel
theorem dX9_readNumber_18 : decode cX9_readNumber 18 = .ok (.getfield 25, 3) := by decide +kernel
theorem dX9_readNumber_21 : decode cX9_readNumber 21 = .ok (.invokevirtual 77, 3) := by decide +kernel
theorem dX9_readNumber_24 : decode cX9_readNumber 24 = .ok (.ifCond .eq 45, 3) := by decide +kernel
theorem dX9_readNumber_27 : decode cX9_readNumber 27 = .ok (.aload_n 0, 1) := by decide +kernel
theorem dX9_readNumber_28 : decode cX9_readNumber 28 = .ok (.bipush 10, 2) := by decide +kernel
theorem dX9_readNumber_30 : decode cX9_readNumber 30 = .ok (.aload_n 0, 1) := by decide +kernel
theorem dX9_readNumber_31 : decode cX9_readNumber 31 = .ok (.getfield 60, 3) := by decide +kernel
theorem dX9_readNumber_34 : decode cX9_readNumber 34 = .ok (.imul, 1) := by decide +kernel
theorem dX9_readNumber_35 : decode cX9_readNumber 35 = .ok (.aload_n 0, 1) := by decide +kernel
theorem dX9_readNumber_36 : decode cX9_readNumber 36 = .ok (.aload_n 0, 1) := by decide +kernel
theorem dX9_readNumber_37 : decode cX9_readNumber 37 = .ok (.getfield 25, 3) := by decide +kernel
theorem dX9_readNumber_40 : decode cX9_readNumber 40 = .ok (.invokevirtual 73, 3) := by decide +kernel
theorem dX9_readNumber_43 : decode cX9_readNumber 43 = .ok (.iadd, 1) := by decide +kernel
theorem dX9_readNumber_44 : decode cX9_readNumber 44 = .ok (.bipush 48, 2) := by decide +kernel
theorem dX9_readNumber_46 : decode cX9_readNumber 46 = .ok (.isub, 1) := by decide +kernel
theorem dX9_readNumber_47 : decode cX9_readNumber 47 = .ok (.sipush 1000, 3) := by decide +kernel
theorem dX9_readNumber_50 : decode cX9_readNumber 50 = .ok (.invokestatic 84, 3) := by decide +kernel
theorem dX9_readNumber_53 : decode cX9_readNumber 53 = .ok (.putfield 60, 3) := by decide +kernel
theorem dX9_readNumber_56 : decode cX9_readNumber 56 = .ok (.aload_n 0, 1) := by decide +kernel
theorem dX9_readNumber_57 : decode cX9_readNumber 57 = .ok (.dup, 1) := by decide +kernel
theorem dX9_readNumber_58 : decode cX9_readNumber 58 = .ok (.getfield 25, 3) := by decide +kernel
theorem dX9_readNumber_61 : decode cX9_readNumber 61 = .ok (.iconst 1, 1) := by decide +kernel
theorem dX9_readNumber_62 : decode cX9_readNumber 62 = .ok (.iadd, 1) := by decide +kernel
theorem dX9_readNumber_63 : decode cX9_readNumber 63 = .ok (.putfield 25, 3) := by decide +kernel
theorem dX9_readNumber_66 : decode cX9_readNumber 66 = .ok (.goto (-61), 3) := by decide +kernel
theorem dX9_readNumber_69 : decode cX9_readNumber 69 = .ok (.aload_n 0, 1) := by decide +kernel
theorem dX9_readNumber_70 : decode cX9_readNumber 70 = .ok (.aload_n 0, 1) := by decide +kernel
theorem dX9_readNumber_71 : decode cX9_readNumber 71 = .ok (.getfield 47, 3) := by decide +kernel
theorem dX9_readNumber_74 : decode cX9_readNumber 74 = .ok (.invokevirtual 73, 3) := by decide +kernel
theorem dX9_readNumber_77 : decode cX9_readNumber 77 = .ok (.bipush 48, 2) := by decide +kernel
theorem dX9_readNumber_79 : decode cX9_readNumber 79 = .ok (.if_icmp .ne 20, 3) := by decide +kernel
theorem dX9_readNumber_82 : decode cX9_readNumber 82 = .ok (.aload_n 0, 1) := by decide +kernel
theorem dX9_readNumber_83 : decode cX9_readNumber 83 = .ok (.getfield 25, 3) := by decide +kernel
theorem dX9_readNumber_86 : decode cX9_readNumber 86 = .ok (.aload_n 0, 1) := by decide +kernel
theorem dX9_readNumber_87 : decode cX9_readNumber 87 = .ok (.getfield 47, 3) := by decide +kernel
theorem dX9_readNumber_90 : decode cX9_readNumber 90 = .ok (.iconst 1, 1) := by decide +kernel
theorem dX9_readNumber_91 : decode cX9_readNumber 91 = .ok (.iadd, 1) := by decide +kernel
theorem dX9_readNumber_92 : decode cX9_readNumber 92 = .ok (.if_icmp .le 7, 3) := by decide +kernel
theorem dX9_readNumber_95 : decode cX9_readNumber 95 = .ok (.iconst 1, 1) := by decide +kernel
theorem dX9_readNumber_96 : decode cX9_readNumber 96 = .ok (.goto 4, 3) := by decide +kernel
theorem dX9_readNumber_99 : decode cX9_readNumber 99 = .ok (.iconst 0, 1) := by decide +kernel
theorem dX9_readNumber_100 : decode cX9_readNumber 100 = .ok (.istore_n 1, 1) := by decide +kernel
theorem dX9_readNumber_101 : decode cX9_readNumber 101 = .ok (.iload_n 1, 1) := by decide +kernel
theorem dX9_readNumber_102 : decode cX9_readNumber 102 = .ok (.ifCond .eq 10, 3) := by decide +kernel
theorem dX9_readNumber_105 : decode cX9_readNumber 105 = .ok (.aload_n 0, 1) := by decide +kernel
theorem dX9_readNumber_106 : decode cX9_readNumber 106 = .ok (.sipush 1000, 3) := by decide +kernel
theorem dX9_readNumber_109 : decode cX9_readNumber 109 = .ok (.putfield 60, 3) := by decide +kernel
theorem dX9_readNumber_112 : decode cX9_readNumber 112 = .ok (.return_, 1) := by decide +kernel
theorem dX9_isDigit_0 : decode cX9_isDigit 0 = .ok (.iload_n 1, 1) := by decide +kernel
theorem dX9_isDigit_1 : decode cX9_isDigit 1 = .ok (.aload_n 0, 1) := by decide +kernel
theorem dX9_isDigit_2 : decode cX9_isDigit 2 = .ok (.getfield 15, 3) := by decide +kernel
theorem dX9_isDigit_5 : decode cX9_isDigit 5 = .ok (.if_icmp .ge 27, 3) := by decide +kernel
theorem dX9_isDigit_8 : decode cX9_isDigit 8 = .ok (.aload_n 0, 1) := by decide +kernel
theorem dX9_isDigit_9 : decode cX9_isDigit 9 = .ok (.iload_n 1, 1) := by decide +kernel
theorem dX9_isDigit_10 : decode cX9_isDigit 10 = .ok (.invokevirtual 73, 3) := by decide +kernel
theorem dX9_isDigit_13 : decode cX9_isDigit 13 = .ok (.bipush 48, 2) := by decide +kernel
theorem dX9_isDigit_15 : decode cX9_isDigit 15 = .ok (.if_icmp .lt 17, 3) := by decide +kernel
theorem dX9_isDigit_18 : decode cX9_isDigit 18 = .ok (.aload_n 0, 1) := by decide +kernel
theorem dX9_isDigit_19 : decode cX9_isDigit 19 = .ok (.iload_n 1, 1) := by decide +kernel
theorem dX9_isDigit_20 : decode cX9_isDigit 20 = .ok (.invokevirtual 73, 3) := by decide +kernel
theorem dX9_isDigit_23 : decode cX9_isDigit 23 = .ok (.bipush 57, 2) := by decide +kernel
theorem dX9_isDigit_25 : decode cX9_isDigit 25 = .ok (.if_icmp .gt 7, 3) := by decide +kernel
theorem dX9_isDigit_28 : decode cX9_isDigit 28 = .ok (.iconst 1, 1) := by decide +kernel
theorem dX9_isDigit_29 : decode cX9_isDigit 29 = .ok (.goto 4, 3) := by decide +kernel
theorem dX9_isDigit_32 : decode cX9_isDigit 32 = .ok (.iconst 0, 1) := by decide +kernel
theorem dX9_isDigit_33 : decode cX9_isDigit 33 = .ok (.ireturn, 1) := by decide +kernel
theorem dX9_byteAt_0 : decode cX9_byteAt 0 = .ok (.iload_n 1, 1) := by decide +kernel
theorem dX9_byteAt_1 : decode cX9_byteAt 1 = .ok (.ifCond .lt 18, 3) := by decide +kernel
theorem dX9_byteAt_4 : decode cX9_byteAt 4 = .ok (.iload_n 1, 1) := by decide +kernel
theorem dX9_byteAt_5 : decode cX9_byteAt 5 = .ok (.bipush 100, 2) := by decide +kernel
theorem dX9_byteAt_7 : decode cX9_byteAt 7 = .ok (.if_icmp .ge 12, 3) := by decide +kernel
theorem dX9_byteAt_10 : decode cX9_byteAt 10 = .ok (.aload_n 0, 1) := by decide +kernel
theorem dX9_byteAt_11 : decode cX9_byteAt 11 = .ok (.getfield 9, 3) := by decide +kernel
theorem dX9_byteAt_14 : decode cX9_byteAt 14 = .ok (.iload_n 1, 1) := by decide +kernel
theorem dX9_byteAt_15 : decode cX9_byteAt 15 = .ok (.iaload, 1) := by decide +kernel
theorem dX9_byteAt_16 : decode cX9_byteAt 16 = .ok (.goto 4, 3) := by decide +kernel
theorem dX9_byteAt_19 : decode cX9_byteAt 19 = .ok (.iconst 0, 1) := by decide +kernel
theorem dX9_byteAt_20 : decode cX9_byteAt 20 = .ok (.ireturn, 1) := by decide +kernel
theorem dJ6_bitCount_0f7a4_0 : decode cJ6_bitCount_0f7a4 0 = .ok (.iload_n 0, 1) := by decide +kernel
theorem dJ6_bitCount_0f7a4_1 : decode cJ6_bitCount_0f7a4 1 = .ok (.iload_n 0, 1) := by decide +kernel
theorem dJ6_bitCount_0f7a4_2 : decode cJ6_bitCount_0f7a4 2 = .ok (.iconst 1, 1) := by decide +kernel
theorem dJ6_bitCount_0f7a4_3 : decode cJ6_bitCount_0f7a4 3 = .ok (.iushr, 1) := by decide +kernel
theorem dJ6_bitCount_0f7a4_4 : decode cJ6_bitCount_0f7a4 4 = .ok (.ldc_w 265, 3) := by decide +kernel
theorem dJ6_bitCount_0f7a4_7 : decode cJ6_bitCount_0f7a4 7 = .ok (.iand, 1) := by decide +kernel
theorem dJ6_bitCount_0f7a4_8 : decode cJ6_bitCount_0f7a4 8 = .ok (.isub, 1) := by decide +kernel
theorem dJ6_bitCount_0f7a4_9 : decode cJ6_bitCount_0f7a4 9 = .ok (.istore_n 0, 1) := by decide +kernel
theorem dJ6_bitCount_0f7a4_10 : decode cJ6_bitCount_0f7a4 10 = .ok (.iload_n 0, 1) := by decide +kernel
theorem dJ6_bitCount_0f7a4_11 : decode cJ6_bitCount_0f7a4 11 = .ok (.ldc_w 266, 3) := by decide +kernel
theorem dJ6_bitCount_0f7a4_14 : decode cJ6_bitCount_0f7a4 14 = .ok (.iand, 1) := by decide +kernel
theorem dJ6_bitCount_0f7a4_15 : decode cJ6_bitCount_0f7a4 15 = .ok (.iload_n 0, 1) := by decide +kernel
theorem dJ6_bitCount_0f7a4_16 : decode cJ6_bitCount_0f7a4 16 = .ok (.iconst 2, 1) := by decide +kernel
theorem dJ6_bitCount_0f7a4_17 : decode cJ6_bitCount_0f7a4 17 = .ok (.iushr, 1) := by decide +kernel
theorem dJ6_bitCount_0f7a4_18 : decode cJ6_bitCount_0f7a4 18 = .ok (.ldc_w 266, 3) := by decide +kernel
theorem dJ6_bitCount_0f7a4_21 : decode cJ6_bitCount_0f7a4 21 = .ok (.iand, 1) := by decide +kernel
theorem dJ6_bitCount_0f7a4_22 : decode cJ6_bitCount_0f7a4 22 = .ok (.iadd, 1) := by decide +kernel
theorem dJ6_bitCount_0f7a4_23 : decode cJ6_bitCount_0f7a4 23 = .ok (.istore_n 0, 1) := by decide +kernel
theorem dJ6_bitCount_0f7a4_24 : decode cJ6_bitCount_0f7a4 24 = .ok (.iload_n 0, 1) := by decide +kernel
theorem dJ6_bitCount_0f7a4_25 : decode cJ6_bitCount_0f7a4 25 = .ok (.iload_n 0, 1) := by decide +kernel
theorem dJ6_bitCount_0f7a4_26 : decode cJ6_bitCount_0f7a4 26 = .ok (.iconst 4, 1) := by decide +kernel
theorem dJ6_bitCount_0f7a4_27 : decode cJ6_bitCount_0f7a4 27 = .ok (.iushr, 1) := by decide +kernel
theorem dJ6_bitCount_0f7a4_28 : decode cJ6_bitCount_0f7a4 28 = .ok (.iadd, 1) := by decide +kernel
theorem dJ6_bitCount_0f7a4_29 : decode cJ6_bitCount_0f7a4 29 = .ok (.ldc_w 267, 3) := by decide +kernel
theorem dJ6_bitCount_0f7a4_32 : decode cJ6_bitCount_0f7a4 32 = .ok (.iand, 1) := by decide +kernel
theorem dJ6_bitCount_0f7a4_33 : decode cJ6_bitCount_0f7a4 33 = .ok (.istore_n 0, 1) := by decide +kernel
theorem dJ6_bitCount_0f7a4_34 : decode cJ6_bitCount_0f7a4 34 = .ok (.iload_n 0, 1) := by decide +kernel
theorem dJ6_bitCount_0f7a4_35 : decode cJ6_bitCount_0f7a4 35 = .ok (.iload_n 0, 1) := by decide +kernel
theorem dJ6_bitCount_0f7a4_36 : decode cJ6_bitCount_0f7a4 36 = .ok (.bipush 8, 2) := by decide +kernel
theorem dJ6_bitCount_0f7a4_38 : decode cJ6_bitCount_0f7a4 38 = .ok (.iushr, 1) := by decide +kernel
theorem dJ6_bitCount_0f7a4_39 : decode cJ6_bitCount_0f7a4 39 = .ok (.iadd, 1) := by decide +kernel
theorem dJ6_bitCount_0f7a4_40 : decode cJ6_bitCount_0f7a4 40 = .ok (.istore_n 0, 1) := by decide +kernel
theorem dJ6_bitCount_0f7a4_41 : decode cJ6_bitCount_0f7a4 41 = .ok (.iload_n 0, 1) := by decide +kernel
theorem dJ6_bitCount_0f7a4_42 : decode cJ6_bitCount_0f7a4 42 = .ok (.iload_n 0, 1) := by decide +kernel
theorem dJ6_bitCount_0f7a4_43 : decode cJ6_bitCount_0f7a4 43 = .ok (.bipush 16, 2) := by decide +kernel
theorem dJ6_bitCount_0f7a4_45 : decode cJ6_bitCount_0f7a4 45 = .ok (.iushr, 1) := by decide +kernel
theorem dJ6_bitCount_0f7a4_46 : decode cJ6_bitCount_0f7a4 46 = .ok (.iadd, 1) := by decide +kernel
theorem dJ6_bitCount_0f7a4_47 : decode cJ6_bitCount_0f7a4 47 = .ok (.istore_n 0, 1) := by decide +kernel
theorem dJ6_bitCount_0f7a4_48 : decode cJ6_bitCount_0f7a4 48 = .ok (.iload_n 0, 1) := by decide +kernel
theorem dJ6_bitCount_0f7a4_49 : decode cJ6_bitCount_0f7a4 49 = .ok (.bipush 63, 2) := by decide +kernel
theorem dJ6_bitCount_0f7a4_51 : decode cJ6_bitCount_0f7a4 51 = .ok (.iand, 1) := by decide +kernel
theorem dJ6_bitCount_0f7a4_52 : decode cJ6_bitCount_0f7a4 52 = .ok (.ireturn, 1) := by decide +kernel
theorem dJ13_signum_95d88_0 : decode cJ13_signum_95d88 0 = .ok (.lload_n 0, 1) := by decide +kernel
theorem dJ13_signum_95d88_1 : decode cJ13_signum_95d88 1 = .ok (.bipush 63, 2) := by decide +kernel
theorem dJ13_signum_95d88_3 : decode cJ13_signum_95d88 3 = .ok (.lshr, 1) := by decide +kernel
theorem dJ13_signum_95d88_4 : decode cJ13_signum_95d88 4 = .ok (.lload_n 0, 1) := by decide +kernel
theorem dJ13_signum_95d88_5 : decode cJ13_signum_95d88 5 = .ok (.lneg, 1) := by decide +kernel
theorem dJ13_signum_95d88_6 : decode cJ13_signum_95d88 6 = .ok (.bipush 63, 2) := by decide +kernel
theorem dJ13_signum_95d88_8 : decode cJ13_signum_95d88 8 = .ok (.lushr, 1) := by decide +kernel
theorem dJ13_signum_95d88_9 : decode cJ13_signum_95d88 9 = .ok (.lor, 1) := by decide +kernel
theorem dJ13_signum_95d88_10 : decode cJ13_signum_95d88 10 = .ok (.l2i, 1) := by decide +kernel
theorem dJ13_signum_95d88_11 : decode cJ13_signum_95d88 11 = .ok (.ireturn, 1) := by decide +kernel
theorem dJ9_floorDiv_f86c9_0 : decode cJ9_floorDiv_f86c9 0 = .ok (.lload_n 0, 1) := by decide +kernel
theorem dJ9_floorDiv_f86c9_1 : decode cJ9_floorDiv_f86c9 1 = .ok (.lload_n 2, 1) := by decide +kernel
theorem dJ9_floorDiv_f86c9_2 : decode cJ9_floorDiv_f86c9 2 = .ok (.ldiv, 1) := by decide +kernel
theorem dJ9_floorDiv_f86c9_3 : decode cJ9_floorDiv_f86c9 3 = .ok (.lstore 4, 2) := by decide +kernel
theorem dJ9_floorDiv_f86c9_5 : decode cJ9_floorDiv_f86c9 5 = .ok (.lload_n 0, 1) := by decide +kernel
theorem dJ9_floorDiv_f86c9_6 : decode cJ9_floorDiv_f86c9 6 = .ok (.lload_n 2, 1) := by decide +kernel
theorem dJ9_floorDiv_f86c9_7 : decode cJ9_floorDiv_f86c9 7 = .ok (.lxor, 1) := by decide +kernel
theorem dJ9_floorDiv_f86c9_8 : decode cJ9_floorDiv_f86c9 8 = .ok (.lconst 0, 1) := by decide +kernel
theorem dJ9_floorDiv_f86c9_9 : decode cJ9_floorDiv_f86c9 9 = .ok (.lcmp, 1) := by decide +kernel
theorem dJ9_floorDiv_f86c9_10 : decode cJ9_floorDiv_f86c9 10 = .ok (.ifCond .ge 17, 3) := by decide +kernel
theorem dJ9_floorDiv_f86c9_13 : decode cJ9_floorDiv_f86c9 13 = .ok (.lload 4, 2) := by decide +kernel
theorem dJ9_floorDiv_f86c9_15 : decode cJ9_floorDiv_f86c9 15 = .ok (.lload_n 2, 1) := by decide +kernel
theorem dJ9_floorDiv_f86c9_16 : decode cJ9_floorDiv_f86c9 16 = .ok (.lmul, 1) := by decide +kernel
theorem dJ9_floorDiv_f86c9_17 : decode cJ9_floorDiv_f86c9 17 = .ok (.lload_n 0, 1) := by decide +kernel
theorem dJ9_floorDiv_f86c9_18 : decode cJ9_floorDiv_f86c9 18 = .ok (.lcmp, 1) := by decide +kernel
theorem dJ9_floorDiv_f86c9_19 : decode cJ9_floorDiv_f86c9 19 = .ok (.ifCond .eq 8, 3) := by decide +kernel
theorem dJ9_floorDiv_f86c9_22 : decode cJ9_floorDiv_f86c9 22 = .ok (.lload 4, 2) := by decide +kernel
theorem dJ9_floorDiv_f86c9_24 : decode cJ9_floorDiv_f86c9 24 = .ok (.lconst 1, 1) := by decide +kernel
theorem dJ9_floorDiv_f86c9_25 : decode cJ9_floorDiv_f86c9 25 = .ok (.lsub, 1) := by decide +kernel
theorem dJ9_floorDiv_f86c9_26 : decode cJ9_floorDiv_f86c9 26 = .ok (.lreturn, 1) := by decide +kernel
theorem dJ9_floorDiv_f86c9_27 : decode cJ9_floorDiv_f86c9 27 = .ok (.lload 4, 2) := by decide +kernel
theorem dJ9_floorDiv_f86c9_29 : decode cJ9_floorDiv_f86c9 29 = .ok (.lreturn, 1) := by decide +kernel
theorem dJ9_floorMod_7cf53_0 : decode cJ9_floorMod_7cf53 0 = .ok (.iload_n 0, 1) := by decide +kernel
theorem dJ9_floorMod_7cf53_1 : decode cJ9_floorMod_7cf53 1 = .ok (.iload_n 1, 1) := by decide +kernel
theorem dJ9_floorMod_7cf53_2 : decode cJ9_floorMod_7cf53 2 = .ok (.irem, 1) := by decide +kernel
theorem dJ9_floorMod_7cf53_3 : decode cJ9_floorMod_7cf53 3 = .ok (.istore_n 2, 1) := by decide +kernel
theorem dJ9_floorMod_7cf53_4 : decode cJ9_floorMod_7cf53 4 = .ok (.iload_n 0, 1) := by decide +kernel
theorem dJ9_floorMod_7cf53_5 : decode cJ9_floorMod_7cf53 5 = .ok (.iload_n 1, 1) := by decide +kernel
theorem dJ9_floorMod_7cf53_6 : decode cJ9_floorMod_7cf53 6 = .ok (.ixor, 1) := by decide +kernel
theorem dJ9_floorMod_7cf53_7 : decode cJ9_floorMod_7cf53 7 = .ok (.ifCond .ge 11, 3) := by decide +kernel
theorem dJ9_floorMod_7cf53_10 : decode cJ9_floorMod_7cf53 10 = .ok (.iload_n 2, 1) := by decide +kernel
theorem dJ9_floorMod_7cf53_11 : decode cJ9_floorMod_7cf53 11 = .ok (.ifCond .eq 7, 3) := by decide +kernel
theorem dJ9_floorMod_7cf53_14 : decode cJ9_floorMod_7cf53 14 = .ok (.iload_n 2, 1) := by decide +kernel
theorem dJ9_floorMod_7cf53_15 : decode cJ9_floorMod_7cf53 15 = .ok (.iload_n 1, 1) := by decide +kernel
theorem dJ9_floorMod_7cf53_16 : decode cJ9_floorMod_7cf53 16 = .ok (.iadd, 1) := by decide +kernel
theorem dJ9_floorMod_7cf53_17 : decode cJ9_floorMod_7cf53 17 = .ok (.ireturn, 1) := by decide +kernel
theorem dJ9_floorMod_7cf53_18 : decode cJ9_floorMod_7cf53 18 = .ok (.iload_n 2, 1) := by decide +kernel
theorem dJ9_floorMod_7cf53_19 : decode cJ9_floorMod_7cf53 19 = .ok (.ireturn, 1) := by decide +kernel
theorem dJ9_floorMod_f86c9_0 : decode cJ9_floorMod_f86c9 0 = .ok (.lload_n 0, 1) := by decide +kernel
theorem dJ9_floorMod_f86c9_1 : decode cJ9_floorMod_f86c9 1 = .ok (.lload_n 2, 1) := by decide +kernel
theorem dJ9_floorMod_f86c9_2 : decode cJ9_floorMod_f86c9 2 = .ok (.lrem, 1) := by decide +kernel
theorem dJ9_floorMod_f86c9_3 : decode cJ9_floorMod_f86c9 3 = .ok (.lstore 4, 2) := by decide +kernel
theorem dJ9_floorMod_f86c9_5 : decode cJ9_floorMod_f86c9 5 = .ok (.lload_n 0, 1) := by decide +kernel
theorem dJ9_floorMod_f86c9_6 : decode cJ9_floorMod_f86c9 6 = .ok (.lload_n 2, 1) := by decide +kernel
theorem dJ9_floorMod_f86c9_7 : decode cJ9_floorMod_f86c9 7 = .ok (.lxor, 1) := by decide +kernel
theorem dJ9_floorMod_f86c9_8 : decode cJ9_floorMod_f86c9 8 = .ok (.lconst 0, 1) := by decide +kernel
theorem dJ9_floorMod_f86c9_9 : decode cJ9_floorMod_f86c9 9 = .ok (.lcmp, 1) := by decide +kernel
theorem dJ9_floorMod_f86c9_10 : decode cJ9_floorMod_f86c9 10 = .ok (.ifCond .ge 15, 3) := by decide +kernel
theorem dJ9_floorMod_f86c9_13 : decode cJ9_floorMod_f86c9 13 = .ok (.lload 4, 2) := by decide +kernel
theorem dJ9_floorMod_f86c9_15 : decode cJ9_floorMod_f86c9 15 = .ok (.lconst 0, 1) := by decide +kernel
theorem dJ9_floorMod_f86c9_16 : decode cJ9_floorMod_f86c9 16 = .ok (.lcmp, 1) := by decide +kernel
theorem dJ9_floorMod_f86c9_17 : decode cJ9_floorMod_f86c9 17 = .ok (.ifCond .eq 8, 3) := by decide +kernel
theorem dJ9_floorMod_f86c9_20 : decode cJ9_floorMod_f86c9 20 = .ok (.lload 4, 2) := by decide +kernel
theorem dJ9_floorMod_f86c9_22 : decode cJ9_floorMod_f86c9 22 = .ok (.lload_n 2, 1) := by decide +kernel
theorem dJ9_floorMod_f86c9_23 : decode cJ9_floorMod_f86c9 23 = .ok (.ladd, 1) := by decide +kernel
theorem dJ9_floorMod_f86c9_24 : decode cJ9_floorMod_f86c9 24 = .ok (.lreturn, 1) := by decide +kernel
theorem dJ9_floorMod_f86c9_25 : decode cJ9_floorMod_f86c9 25 = .ok (.lload 4, 2) := by decide +kernel
theorem dJ9_floorMod_f86c9_27 : decode cJ9_floorMod_f86c9 27 = .ok (.lreturn, 1) := by decide +kernel
theorem dJ9_abs_0f7a4_0 : decode cJ9_abs_0f7a4 0 = .ok (.iload_n 0, 1) := by decide +kernel
theorem dJ9_abs_0f7a4_1 : decode cJ9_abs_0f7a4 1 = .ok (.ifCond .ge 8, 3) := by decide +kernel
theorem dJ9_abs_0f7a4_4 : decode cJ9_abs_0f7a4 4 = .ok (.iload_n 0, 1) := by decide +kernel
theorem dJ9_abs_0f7a4_5 : decode cJ9_abs_0f7a4 5 = .ok (.ineg, 1) := by decide +kernel
theorem dJ9_abs_0f7a4_6 : decode cJ9_abs_0f7a4 6 = .ok (.goto 4, 3) := by decide +kernel
theorem dJ9_abs_0f7a4_9 : decode cJ9_abs_0f7a4 9 = .ok (.iload_n 0, 1) := by decide +kernel
theorem dJ9_abs_0f7a4_10 : decode cJ9_abs_0f7a4 10 = .ok (.ireturn, 1) := by decide +kernel
theorem dJ9_abs_067f4_0 : decode cJ9_abs_067f4 0 = .ok (.lload_n 0, 1) := by decide +kernel
theorem dJ9_abs_067f4_1 : decode cJ9_abs_067f4 1 = .ok (.lconst 0, 1) := by decide +kernel
theorem dJ9_abs_067f4_2 : decode cJ9_abs_067f4 2 = .ok (.lcmp, 1) := by decide +kernel
theorem dJ9_abs_067f4_3 : decode cJ9_abs_067f4 3 = .ok (.ifCond .ge 8, 3) := by decide +kernel
theorem dJ9_abs_067f4_6 : decode cJ9_abs_067f4 6 = .ok (.lload_n 0, 1) := by decide +kernel
theorem dJ9_abs_067f4_7 : decode cJ9_abs_067f4 7 = .ok (.lneg, 1) := by decide +kernel
theorem dJ9_abs_067f4_8 : decode cJ9_abs_067f4 8 = .ok (.goto 4, 3) := by decide +kernel
theorem dJ9_abs_067f4_11 : decode cJ9_abs_067f4 11 = .ok (.lload_n 0, 1) := by decide +kernel
theorem dJ9_abs_067f4_12 : decode cJ9_abs_067f4 12 = .ok (.lreturn, 1) := by decide +kernel
theorem dJ9_max_7cf53_0 : decode cJ9_max_7cf53 0 = .ok (.iload_n 0, 1) := by decide +kernel
theorem dJ9_max_7cf53_1 : decode cJ9_max_7cf53 1 = .ok (.iload_n 1, 1) := by decide +kernel
theorem dJ9_max_7cf53_2 : decode cJ9_max_7cf53 2 = .ok (.if_icmp .lt 7, 3) := by decide +kernel
theorem dJ9_max_7cf53_5 : decode cJ9_max_7cf53 5 = .ok (.iload_n 0, 1) := by decide +kernel
theorem dJ9_max_7cf53_6 : decode cJ9_max_7cf53 6 = .ok (.goto 4, 3) := by decide +kernel
theorem dJ9_max_7cf53_9 : decode cJ9_max_7cf53 9 = .ok (.iload_n 1, 1) := by decide +kernel
theorem dJ9_max_7cf53_10 : decode cJ9_max_7cf53 10 = .ok (.ireturn, 1) := by decide +kernel
theorem dJ9_min_7cf53_0 : decode cJ9_min_7cf53 0 = .ok (.iload_n 0, 1) := by decide +kernel
theorem dJ9_min_7cf53_1 : decode cJ9_min_7cf53 1 = .ok (.iload_n 1, 1) := by decide +kernel
theorem dJ9_min_7cf53_2 : decode cJ9_min_7cf53 2 = .ok (.if_icmp .gt 7, 3) := by decide +kernel
theorem dJ9_min_7cf53_5 : decode cJ9_min_7cf53 5 = .ok (.iload_n 0, 1) := by decide +kernel
theorem dJ9_min_7cf53_6 : decode cJ9_min_7cf53 6 = .ok (.goto 4, 3) := by decide +kernel
theorem dJ9_min_7cf53_9 : decode cJ9_min_7cf53 9 = .ok (.iload_n 1, 1) := by decide +kernel
theorem dJ9_min_7cf53_10 : decode cJ9_min_7cf53 10 = .ok (.ireturn, 1) := by decide +kernel
theorem dJ9_min_f86c9_0 : decode cJ9_min_f86c9 0 = .ok (.lload_n 0, 1) := by decide +kernel
theorem dJ9_min_f86c9_1 : decode cJ9_min_f86c9 1 = .ok (.lload_n 2, 1) := by decide +kernel
theorem dJ9_min_f86c9_2 : decode cJ9_min_f86c9 2 = .ok (.lcmp, 1) := by decide +kernel
theorem dJ9_min_f86c9_3 : decode cJ9_min_f86c9 3 = .ok (.ifCond .gt 7, 3) := by decide +kernel
theorem dJ9_min_f86c9_6 : decode cJ9_min_f86c9 6 = .ok (.lload_n 0, 1) := by decide +kernel
theorem dJ9_min_f86c9_7 : decode cJ9_min_f86c9 7 = .ok (.goto 4, 3) := by decide +kernel
theorem dJ9_min_f86c9_10 : decode cJ9_min_f86c9 10 = .ok (.lload_n 2, 1) := by decide +kernel
theorem dJ9_min_f86c9_11 : decode cJ9_min_f86c9 11 = .ok (.lreturn, 1) := by decide +kernel
theorem dJ7_fill_d0a16_0 : decode cJ7_fill_d0a16 0 = .ok (.iconst 0, 1) := by decide +kernel
theorem dJ7_fill_d0a16_1 : decode cJ7_fill_d0a16 1 = .ok (.istore_n 3, 1) := by decide +kernel
theorem dJ7_fill_d0a16_2 : decode cJ7_fill_d0a16 2 = .ok (.aload_n 0, 1) := by decide +kernel
theorem dJ7_fill_d0a16_3 : decode cJ7_fill_d0a16 3 = .ok (.arraylength, 1) := by decide +kernel
theorem dJ7_fill_d0a16_4 : decode cJ7_fill_d0a16 4 = .ok (.istore 4, 2) := by decide +kernel
theorem dJ7_fill_d0a16_6 : decode cJ7_fill_d0a16 6 = .ok (.iload_n 3, 1) := by decide +kernel
theorem dJ7_fill_d0a16_7 : decode cJ7_fill_d0a16 7 = .ok (.iload 4, 2) := by decide +kernel
theorem dJ7_fill_d0a16_9 : decode cJ7_fill_d0a16 9 = .ok (.if_icmp .ge 13, 3) := by decide +kernel
theorem dJ7_fill_d0a16_12 : decode cJ7_fill_d0a16 12 = .ok (.aload_n 0, 1) := by decide +kernel
theorem dJ7_fill_d0a16_13 : decode cJ7_fill_d0a16 13 = .ok (.iload_n 3, 1) := by decide +kernel
theorem dJ7_fill_d0a16_14 : decode cJ7_fill_d0a16 14 = .ok (.lload_n 1, 1) := by decide +kernel
theorem dJ7_fill_d0a16_15 : decode cJ7_fill_d0a16 15 = .ok (.lastore, 1) := by decide +kernel
theorem dJ7_fill_d0a16_16 : decode cJ7_fill_d0a16 16 = .ok (.iinc 3 1, 3) := by decide +kernel
theorem dJ7_fill_d0a16_19 : decode cJ7_fill_d0a16 19 = .ok (.goto (-13), 3) := by decide +kernel
theorem dJ7_fill_d0a16_22 : decode cJ7_fill_d0a16 22 = .ok (.return_, 1) := by decide +kernel
end
section
theorem dX10_init_0 : decode cX10_init 0 = .ok (.aload_n 0, 1) := by decide +kernel
theorem dX10_init_1 : decode cX10_init 1 = .ok (.invokespecial 1, 3) := by decide +kernel
theorem dX10_init_4 : decode cX10_init 4 = .ok (.aload_n 0, 1) := by decide +kernel
theorem dX10_init_5 : decode cX10_init 5 = .ok (.new 7, 3) := by decide +kernel
theorem dX10_init_8 : decode cX10_init 8 = .ok (.dup, 1) := by decide +kernel
theorem dX10_init_9 : decode cX10_init 9 = .ok (.invokespecial 9, 3) := by decide +kernel
theorem dX10_init_12 : decode cX10_init 12 = .ok (.putfield 10, 3) := by decide +kernel
theorem dX10_init_15 : decode cX10_init 15 = .ok (.aload_n 0, 1) := by decide +kernel
theorem dX10_init_16 : decode cX10_init 16 = .ok (.new 16, 3) := by decide +kernel
theorem dX10_init_19 : decode cX10_init 19 = .ok (.dup, 1) := by decide +kernel
theorem dX10_init_20 : decode cX10_init 20 = .ok (.invokespecial 18, 3) := by decide +kernel
theorem dX10_init_23 : decode cX10_init 23 = .ok (.putfield 19, 3) := by decide +kernel
theorem dX10_init_26 : decode cX10_init 26 = .ok (.aload_n 0, 1) := by decide +kernel
theorem dX10_init_27 : decode cX10_init 27 = .ok (.iconst 2, 1) := by decide +kernel
theorem dX10_init_28 : decode cX10_init 28 = .ok (.anewarray 7, 3) := by decide +kernel
theorem dX10_init_31 : decode cX10_init 31 = .ok (.putfield 23, 3) := by decide +kernel
theorem dX10_init_34 : decode cX10_init 34 = .ok (.aload_n 0, 1) := by decide +kernel
theorem dX10_init_35 : decode cX10_init 35 = .ok (.iconst 2, 1) := by decide +kernel
theorem dX10_init_36 : decode cX10_init 36 = .ok (.newarray .boolean, 2) := by decide +kernel
theorem dX10_init_38 : decode cX10_init 38 = .ok (.putfield 27, 3) := by decide +kernel
theorem dX10_init_41 : decode cX10_init 41 = .ok (.aload_n 0, 1) := by decide +kernel
theorem dX10_init_42 : decode cX10_init 42 = .ok (.new 31, 3) := by decide +kernel
theorem dX10_init_45 : decode cX10_init 45 = .ok (.dup, 1) := by decide +kernel
theorem dX10_init_46 : decode cX10_init 46 = .ok (.invokespecial 33, 3) := by decide +kernel
theorem dX10_init_49 : decode cX10_init 49 = .ok (.putfield 34, 3) := by decide +kernel
theorem dX10_init_52 : decode cX10_init 52 = .ok (.aload_n 0, 1) := by decide +kernel
theorem dX10_init_53 : decode cX10_init 53 = .ok (.new 38, 3) := by decide +kernel
theorem dX10_init_56 : decode cX10_init 56 = .ok (.dup, 1) := by decide +kernel
theorem dX10_init_57 : decode cX10_init 57 = .ok (.invokespecial 40, 3) := by decide +kernel
theorem dX10_init_60 : decode cX10_init 60 = .ok (.putfield 41, 3) := by decide +kernel
theorem dX10_init_63 : decode cX10_init 63 = .ok (.aload_n 0, 1) := by decide +kernel
theorem dX10_init_64 : decode cX10_init 64 = .ok (.new 45, 3) := by decide +kernel
theorem dX10_init_67 : decode cX10_init 67 = .ok (.dup, 1) := by decide +kernel
theorem dX10_init_68 : decode cX10_init 68 = .ok (.invokespecial 47, 3) := by decide +kernel
theorem dX10_init_71 : decode cX10_init 71 = .ok (.putfield 48, 3) := by decide +kernel
theorem dX10_init_74 : decode cX10_init 74 = .ok (.aload_n 0, 1) := by decide +kernel
theorem dX10_init_75 : decode cX10_init 75 = .ok (.new 52, 3) := by decide +kernel
theorem dX10_init_78 : decode cX10_init 78 = .ok (.dup, 1) := by decide +kernel
theorem dX10_init_79 : decode cX10_init 79 = .ok (.invokespecial 54, 3) := by decide +kernel
theorem dX10_init_82 : decode cX10_init 82 = .ok (.putfield 55, 3) := by decide +kernel
theorem dX10_init_85 : decode cX10_init 85 = .ok (.aload_n 0, 1) := by decide +kernel
theorem dX10_init_86 : decode cX10_init 86 = .ok (.new 59, 3) := by decide +kernel
theorem dX10_init_89 : decode cX10_init 89 = .ok (.dup, 1) := by decide +kernel
theorem dX10_init_90 : decode cX10_init 90 = .ok (.invokespecial 61, 3) := by decide +kernel
theorem dX10_init_93 : decode cX10_init 93 = .ok (.putfield 62, 3) := by decide +kernel
theorem dX10_init_96 : decode cX10_init 96 = .ok (.aload_n 0, 1) := by decide +kernel
theorem dX10_init_97 : decode cX10_init 97 = .ok (.new 66, 3) := by decide +kernel
theorem dX10_init_100 : decode cX10_init 100 = .ok (.dup, 1) := by decide +kernel
theorem dX10_init_101 : decode cX10_init 101 = .ok (.invokespecial 68, 3) := by decide +kernel
theorem dX10_init_104 : decode cX10_init 104 = .ok (.putfield 69, 3) := by decide +kernel
theorem dX10_init_107 : decode cX10_init 107 = .ok (.aload_n 0, 1) := by decide +kernel
theorem dX10_init_108 : decode cX10_init 108 = .ok (.new 73, 3) := by decide +kernel
theorem dX10_init_111 : decode cX10_init 111 = .ok (.dup, 1) := by decide +kernel
theorem dX10_init_112 : decode cX10_init 112 = .ok (.invokespecial 75, 3) := by decide +kernel
theorem dX10_init_115 : decode cX10_init 115 = .ok (.putfield 76, 3) := by decide +kernel
theorem dX10_init_118 : decode cX10_init 118 = .ok (.aload_n 0, 1) := by decide +kernel
theorem dX10_init_119 : decode cX10_init 119 = .ok (.bipush 6, 2) := by decide +kernel
theorem dX10_init_121 : decode cX10_init 121 = .ok (.newarray .long, 2) := by decide +kernel
theorem dX10_init_123 : decode cX10_init 123 = .ok (.putfield 80, 3) := by decide +kernel
theorem dX10_init_126 : decode cX10_init 126 = .ok (.iconst 0, 1) := by decide +kernel
theorem dX10_init_127 : decode cX10_init 127 = .ok (.istore_n 1, 1) := by decide +kernel
theorem dX10_init_128 : decode cX10_init 128 = .ok (.iload_n 1, 1) := by decide +kernel
theorem dX10_init_129 : decode cX10_init 129 = .ok (.iconst 2, 1) := by decide +kernel
theorem dX10_init_130 : decode cX10_init 130 = .ok (.if_icmp .ge 22, 3) := by decide +kernel
theorem dX10_init_133 : decode cX10_init 133 = .ok (.aload_n 0, 1) := by decide +kernel
theorem dX10_init_134 : decode cX10_init 134 = .ok (.getfield 23, 3) := by decide +kernel
theorem dX10_init_137 : decode cX10_init 137 = .ok (.iload_n 1, 1) := by decide +kernel
theorem dX10_init_138 : decode cX10_init 138 = .ok (.new 7, 3) := by decide +kernel
theorem dX10_init_141 : decode cX10_init 141 = .ok (.dup, 1) := by decide +kernel
theorem dX10_init_142 : decode cX10_init 142 = .ok (.invokespecial 9, 3) := by decide +kernel
theorem dX10_init_145 : decode cX10_init 145 = .ok (.aastore, 1) := by decide +kernel
theorem dX10_init_146 : decode cX10_init 146 = .ok (.iinc 1 1, 3) := by decide +kernel
theorem dX10_init_149 : decode cX10_init 149 = .ok (.goto (-21), 3) := by decide +kernel
theorem dX10_init_152 : decode cX10_init 152 = .ok (.return_, 1) := by decide +kernel
theorem dX10_type_0 : decode cX10_type 0 = .ok (.iload_n 1, 1) := by decide +kernel
theorem dX10_type_1 : decode cX10_type 1 = .ok (.ifCond .lt 10, 3) := by decide +kernel
theorem dX10_type_4 : decode cX10_type 4 = .ok (.iload_n 1, 1) := by decide +kernel
theorem dX10_type_5 : decode cX10_type 5 = .ok (.sipush 255, 3) := by decide +kernel
theorem dX10_type_8 : decode cX10_type 8 = .ok (.if_icmp .le 5, 3) := by decide +kernel
theorem dX10_type_11 : decode cX10_type 11 = .ok (.iconst (-1), 1) := by decide +kernel
theorem dX10_type_12 : decode cX10_type 12 = .ok (.ireturn, 1) := by decide +kernel
theorem dX10_type_13 : decode cX10_type 13 = .ok (.aload_n 0, 1) := by decide +kernel
theorem dX10_type_14 : decode cX10_type 14 = .ok (.getfield 34, 3) := by decide +kernel
theorem dX10_type_17 : decode cX10_type 17 = .ok (.getfield 84, 3) := by decide +kernel
theorem dX10_type_20 : decode cX10_type 20 = .ok (.bipush 100, 2) := by decide +kernel
theorem dX10_type_22 : decode cX10_type 22 = .ok (.if_icmp .lt 6, 3) := by decide +kernel
theorem dX10_type_25 : decode cX10_type 25 = .ok (.bipush (-3), 2) := by decide +kernel
theorem dX10_type_27 : decode cX10_type 27 = .ok (.ireturn, 1) := by decide +kernel
theorem dX10_type_28 : decode cX10_type 28 = .ok (.aload_n 0, 1) := by decide +kernel
theorem dX10_type_29 : decode cX10_type 29 = .ok (.getfield 34, 3) := by decide +kernel
theorem dX10_type_32 : decode cX10_type 32 = .ok (.iload_n 1, 1) := by decide +kernel
theorem dX10_type_33 : decode cX10_type 33 = .ok (.invokevirtual 88, 3) := by decide +kernel
theorem dX10_type_36 : decode cX10_type 36 = .ok (.aload_n 0, 1) := by decide +kernel
theorem dX10_type_37 : decode cX10_type 37 = .ok (.getfield 34, 3) := by decide +kernel
theorem dX10_type_40 : decode cX10_type 40 = .ok (.getfield 84, 3) := by decide +kernel
theorem dX10_type_43 : decode cX10_type 43 = .ok (.ireturn, 1) := by decide +kernel
theorem dX10_clear_0 : decode cX10_clear 0 = .ok (.aload_n 0, 1) := by decide +kernel
theorem dX10_clear_1 : decode cX10_clear 1 = .ok (.getfield 34, 3) := by decide +kernel
theorem dX10_clear_4 : decode cX10_clear 4 = .ok (.getfield 84, 3) := by decide +kernel
theorem dX10_clear_7 : decode cX10_clear 7 = .ok (.istore_n 1, 1) := by decide +kernel
theorem dX10_clear_8 : decode cX10_clear 8 = .ok (.aload_n 0, 1) := by decide +kernel
theorem dX10_clear_9 : decode cX10_clear 9 = .ok (.getfield 34, 3) := by decide +kernel
theorem dX10_clear_12 : decode cX10_clear 12 = .ok (.iconst 0, 1) := by decide +kernel
theorem dX10_clear_13 : decode cX10_clear 13 = .ok (.putfield 84, 3) := by decide +kernel
theorem dX10_clear_16 : decode cX10_clear 16 = .ok (.iload_n 1, 1) := by decide +kernel
theorem dX10_clear_17 : decode cX10_clear 17 = .ok (.ireturn, 1) := by decide +kernel
theorem dX10_tells_0 : decode cX10_tells 0 = .ok (.iload_n 1, 1) := by decide +kernel
theorem dX10_tells_1 : decode cX10_tells 1 = .ok (.invokestatic 92, 3) := by decide +kernel
theorem dX10_tells_4 : decode cX10_tells 4 = .ok (.ifCond .ne 5, 3) := by decide +kernel
theorem dX10_tells_7 : decode cX10_tells 7 = .ok (.iconst (-1), 1) := by decide +kernel
theorem dX10_tells_8 : decode cX10_tells 8 = .ok (.ireturn, 1) := by decide +kernel
theorem dX10_tells_9 : decode cX10_tells 9 = .ok (.aload_n 0, 1) := by decide +kernel
theorem dX10_tells_10 : decode cX10_tells 10 = .ok (.getfield 34, 3) := by decide +kernel
theorem dX10_tells_13 : decode cX10_tells 13 = .ok (.aload_n 0, 1) := by decide +kernel
theorem dX10_tells_14 : decode cX10_tells 14 = .ok (.getfield 48, 3) := by decide +kernel
theorem dX10_tells_17 : decode cX10_tells 17 = .ok (.invokevirtual 96, 3) := by decide +kernel
theorem dX10_tells_20 : decode cX10_tells 20 = .ok (.istore_n 2, 1) := by decide +kernel
theorem dX10_tells_21 : decode cX10_tells 21 = .ok (.iload_n 2, 1) := by decide +kernel
theorem dX10_tells_22 : decode cX10_tells 22 = .ok (.ifCond .ge 5, 3) := by decide +kernel
theorem dX10_tells_25 : decode cX10_tells 25 = .ok (.iload_n 2, 1) := by decide +kernel
theorem dX10_tells_26 : decode cX10_tells 26 = .ok (.ireturn, 1) := by decide +kernel
theorem dX10_tells_27 : decode cX10_tells 27 = .ok (.aload_n 0, 1) := by decide +kernel
theorem dX10_tells_28 : decode cX10_tells 28 = .ok (.iload_n 1, 1) := by decide +kernel
theorem dX10_tells_29 : decode cX10_tells 29 = .ok (.iload_n 2, 1) := by decide +kernel
theorem dX10_tells_30 : decode cX10_tells 30 = .ok (.invokevirtual 100, 3) := by decide +kernel
theorem dX10_tells_33 : decode cX10_tells 33 = .ok (.istore_n 3, 1) := by decide +kernel
theorem dX10_tells_34 : decode cX10_tells 34 = .ok (.iload_n 3, 1) := by decide +kernel
theorem dX10_tells_35 : decode cX10_tells 35 = .ok (.ifCond .lt 11, 3) := by decide +kernel
theorem dX10_tells_38 : decode cX10_tells 38 = .ok (.aload_n 0, 1) := by decide +kernel
theorem dX10_tells_39 : decode cX10_tells 39 = .ok (.getfield 34, 3) := by decide +kernel
theorem dX10_tells_42 : decode cX10_tells 42 = .ok (.iconst 0, 1) := by decide +kernel
theorem dX10_tells_43 : decode cX10_tells 43 = .ok (.putfield 84, 3) := by decide +kernel
theorem dX10_tells_46 : decode cX10_tells 46 = .ok (.iload_n 3, 1) := by decide +kernel
theorem dX10_tells_47 : decode cX10_tells 47 = .ok (.ireturn, 1) := by decide +kernel
theorem dX10_mirrors_0 : decode cX10_mirrors 0 = .ok (.iload_n 1, 1) := by decide +kernel
theorem dX10_mirrors_1 : decode cX10_mirrors 1 = .ok (.invokestatic 92, 3) := by decide +kernel
theorem dX10_mirrors_4 : decode cX10_mirrors 4 = .ok (.ifCond .ne 5, 3) := by decide +kernel
theorem dX10_mirrors_7 : decode cX10_mirrors 7 = .ok (.iconst (-1), 1) := by decide +kernel
theorem dX10_mirrors_8 : decode cX10_mirrors 8 = .ok (.ireturn, 1) := by decide +kernel
theorem dX10_mirrors_9 : decode cX10_mirrors 9 = .ok (.aload_n 0, 1) := by decide +kernel
theorem dX10_mirrors_10 : decode cX10_mirrors 10 = .ok (.getfield 10, 3) := by decide +kernel
theorem dX10_mirrors_13 : decode cX10_mirrors 13 = .ok (.getfield 104, 3) := by decide +kernel
theorem dX10_mirrors_16 : decode cX10_mirrors 16 = .ok (.iload_n 1, 1) := by decide +kernel
theorem dX10_mirrors_17 : decode cX10_mirrors 17 = .ok (.aaload, 1) := by decide +kernel
theorem dX10_mirrors_18 : decode cX10_mirrors 18 = .ok (.astore_n 2, 1) := by decide +kernel
theorem dX10_mirrors_19 : decode cX10_mirrors 19 = .ok (.aload_n 0, 1) := by decide +kernel
theorem dX10_mirrors_20 : decode cX10_mirrors 20 = .ok (.getfield 48, 3) := by decide +kernel
theorem dX10_mirrors_23 : decode cX10_mirrors 23 = .ok (.aload_n 2, 1) := by decide +kernel
theorem dX10_mirrors_24 : decode cX10_mirrors 24 = .ok (.iconst (-1), 1) := by decide +kernel
theorem dX10_mirrors_25 : decode cX10_mirrors 25 = .ok (.invokevirtual 108, 3) := by decide +kernel
theorem dX10_mirrors_28 : decode cX10_mirrors 28 = .ok (.aload_n 0, 1) := by decide +kernel
theorem dX10_mirrors_29 : decode cX10_mirrors 29 = .ok (.iload_n 1, 1) := by decide +kernel
theorem dX10_mirrors_30 : decode cX10_mirrors 30 = .ok (.aload_n 0, 1) := by decide +kernel
theorem dX10_mirrors_31 : decode cX10_mirrors 31 = .ok (.getfield 48, 3) := by decide +kernel
theorem dX10_mirrors_34 : decode cX10_mirrors 34 = .ok (.aload_n 2, 1) := by decide +kernel
theorem dX10_mirrors_35 : decode cX10_mirrors 35 = .ok (.invokevirtual 112, 3) := by decide +kernel
theorem dX10_mirrors_38 : decode cX10_mirrors 38 = .ok (.ifCond .eq 7, 3) := by decide +kernel
theorem dX10_mirrors_41 : decode cX10_mirrors 41 = .ok (.iconst 1, 1) := by decide +kernel
theorem dX10_mirrors_42 : decode cX10_mirrors 42 = .ok (.goto 4, 3) := by decide +kernel
theorem dX10_mirrors_45 : decode cX10_mirrors 45 = .ok (.iconst 0, 1) := by decide +kernel
theorem dX10_mirrors_46 : decode cX10_mirrors 46 = .ok (.invokevirtual 100, 3) := by decide +kernel
theorem dX10_mirrors_49 : decode cX10_mirrors 49 = .ok (.ireturn, 1) := by decide +kernel
theorem dX10_joins_0 : decode cX10_joins 0 = .ok (.iload_n 1, 1) := by decide +kernel
theorem dX10_joins_1 : decode cX10_joins 1 = .ok (.invokestatic 92, 3) := by decide +kernel
theorem dX10_joins_4 : decode cX10_joins 4 = .ok (.ifCond .eq 17, 3) := by decide +kernel
theorem dX10_joins_7 : decode cX10_joins 7 = .ok (.iload_n 2, 1) := by decide +kernel
theorem dX10_joins_8 : decode cX10_joins 8 = .ok (.invokestatic 92, 3) := by decide +kernel
theorem dX10_joins_11 : decode cX10_joins 11 = .ok (.ifCond .eq 10, 3) := by decide +kernel
theorem dX10_joins_14 : decode cX10_joins 14 = .ok (.iload_n 3, 1) := by decide +kernel
theorem dX10_joins_15 : decode cX10_joins 15 = .ok (.invokestatic 92, 3) := by decide +kernel
theorem dX10_joins_18 : decode cX10_joins 18 = .ok (.ifCond .ne 5, 3) := by decide +kernel
theorem dX10_joins_21 : decode cX10_joins 21 = .ok (.iconst (-1), 1) := by decide +kernel
theorem dX10_joins_22 : decode cX10_joins 22 = .ok (.ireturn, 1) := by decide +kernel
theorem dX10_joins_23 : decode cX10_joins 23 = .ok (.aload_n 0, 1) := by decide +kernel
theorem dX10_joins_24 : decode cX10_joins 24 = .ok (.getfield 48, 3) := by decide +kernel
theorem dX10_joins_27 : decode cX10_joins 27 = .ok (.aload_n 0, 1) := by decide +kernel
theorem dX10_joins_28 : decode cX10_joins 28 = .ok (.getfield 10, 3) := by decide +kernel
theorem dX10_joins_31 : decode cX10_joins 31 = .ok (.getfield 104, 3) := by decide +kernel
theorem dX10_joins_34 : decode cX10_joins 34 = .ok (.iload_n 2, 1) := by decide +kernel
theorem dX10_joins_35 : decode cX10_joins 35 = .ok (.aaload, 1) := by decide +kernel
theorem dX10_joins_36 : decode cX10_joins 36 = .ok (.aload_n 0, 1) := by decide +kernel
theorem dX10_joins_37 : decode cX10_joins 37 = .ok (.getfield 10, 3) := by decide +kernel
theorem dX10_joins_40 : decode cX10_joins 40 = .ok (.getfield 104, 3) := by decide +kernel
theorem dX10_joins_43 : decode cX10_joins 43 = .ok (.iload_n 3, 1) := by decide +kernel
theorem dX10_joins_44 : decode cX10_joins 44 = .ok (.aaload, 1) := by decide +kernel
theorem dX10_joins_45 : decode cX10_joins 45 = .ok (.invokevirtual 116, 3) := by decide +kernel
theorem dX10_joins_48 : decode cX10_joins 48 = .ok (.aload_n 0, 1) := by decide +kernel
theorem dX10_joins_49 : decode cX10_joins 49 = .ok (.iload_n 1, 1) := by decide +kernel
theorem dX10_joins_50 : decode cX10_joins 50 = .ok (.aload_n 0, 1) := by decide +kernel
theorem dX10_joins_51 : decode cX10_joins 51 = .ok (.getfield 48, 3) := by decide +kernel
theorem dX10_joins_54 : decode cX10_joins 54 = .ok (.getfield 120, 3) := by decide +kernel
theorem dX10_joins_57 : decode cX10_joins 57 = .ok (.invokevirtual 100, 3) := by decide +kernel
theorem dX10_joins_60 : decode cX10_joins 60 = .ok (.ireturn, 1) := by decide +kernel
theorem dX10_fills_0 : decode cX10_fills 0 = .ok (.iload_n 1, 1) := by decide +kernel
theorem dX10_fills_1 : decode cX10_fills 1 = .ok (.invokestatic 92, 3) := by decide +kernel
theorem dX10_fills_4 : decode cX10_fills 4 = .ok (.ifCond .eq 26, 3) := by decide +kernel
theorem dX10_fills_7 : decode cX10_fills 7 = .ok (.iload_n 2, 1) := by decide +kernel
theorem dX10_fills_8 : decode cX10_fills 8 = .ok (.iconst 1, 1) := by decide +kernel
theorem dX10_fills_9 : decode cX10_fills 9 = .ok (.if_icmp .lt 21, 3) := by decide +kernel
theorem dX10_fills_12 : decode cX10_fills 12 = .ok (.iload_n 2, 1) := by decide +kernel
theorem dX10_fills_13 : decode cX10_fills 13 = .ok (.bipush 30, 2) := by decide +kernel
theorem dX10_fills_15 : decode cX10_fills 15 = .ok (.if_icmp .gt 15, 3) := by decide +kernel
theorem dX10_fills_18 : decode cX10_fills 18 = .ok (.iload_n 3, 1) := by decide +kernel
theorem dX10_fills_19 : decode cX10_fills 19 = .ok (.bipush (-99), 2) := by decide +kernel
theorem dX10_fills_21 : decode cX10_fills 21 = .ok (.if_icmp .lt 9, 3) := by decide +kernel
theorem dX10_fills_24 : decode cX10_fills 24 = .ok (.iload_n 3, 1) := by decide +kernel
theorem dX10_fills_25 : decode cX10_fills 25 = .ok (.bipush 99, 2) := by decide +kernel
theorem dX10_fills_27 : decode cX10_fills 27 = .ok (.if_icmp .le 5, 3) := by decide +kernel
theorem dX10_fills_30 : decode cX10_fills 30 = .ok (.iconst (-1), 1) := by decide +kernel
theorem dX10_fills_31 : decode cX10_fills 31 = .ok (.ireturn, 1) := by decide +kernel
theorem dX10_fills_32 : decode cX10_fills 32 = .ok (.iload_n 2, 1) := by decide +kernel
theorem dX10_fills_33 : decode cX10_fills 33 = .ok (.i2l, 1) := by decide +kernel
theorem dX10_fills_34 : decode cX10_fills 34 = .ok (.iload_n 3, 1) := by decide +kernel
theorem dX10_fills_35 : decode cX10_fills 35 = .ok (.i2l, 1) := by decide +kernel
theorem dX10_fills_36 : decode cX10_fills 36 = .ok (.invokestatic 123, 3) := by decide +kernel
theorem dX10_fills_39 : decode cX10_fills 39 = .ok (.lconst 1, 1) := by decide +kernel
theorem dX10_fills_40 : decode cX10_fills 40 = .ok (.lcmp, 1) := by decide +kernel
theorem dX10_fills_41 : decode cX10_fills 41 = .ok (.ifCond .eq 5, 3) := by decide +kernel
theorem dX10_fills_44 : decode cX10_fills 44 = .ok (.iconst (-1), 1) := by decide +kernel
theorem dX10_fills_45 : decode cX10_fills 45 = .ok (.ireturn, 1) := by decide +kernel
theorem dX10_fills_46 : decode cX10_fills 46 = .ok (.aload_n 0, 1) := by decide +kernel
theorem dX10_fills_47 : decode cX10_fills 47 = .ok (.getfield 48, 3) := by decide +kernel
theorem dX10_fills_50 : decode cX10_fills 50 = .ok (.aload_n 0, 1) := by decide +kernel
theorem dX10_fills_51 : decode cX10_fills 51 = .ok (.getfield 10, 3) := by decide +kernel
theorem dX10_fills_54 : decode cX10_fills 54 = .ok (.getfield 104, 3) := by decide +kernel
theorem dX10_fills_57 : decode cX10_fills 57 = .ok (.iload_n 1, 1) := by decide +kernel
theorem dX10_fills_58 : decode cX10_fills 58 = .ok (.aaload, 1) := by decide +kernel
theorem dX10_fills_59 : decode cX10_fills 59 = .ok (.invokevirtual 129, 3) := by decide +kernel
theorem dX10_fills_62 : decode cX10_fills 62 = .ok (.aload_n 0, 1) := by decide +kernel
theorem dX10_fills_63 : decode cX10_fills 63 = .ok (.getfield 48, 3) := by decide +kernel
theorem dX10_fills_66 : decode cX10_fills 66 = .ok (.iload_n 2, 1) := by decide +kernel
theorem dX10_fills_67 : decode cX10_fills 67 = .ok (.iload_n 3, 1) := by decide +kernel
theorem dX10_fills_68 : decode cX10_fills 68 = .ok (.invokevirtual 133, 3) := by decide +kernel
theorem dX10_fills_71 : decode cX10_fills 71 = .ok (.aload_n 0, 1) := by decide +kernel
theorem dX10_fills_72 : decode cX10_fills 72 = .ok (.iload_n 1, 1) := by decide +kernel
theorem dX10_fills_73 : decode cX10_fills 73 = .ok (.aload_n 0, 1) := by decide +kernel
theorem dX10_fills_74 : decode cX10_fills 74 = .ok (.getfield 48, 3) := by decide +kernel
theorem dX10_fills_77 : decode cX10_fills 77 = .ok (.getfield 120, 3) := by decide +kernel
theorem dX10_fills_80 : decode cX10_fills 80 = .ok (.invokevirtual 100, 3) := by decide +kernel
theorem dX10_fills_83 : decode cX10_fills 83 = .ok (.ireturn, 1) := by decide +kernel
theorem dX10_drills_0 : decode cX10_drills 0 = .ok (.aload_n 0, 1) := by decide +kernel
theorem dX10_drills_1 : decode cX10_drills 1 = .ok (.iload_n 1, 1) := by decide +kernel
theorem dX10_drills_2 : decode cX10_drills 2 = .ok (.iload_n 2, 1) := by decide +kernel
theorem dX10_drills_3 : decode cX10_drills 3 = .ok (.invokevirtual 137, 3) := by decide +kernel
theorem dX10_drills_6 : decode cX10_drills 6 = .ok (.ifCond .ne 5, 3) := by decide +kernel
theorem dX10_drills_9 : decode cX10_drills 9 = .ok (.iconst (-1), 1) := by decide +kernel
theorem dX10_drills_10 : decode cX10_drills 10 = .ok (.ireturn, 1) := by decide +kernel
theorem dX10_drills_11 : decode cX10_drills 11 = .ok (.aload_n 0, 1) := by decide +kernel
theorem dX10_drills_12 : decode cX10_drills 12 = .ok (.getfield 48, 3) := by decide +kernel
theorem dX10_drills_15 : decode cX10_drills 15 = .ok (.aload_n 0, 1) := by decide +kernel
theorem dX10_drills_16 : decode cX10_drills 16 = .ok (.getfield 10, 3) := by decide +kernel
theorem dX10_drills_19 : decode cX10_drills 19 = .ok (.getfield 104, 3) := by decide +kernel
theorem dX10_drills_22 : decode cX10_drills 22 = .ok (.iload_n 1, 1) := by decide +kernel
theorem dX10_drills_23 : decode cX10_drills 23 = .ok (.aaload, 1) := by decide +kernel
theorem dX10_drills_24 : decode cX10_drills 24 = .ok (.iload_n 2, 1) := by decide +kernel
theorem dX10_drills_25 : decode cX10_drills 25 = .ok (.invokevirtual 141, 3) := by decide +kernel
theorem dX10_drills_28 : decode cX10_drills 28 = .ok (.aload_n 0, 1) := by decide +kernel
theorem dX10_drills_29 : decode cX10_drills 29 = .ok (.iload_n 1, 1) := by decide +kernel
theorem dX10_drills_30 : decode cX10_drills 30 = .ok (.aload_n 0, 1) := by decide +kernel
theorem dX10_drills_31 : decode cX10_drills 31 = .ok (.getfield 48, 3) := by decide +kernel
theorem dX10_drills_34 : decode cX10_drills 34 = .ok (.getfield 120, 3) := by decide +kernel
theorem dX10_drills_37 : decode cX10_drills 37 = .ok (.invokevirtual 100, 3) := by decide +kernel
theorem dX10_drills_40 : decode cX10_drills 40 = .ok (.ireturn, 1) := by decide +kernel
theorem dX10_turnsOn_0 : decode cX10_turnsOn 0 = .ok (.iload_n 1, 1) := by decide +kernel
theorem dX10_turnsOn_1 : decode cX10_turnsOn 1 = .ok (.invokestatic 92, 3) := by decide +kernel
theorem dX10_turnsOn_4 : decode cX10_turnsOn 4 = .ok (.ifCond .eq 14, 3) := by decide +kernel
theorem dX10_turnsOn_7 : decode cX10_turnsOn 7 = .ok (.iload_n 2, 1) := by decide +kernel
theorem dX10_turnsOn_8 : decode cX10_turnsOn 8 = .ok (.iconst 2, 1) := by decide +kernel
theorem dX10_turnsOn_9 : decode cX10_turnsOn 9 = .ok (.if_icmp .lt 9, 3) := by decide +kernel
theorem dX10_turnsOn_12 : decode cX10_turnsOn 12 = .ok (.iload_n 2, 1) := by decide +kernel
theorem dX10_turnsOn_13 : decode cX10_turnsOn 13 = .ok (.bipush 9, 2) := by decide +kernel
theorem dX10_turnsOn_15 : decode cX10_turnsOn 15 = .ok (.if_icmp .le 5, 3) := by decide +kernel
theorem dX10_turnsOn_18 : decode cX10_turnsOn 18 = .ok (.iconst (-1), 1) := by decide +kernel
theorem dX10_turnsOn_19 : decode cX10_turnsOn 19 = .ok (.ireturn, 1) := by decide +kernel
theorem dX10_turnsOn_20 : decode cX10_turnsOn 20 = .ok (.aload_n 0, 1) := by decide +kernel
theorem dX10_turnsOn_21 : decode cX10_turnsOn 21 = .ok (.getfield 10, 3) := by decide +kernel
theorem dX10_turnsOn_24 : decode cX10_turnsOn 24 = .ok (.getfield 104, 3) := by decide +kernel
theorem dX10_turnsOn_27 : decode cX10_turnsOn 27 = .ok (.iload_n 1, 1) := by decide +kernel
theorem dX10_turnsOn_28 : decode cX10_turnsOn 28 = .ok (.aaload, 1) := by decide +kernel
theorem dX10_turnsOn_29 : decode cX10_turnsOn 29 = .ok (.iload_n 2, 1) := by decide +kernel
theorem dX10_turnsOn_30 : decode cX10_turnsOn 30 = .ok (.invokevirtual 144, 3) := by decide +kernel
theorem dX10_turnsOn_33 : decode cX10_turnsOn 33 = .ok (.ifCond .ne 6, 3) := by decide +kernel
theorem dX10_turnsOn_36 : decode cX10_turnsOn 36 = .ok (.bipush (-2), 2) := by decide +kernel
theorem dX10_turnsOn_38 : decode cX10_turnsOn 38 = .ok (.ireturn, 1) := by decide +kernel
theorem dX10_turnsOn_39 : decode cX10_turnsOn 39 = .ok (.aload_n 0, 1) := by decide +kernel
theorem dX10_turnsOn_40 : decode cX10_turnsOn 40 = .ok (.getfield 48, 3) := by decide +kernel
theorem dX10_turnsOn_43 : decode cX10_turnsOn 43 = .ok (.aload_n 0, 1) := by decide +kernel
theorem dX10_turnsOn_44 : decode cX10_turnsOn 44 = .ok (.getfield 10, 3) := by decide +kernel
theorem dX10_turnsOn_47 : decode cX10_turnsOn 47 = .ok (.getfield 104, 3) := by decide +kernel
theorem dX10_turnsOn_50 : decode cX10_turnsOn 50 = .ok (.iload_n 1, 1) := by decide +kernel
theorem dX10_turnsOn_51 : decode cX10_turnsOn 51 = .ok (.aaload, 1) := by decide +kernel
theorem dX10_turnsOn_52 : decode cX10_turnsOn 52 = .ok (.iload_n 2, 1) := by decide +kernel
theorem dX10_turnsOn_53 : decode cX10_turnsOn 53 = .ok (.invokevirtual 108, 3) := by decide +kernel
theorem dX10_turnsOn_56 : decode cX10_turnsOn 56 = .ok (.aload_n 0, 1) := by decide +kernel
theorem dX10_turnsOn_57 : decode cX10_turnsOn 57 = .ok (.iload_n 1, 1) := by decide +kernel
theorem dX10_turnsOn_58 : decode cX10_turnsOn 58 = .ok (.iconst 1, 1) := by decide +kernel
theorem dX10_turnsOn_59 : decode cX10_turnsOn 59 = .ok (.invokevirtual 100, 3) := by decide +kernel
theorem dX10_turnsOn_62 : decode cX10_turnsOn 62 = .ok (.ireturn, 1) := by decide +kernel
theorem dX10_unwraps_0 : decode cX10_unwraps 0 = .ok (.iload_n 1, 1) := by decide +kernel
theorem dX10_unwraps_1 : decode cX10_unwraps 1 = .ok (.invokestatic 92, 3) := by decide +kernel
theorem dX10_unwraps_4 : decode cX10_unwraps 4 = .ok (.ifCond .eq 14, 3) := by decide +kernel
theorem dX10_unwraps_7 : decode cX10_unwraps 7 = .ok (.iload_n 2, 1) := by decide +kernel
theorem dX10_unwraps_8 : decode cX10_unwraps 8 = .ok (.iconst 2, 1) := by decide +kernel
theorem dX10_unwraps_9 : decode cX10_unwraps 9 = .ok (.if_icmp .lt 9, 3) := by decide +kernel
theorem dX10_unwraps_12 : decode cX10_unwraps 12 = .ok (.iload_n 2, 1) := by decide +kernel
theorem dX10_unwraps_13 : decode cX10_unwraps 13 = .ok (.bipush 9, 2) := by decide +kernel
theorem dX10_unwraps_15 : decode cX10_unwraps 15 = .ok (.if_icmp .le 5, 3) := by decide +kernel
theorem dX10_unwraps_18 : decode cX10_unwraps 18 = .ok (.iconst (-1), 1) := by decide +kernel
theorem dX10_unwraps_19 : decode cX10_unwraps 19 = .ok (.ireturn, 1) := by decide +kernel
theorem dX10_unwraps_20 : decode cX10_unwraps 20 = .ok (.aload_n 0, 1) := by decide +kernel
theorem dX10_unwraps_21 : decode cX10_unwraps 21 = .ok (.getfield 10, 3) := by decide +kernel
theorem dX10_unwraps_24 : decode cX10_unwraps 24 = .ok (.getfield 104, 3) := by decide +kernel
theorem dX10_unwraps_27 : decode cX10_unwraps 27 = .ok (.iload_n 1, 1) := by decide +kernel
theorem dX10_unwraps_28 : decode cX10_unwraps 28 = .ok (.aaload, 1) := by decide +kernel
theorem dX10_unwraps_29 : decode cX10_unwraps 29 = .ok (.iload_n 2, 1) := by decide +kernel
theorem dX10_unwraps_30 : decode cX10_unwraps 30 = .ok (.invokevirtual 144, 3) := by decide +kernel
theorem dX10_unwraps_33 : decode cX10_unwraps 33 = .ok (.ifCond .eq 23, 3) := by decide +kernel
theorem dX10_unwraps_36 : decode cX10_unwraps 36 = .ok (.aload_n 0, 1) := by decide +kernel
theorem dX10_unwraps_37 : decode cX10_unwraps 37 = .ok (.getfield 48, 3) := by decide +kernel
theorem dX10_unwraps_40 : decode cX10_unwraps 40 = .ok (.aload_n 0, 1) := by decide +kernel
theorem dX10_unwraps_41 : decode cX10_unwraps 41 = .ok (.getfield 10, 3) := by decide +kernel
theorem dX10_unwraps_44 : decode cX10_unwraps 44 = .ok (.getfield 104, 3) := by decide +kernel
theorem dX10_unwraps_47 : decode cX10_unwraps 47 = .ok (.iload_n 1, 1) := by decide +kernel
theorem dX10_unwraps_48 : decode cX10_unwraps 48 = .ok (.aaload, 1) := by decide +kernel
theorem dX10_unwraps_49 : decode cX10_unwraps 49 = .ok (.iload_n 2, 1) := by decide +kernel
theorem dX10_unwraps_50 : decode cX10_unwraps 50 = .ok (.invokevirtual 147, 3) := by decide +kernel
theorem dX10_unwraps_53 : decode cX10_unwraps 53 = .ok (.ifCond .ne 6, 3) := by decide +kernel
theorem dX10_unwraps_56 : decode cX10_unwraps 56 = .ok (.bipush (-2), 2) := by decide +kernel
theorem dX10_unwraps_58 : decode cX10_unwraps 58 = .ok (.ireturn, 1) := by decide +kernel
theorem dX10_unwraps_59 : decode cX10_unwraps 59 = .ok (.aload_n 0, 1) := by decide +kernel
theorem dX10_unwraps_60 : decode cX10_unwraps 60 = .ok (.iload_n 1, 1) := by decide +kernel
theorem dX10_unwraps_61 : decode cX10_unwraps 61 = .ok (.iconst 1, 1) := by decide +kernel
theorem dX10_unwraps_62 : decode cX10_unwraps 62 = .ok (.invokevirtual 100, 3) := by decide +kernel
theorem dX10_unwraps_65 : decode cX10_unwraps 65 = .ok (.ireturn, 1) := by decide +kernel
theorem dX10_unrolls_0 : decode cX10_unrolls 0 = .ok (.iload_n 1, 1) := by decide +kernel
theorem dX10_unrolls_1 : decode cX10_unrolls 1 = .ok (.invokestatic 92, 3) := by decide +kernel
theorem dX10_unrolls_4 : decode cX10_unrolls 4 = .ok (.ifCond .eq 13, 3) := by decide +kernel
theorem dX10_unrolls_7 : decode cX10_unrolls 7 = .ok (.iload_n 2, 1) := by decide +kernel
theorem dX10_unrolls_8 : decode cX10_unrolls 8 = .ok (.iconst 2, 1) := by decide +kernel
theorem dX10_unrolls_9 : decode cX10_unrolls 9 = .ok (.if_icmp .lt 8, 3) := by decide +kernel
theorem dX10_unrolls_12 : decode cX10_unrolls 12 = .ok (.iload_n 2, 1) := by decide +kernel
theorem dX10_unrolls_13 : decode cX10_unrolls 13 = .ok (.iconst 3, 1) := by decide +kernel
theorem dX10_unrolls_14 : decode cX10_unrolls 14 = .ok (.if_icmp .le 5, 3) := by decide +kernel
theorem dX10_unrolls_17 : decode cX10_unrolls 17 = .ok (.iconst (-1), 1) := by decide +kernel
theorem dX10_unrolls_18 : decode cX10_unrolls 18 = .ok (.ireturn, 1) := by decide +kernel
theorem dX10_unrolls_19 : decode cX10_unrolls 19 = .ok (.aload_n 0, 1) := by decide +kernel
theorem dX10_unrolls_20 : decode cX10_unrolls 20 = .ok (.getfield 10, 3) := by decide +kernel
theorem dX10_unrolls_23 : decode cX10_unrolls 23 = .ok (.getfield 104, 3) := by decide +kernel
theorem dX10_unrolls_26 : decode cX10_unrolls 26 = .ok (.iload_n 1, 1) := by decide +kernel
theorem dX10_unrolls_27 : decode cX10_unrolls 27 = .ok (.aaload, 1) := by decide +kernel
theorem dX10_unrolls_28 : decode cX10_unrolls 28 = .ok (.astore_n 3, 1) := by decide +kernel
theorem dX10_unrolls_29 : decode cX10_unrolls 29 = .ok (.aload_n 3, 1) := by decide +kernel
theorem dX10_unrolls_30 : decode cX10_unrolls 30 = .ok (.getfield 151, 3) := by decide +kernel
theorem dX10_unrolls_33 : decode cX10_unrolls 33 = .ok (.aload_n 3, 1) := by decide +kernel
theorem dX10_unrolls_34 : decode cX10_unrolls 34 = .ok (.getfield 154, 3) := by decide +kernel
theorem dX10_unrolls_37 : decode cX10_unrolls 37 = .ok (.iconst 1, 1) := by decide +kernel
theorem dX10_unrolls_38 : decode cX10_unrolls 38 = .ok (.iadd, 1) := by decide +kernel
theorem dX10_unrolls_39 : decode cX10_unrolls 39 = .ok (.if_icmp .ge 6, 3) := by decide +kernel
theorem dX10_unrolls_42 : decode cX10_unrolls 42 = .ok (.bipush (-2), 2) := by decide +kernel
theorem dX10_unrolls_44 : decode cX10_unrolls 44 = .ok (.ireturn, 1) := by decide +kernel
theorem dX10_unrolls_45 : decode cX10_unrolls 45 = .ok (.aload_n 0, 1) := by decide +kernel
theorem dX10_unrolls_46 : decode cX10_unrolls 46 = .ok (.getfield 48, 3) := by decide +kernel
theorem dX10_unrolls_49 : decode cX10_unrolls 49 = .ok (.aload_n 3, 1) := by decide +kernel
theorem dX10_unrolls_50 : decode cX10_unrolls 50 = .ok (.iload_n 2, 1) := by decide +kernel
theorem dX10_unrolls_51 : decode cX10_unrolls 51 = .ok (.invokevirtual 157, 3) := by decide +kernel
theorem dX10_unrolls_54 : decode cX10_unrolls 54 = .ok (.aload_n 0, 1) := by decide +kernel
theorem dX10_unrolls_55 : decode cX10_unrolls 55 = .ok (.iload_n 1, 1) := by decide +kernel
theorem dX10_unrolls_56 : decode cX10_unrolls 56 = .ok (.aload_n 0, 1) := by decide +kernel
theorem dX10_unrolls_57 : decode cX10_unrolls 57 = .ok (.getfield 48, 3) := by decide +kernel
theorem dX10_unrolls_60 : decode cX10_unrolls 60 = .ok (.getfield 120, 3) := by decide +kernel
theorem dX10_unrolls_63 : decode cX10_unrolls 63 = .ok (.invokevirtual 100, 3) := by decide +kernel
theorem dX10_unrolls_66 : decode cX10_unrolls 66 = .ok (.ireturn, 1) := by decide +kernel
theorem dX10_undo_0 : decode cX10_undo 0 = .ok (.aload_n 0, 1) := by decide +kernel
theorem dX10_undo_1 : decode cX10_undo 1 = .ok (.getfield 19, 3) := by decide +kernel
theorem dX10_undo_4 : decode cX10_undo 4 = .ok (.getfield 160, 3) := by decide +kernel
theorem dX10_undo_7 : decode cX10_undo 7 = .ok (.ifCond .gt 6, 3) := by decide +kernel
theorem dX10_undo_10 : decode cX10_undo 10 = .ok (.bipush (-2), 2) := by decide +kernel
theorem dX10_undo_12 : decode cX10_undo 12 = .ok (.ireturn, 1) := by decide +kernel
theorem dX10_undo_13 : decode cX10_undo 13 = .ok (.aload_n 0, 1) := by decide +kernel
theorem dX10_undo_14 : decode cX10_undo 14 = .ok (.getfield 19, 3) := by decide +kernel
theorem dX10_undo_17 : decode cX10_undo 17 = .ok (.aload_n 0, 1) := by decide +kernel
theorem dX10_undo_18 : decode cX10_undo 18 = .ok (.getfield 10, 3) := by decide +kernel
theorem dX10_undo_21 : decode cX10_undo 21 = .ok (.invokevirtual 163, 3) := by decide +kernel
theorem dX10_undo_24 : decode cX10_undo 24 = .ok (.aload_n 0, 1) := by decide +kernel
theorem dX10_undo_25 : decode cX10_undo 25 = .ok (.getfield 19, 3) := by decide +kernel
theorem dX10_undo_28 : decode cX10_undo 28 = .ok (.getfield 160, 3) := by decide +kernel
theorem dX10_undo_31 : decode cX10_undo 31 = .ok (.ireturn, 1) := by decide +kernel
theorem dX10_space_0 : decode cX10_space 0 = .ok (.iload_n 1, 1) := by decide +kernel
theorem dX10_space_1 : decode cX10_space 1 = .ok (.invokestatic 92, 3) := by decide +kernel
theorem dX10_space_4 : decode cX10_space 4 = .ok (.ifCond .ne 7, 3) := by decide +kernel
theorem dX10_space_7 : decode cX10_space 7 = .ok (.ldc2_w 167, 3) := by decide +kernel
theorem dX10_space_10 : decode cX10_space 10 = .ok (.lreturn, 1) := by decide +kernel
theorem dX10_space_11 : decode cX10_space 11 = .ok (.aload_n 0, 1) := by decide +kernel
theorem dX10_space_12 : decode cX10_space 12 = .ok (.getfield 10, 3) := by decide +kernel
theorem dX10_space_15 : decode cX10_space 15 = .ok (.getfield 104, 3) := by decide +kernel
theorem dX10_space_18 : decode cX10_space 18 = .ok (.iload_n 1, 1) := by decide +kernel
theorem dX10_space_19 : decode cX10_space 19 = .ok (.aaload, 1) := by decide +kernel
theorem dX10_space_20 : decode cX10_space 20 = .ok (.astore_n 3, 1) := by decide +kernel
theorem dX10_space_21 : decode cX10_space 21 = .ok (.iload_n 2, 1) := by decide +kernel
theorem dX10_space_22 : decode cX10_space 22 = .ok (.tableswitch 106 0 6 #[42, 48, 54, 60, 66, 83, 100], 42) := by decide +kernel
theorem dX10_space_64 : decode cX10_space 64 = .ok (.aload_n 3, 1) := by decide +kernel
theorem dX10_space_65 : decode cX10_space 65 = .ok (.getfield 154, 3) := by decide +kernel
theorem dX10_space_68 : decode cX10_space 68 = .ok (.i2l, 1) := by decide +kernel
theorem dX10_space_69 : decode cX10_space 69 = .ok (.lreturn, 1) := by decide +kernel
theorem dX10_space_70 : decode cX10_space 70 = .ok (.aload_n 3, 1) := by decide +kernel
theorem dX10_space_71 : decode cX10_space 71 = .ok (.getfield 151, 3) := by decide +kernel
theorem dX10_space_74 : decode cX10_space 74 = .ok (.i2l, 1) := by decide +kernel
theorem dX10_space_75 : decode cX10_space 75 = .ok (.lreturn, 1) := by decide +kernel
theorem dX10_space_76 : decode cX10_space 76 = .ok (.aload_n 3, 1) := by decide +kernel
theorem dX10_space_77 : decode cX10_space 77 = .ok (.getfield 169, 3) := by decide +kernel
theorem dX10_space_80 : decode cX10_space 80 = .ok (.i2l, 1) := by decide +kernel
theorem dX10_space_81 : decode cX10_space 81 = .ok (.lreturn, 1) := by decide +kernel
theorem dX10_space_82 : decode cX10_space 82 = .ok (.aload_n 3, 1) := by decide +kernel
theorem dX10_space_83 : decode cX10_space 83 = .ok (.getfield 120, 3) := by decide +kernel
theorem dX10_space_86 : decode cX10_space 86 = .ok (.i2l, 1) := by decide +kernel
theorem dX10_space_87 : decode cX10_space 87 = .ok (.lreturn, 1) := by decide +kernel
theorem dX10_space_88 : decode cX10_space 88 = .ok (.aload_n 0, 1) := by decide +kernel
theorem dX10_space_89 : decode cX10_space 89 = .ok (.getfield 55, 3) := by decide +kernel
theorem dX10_space_92 : decode cX10_space 92 = .ok (.aload_n 3, 1) := by decide +kernel
theorem dX10_space_93 : decode cX10_space 93 = .ok (.invokevirtual 172, 3) := by decide +kernel
theorem dX10_space_96 : decode cX10_space 96 = .ok (.aload_n 0, 1) := by decide +kernel
theorem dX10_space_97 : decode cX10_space 97 = .ok (.getfield 55, 3) := by decide +kernel
theorem dX10_space_100 : decode cX10_space 100 = .ok (.getfield 175, 3) := by decide +kernel
theorem dX10_space_103 : decode cX10_space 103 = .ok (.i2l, 1) := by decide +kernel
theorem dX10_space_104 : decode cX10_space 104 = .ok (.lreturn, 1) := by decide +kernel
theorem dX10_space_105 : decode cX10_space 105 = .ok (.aload_n 0, 1) := by decide +kernel
theorem dX10_space_106 : decode cX10_space 106 = .ok (.getfield 55, 3) := by decide +kernel
theorem dX10_space_109 : decode cX10_space 109 = .ok (.aload_n 3, 1) := by decide +kernel
theorem dX10_space_110 : decode cX10_space 110 = .ok (.invokevirtual 172, 3) := by decide +kernel
theorem dX10_space_113 : decode cX10_space 113 = .ok (.aload_n 0, 1) := by decide +kernel
theorem dX10_space_114 : decode cX10_space 114 = .ok (.getfield 55, 3) := by decide +kernel
theorem dX10_space_117 : decode cX10_space 117 = .ok (.getfield 178, 3) := by decide +kernel
theorem dX10_space_120 : decode cX10_space 120 = .ok (.i2l, 1) := by decide +kernel
theorem dX10_space_121 : decode cX10_space 121 = .ok (.lreturn, 1) := by decide +kernel
theorem dX10_space_122 : decode cX10_space 122 = .ok (.aload_n 3, 1) := by decide +kernel
theorem dX10_space_123 : decode cX10_space 123 = .ok (.invokevirtual 179, 3) := by decide +kernel
theorem dX10_space_126 : decode cX10_space 126 = .ok (.i2l, 1) := by decide +kernel
theorem dX10_space_127 : decode cX10_space 127 = .ok (.lreturn, 1) := by decide +kernel
theorem dX10_space_128 : decode cX10_space 128 = .ok (.ldc2_w 167, 3) := by decide +kernel
theorem dX10_space_131 : decode cX10_space 131 = .ok (.lreturn, 1) := by decide +kernel
theorem dX10_fibre_0 : decode cX10_fibre 0 = .ok (.aload_n 0, 1) := by decide +kernel
theorem dX10_fibre_1 : decode cX10_fibre 1 = .ok (.iload_n 1, 1) := by decide +kernel
theorem dX10_fibre_2 : decode cX10_fibre 2 = .ok (.iload_n 2, 1) := by decide +kernel
theorem dX10_fibre_3 : decode cX10_fibre 3 = .ok (.invokevirtual 137, 3) := by decide +kernel
theorem dX10_fibre_6 : decode cX10_fibre 6 = .ok (.ifCond .eq 12, 3) := by decide +kernel
theorem dX10_fibre_9 : decode cX10_fibre 9 = .ok (.iload_n 3, 1) := by decide +kernel
theorem dX10_fibre_10 : decode cX10_fibre 10 = .ok (.ifCond .lt 8, 3) := by decide +kernel
theorem dX10_fibre_13 : decode cX10_fibre 13 = .ok (.iload_n 3, 1) := by decide +kernel
theorem dX10_fibre_14 : decode cX10_fibre 14 = .ok (.iconst 1, 1) := by decide +kernel
theorem dX10_fibre_15 : decode cX10_fibre 15 = .ok (.if_icmp .le 5, 3) := by decide +kernel
theorem dX10_fibre_18 : decode cX10_fibre 18 = .ok (.iconst (-1), 1) := by decide +kernel
theorem dX10_fibre_19 : decode cX10_fibre 19 = .ok (.ireturn, 1) := by decide +kernel
theorem dX10_fibre_20 : decode cX10_fibre 20 = .ok (.iload_n 3, 1) := by decide +kernel
theorem dX10_fibre_21 : decode cX10_fibre 21 = .ok (.ifCond .ne 20, 3) := by decide +kernel
theorem dX10_fibre_24 : decode cX10_fibre 24 = .ok (.aload_n 0, 1) := by decide +kernel
theorem dX10_fibre_25 : decode cX10_fibre 25 = .ok (.getfield 10, 3) := by decide +kernel
theorem dX10_fibre_28 : decode cX10_fibre 28 = .ok (.getfield 104, 3) := by decide +kernel
theorem dX10_fibre_31 : decode cX10_fibre 31 = .ok (.iload_n 1, 1) := by decide +kernel
theorem dX10_fibre_32 : decode cX10_fibre 32 = .ok (.aaload, 1) := by decide +kernel
theorem dX10_fibre_33 : decode cX10_fibre 33 = .ok (.getfield 183, 3) := by decide +kernel
theorem dX10_fibre_36 : decode cX10_fibre 36 = .ok (.iload_n 2, 1) := by decide +kernel
theorem dX10_fibre_37 : decode cX10_fibre 37 = .ok (.iaload, 1) := by decide +kernel
theorem dX10_fibre_38 : decode cX10_fibre 38 = .ok (.goto 17, 3) := by decide +kernel
theorem dX10_fibre_41 : decode cX10_fibre 41 = .ok (.aload_n 0, 1) := by decide +kernel
theorem dX10_fibre_42 : decode cX10_fibre 42 = .ok (.getfield 10, 3) := by decide +kernel
theorem dX10_fibre_45 : decode cX10_fibre 45 = .ok (.getfield 104, 3) := by decide +kernel
theorem dX10_fibre_48 : decode cX10_fibre 48 = .ok (.iload_n 1, 1) := by decide +kernel
theorem dX10_fibre_49 : decode cX10_fibre 49 = .ok (.aaload, 1) := by decide +kernel
theorem dX10_fibre_50 : decode cX10_fibre 50 = .ok (.getfield 187, 3) := by decide +kernel
theorem dX10_fibre_53 : decode cX10_fibre 53 = .ok (.iload_n 2, 1) := by decide +kernel
theorem dX10_fibre_54 : decode cX10_fibre 54 = .ok (.iaload, 1) := by decide +kernel
theorem dX10_fibre_55 : decode cX10_fibre 55 = .ok (.ireturn, 1) := by decide +kernel
theorem dX10_euler_0 : decode cX10_euler 0 = .ok (.iload_n 1, 1) := by decide +kernel
theorem dX10_euler_1 : decode cX10_euler 1 = .ok (.invokestatic 92, 3) := by decide +kernel
theorem dX10_euler_4 : decode cX10_euler 4 = .ok (.ifCond .eq 12, 3) := by decide +kernel
theorem dX10_euler_7 : decode cX10_euler 7 = .ok (.iload_n 2, 1) := by decide +kernel
theorem dX10_euler_8 : decode cX10_euler 8 = .ok (.ifCond .lt 8, 3) := by decide +kernel
theorem dX10_euler_11 : decode cX10_euler 11 = .ok (.iload_n 2, 1) := by decide +kernel
theorem dX10_euler_12 : decode cX10_euler 12 = .ok (.iconst 1, 1) := by decide +kernel
theorem dX10_euler_13 : decode cX10_euler 13 = .ok (.if_icmp .le 7, 3) := by decide +kernel
theorem dX10_euler_16 : decode cX10_euler 16 = .ok (.ldc2_w 167, 3) := by decide +kernel
theorem dX10_euler_19 : decode cX10_euler 19 = .ok (.lreturn, 1) := by decide +kernel
theorem dX10_euler_20 : decode cX10_euler 20 = .ok (.aload_n 0, 1) := by decide +kernel
theorem dX10_euler_21 : decode cX10_euler 21 = .ok (.getfield 10, 3) := by decide +kernel
theorem dX10_euler_24 : decode cX10_euler 24 = .ok (.getfield 104, 3) := by decide +kernel
theorem dX10_euler_27 : decode cX10_euler 27 = .ok (.iload_n 1, 1) := by decide +kernel
theorem dX10_euler_28 : decode cX10_euler 28 = .ok (.aaload, 1) := by decide +kernel
theorem dX10_euler_29 : decode cX10_euler 29 = .ok (.astore_n 3, 1) := by decide +kernel
theorem dX10_euler_30 : decode cX10_euler 30 = .ok (.aload_n 0, 1) := by decide +kernel
theorem dX10_euler_31 : decode cX10_euler 31 = .ok (.getfield 62, 3) := by decide +kernel
theorem dX10_euler_34 : decode cX10_euler 34 = .ok (.aload_n 3, 1) := by decide +kernel
theorem dX10_euler_35 : decode cX10_euler 35 = .ok (.invokevirtual 190, 3) := by decide +kernel
theorem dX10_euler_38 : decode cX10_euler 38 = .ok (.lneg, 1) := by decide +kernel
theorem dX10_euler_39 : decode cX10_euler 39 = .ok (.aload_n 3, 1) := by decide +kernel
theorem dX10_euler_40 : decode cX10_euler 40 = .ok (.invokevirtual 194, 3) := by decide +kernel
theorem dX10_euler_43 : decode cX10_euler 43 = .ok (.invokevirtual 197, 3) := by decide +kernel
theorem dX10_euler_46 : decode cX10_euler 46 = .ok (.iload_n 2, 1) := by decide +kernel
theorem dX10_euler_47 : decode cX10_euler 47 = .ok (.ifCond .ne 13, 3) := by decide +kernel
theorem dX10_euler_50 : decode cX10_euler 50 = .ok (.aload_n 0, 1) := by decide +kernel
theorem dX10_euler_51 : decode cX10_euler 51 = .ok (.getfield 62, 3) := by decide +kernel
theorem dX10_euler_54 : decode cX10_euler 54 = .ok (.getfield 201, 3) := by decide +kernel
theorem dX10_euler_57 : decode cX10_euler 57 = .ok (.goto 10, 3) := by decide +kernel
theorem dX10_euler_60 : decode cX10_euler 60 = .ok (.aload_n 0, 1) := by decide +kernel
theorem dX10_euler_61 : decode cX10_euler 61 = .ok (.getfield 62, 3) := by decide +kernel
theorem dX10_euler_64 : decode cX10_euler 64 = .ok (.getfield 205, 3) := by decide +kernel
theorem dX10_euler_67 : decode cX10_euler 67 = .ok (.lreturn, 1) := by decide +kernel
theorem dX10_over_0 : decode cX10_over 0 = .ok (.iload_n 1, 1) := by decide +kernel
theorem dX10_over_1 : decode cX10_over 1 = .ok (.invokestatic 92, 3) := by decide +kernel
theorem dX10_over_4 : decode cX10_over 4 = .ok (.ifCond .eq 12, 3) := by decide +kernel
theorem dX10_over_7 : decode cX10_over 7 = .ok (.iload_n 2, 1) := by decide +kernel
theorem dX10_over_8 : decode cX10_over 8 = .ok (.ifCond .lt 8, 3) := by decide +kernel
theorem dX10_over_11 : decode cX10_over 11 = .ok (.iload_n 2, 1) := by decide +kernel
theorem dX10_over_12 : decode cX10_over 12 = .ok (.iconst 1, 1) := by decide +kernel
theorem dX10_over_13 : decode cX10_over 13 = .ok (.if_icmp .le 7, 3) := by decide +kernel
theorem dX10_over_16 : decode cX10_over 16 = .ok (.ldc2_w 167, 3) := by decide +kernel
theorem dX10_over_19 : decode cX10_over 19 = .ok (.lreturn, 1) := by decide +kernel
theorem dX10_over_20 : decode cX10_over 20 = .ok (.aload_n 0, 1) := by decide +kernel
theorem dX10_over_21 : decode cX10_over 21 = .ok (.getfield 10, 3) := by decide +kernel
theorem dX10_over_24 : decode cX10_over 24 = .ok (.getfield 104, 3) := by decide +kernel
theorem dX10_over_27 : decode cX10_over 27 = .ok (.iload_n 1, 1) := by decide +kernel
theorem dX10_over_28 : decode cX10_over 28 = .ok (.aaload, 1) := by decide +kernel
theorem dX10_over_29 : decode cX10_over 29 = .ok (.astore_n 3, 1) := by decide +kernel
theorem dX10_over_30 : decode cX10_over 30 = .ok (.aload_n 0, 1) := by decide +kernel
theorem dX10_over_31 : decode cX10_over 31 = .ok (.getfield 62, 3) := by decide +kernel
theorem dX10_over_34 : decode cX10_over 34 = .ok (.aload_n 3, 1) := by decide +kernel
theorem dX10_over_35 : decode cX10_over 35 = .ok (.invokevirtual 208, 3) := by decide +kernel
theorem dX10_over_38 : decode cX10_over 38 = .ok (.aload_n 3, 1) := by decide +kernel
theorem dX10_over_39 : decode cX10_over 39 = .ok (.invokevirtual 194, 3) := by decide +kernel
theorem dX10_over_42 : decode cX10_over 42 = .ok (.invokevirtual 197, 3) := by decide +kernel
theorem dX10_over_45 : decode cX10_over 45 = .ok (.iload_n 2, 1) := by decide +kernel
theorem dX10_over_46 : decode cX10_over 46 = .ok (.ifCond .ne 13, 3) := by decide +kernel
theorem dX10_over_49 : decode cX10_over 49 = .ok (.aload_n 0, 1) := by decide +kernel
theorem dX10_over_50 : decode cX10_over 50 = .ok (.getfield 62, 3) := by decide +kernel
theorem dX10_over_53 : decode cX10_over 53 = .ok (.getfield 201, 3) := by decide +kernel
theorem dX10_over_56 : decode cX10_over 56 = .ok (.goto 10, 3) := by decide +kernel
theorem dX10_over_59 : decode cX10_over 59 = .ok (.aload_n 0, 1) := by decide +kernel
theorem dX10_over_60 : decode cX10_over 60 = .ok (.getfield 62, 3) := by decide +kernel
theorem dX10_over_63 : decode cX10_over 63 = .ok (.getfield 205, 3) := by decide +kernel
theorem dX10_over_66 : decode cX10_over 66 = .ok (.lreturn, 1) := by decide +kernel
theorem dX10_like_0 : decode cX10_like 0 = .ok (.iload_n 1, 1) := by decide +kernel
theorem dX10_like_1 : decode cX10_like 1 = .ok (.invokestatic 92, 3) := by decide +kernel
theorem dX10_like_4 : decode cX10_like 4 = .ok (.ifCond .eq 10, 3) := by decide +kernel
theorem dX10_like_7 : decode cX10_like 7 = .ok (.iload_n 2, 1) := by decide +kernel
theorem dX10_like_8 : decode cX10_like 8 = .ok (.invokestatic 92, 3) := by decide +kernel
theorem dX10_like_11 : decode cX10_like 11 = .ok (.ifCond .ne 5, 3) := by decide +kernel
theorem dX10_like_14 : decode cX10_like 14 = .ok (.iconst (-1), 1) := by decide +kernel
theorem dX10_like_15 : decode cX10_like 15 = .ok (.ireturn, 1) := by decide +kernel
theorem dX10_like_16 : decode cX10_like 16 = .ok (.aload_n 0, 1) := by decide +kernel
theorem dX10_like_17 : decode cX10_like 17 = .ok (.getfield 48, 3) := by decide +kernel
theorem dX10_like_20 : decode cX10_like 20 = .ok (.aload_n 0, 1) := by decide +kernel
theorem dX10_like_21 : decode cX10_like 21 = .ok (.getfield 10, 3) := by decide +kernel
theorem dX10_like_24 : decode cX10_like 24 = .ok (.getfield 104, 3) := by decide +kernel
theorem dX10_like_27 : decode cX10_like 27 = .ok (.iload_n 1, 1) := by decide +kernel
theorem dX10_like_28 : decode cX10_like 28 = .ok (.aaload, 1) := by decide +kernel
theorem dX10_like_29 : decode cX10_like 29 = .ok (.iconst (-1), 1) := by decide +kernel
theorem dX10_like_30 : decode cX10_like 30 = .ok (.invokevirtual 108, 3) := by decide +kernel
theorem dX10_like_33 : decode cX10_like 33 = .ok (.aload_n 0, 1) := by decide +kernel
theorem dX10_like_34 : decode cX10_like 34 = .ok (.getfield 10, 3) := by decide +kernel
theorem dX10_like_37 : decode cX10_like 37 = .ok (.getfield 104, 3) := by decide +kernel
theorem dX10_like_40 : decode cX10_like 40 = .ok (.iload_n 1, 1) := by decide +kernel
theorem dX10_like_41 : decode cX10_like 41 = .ok (.aaload, 1) := by decide +kernel
theorem dX10_like_42 : decode cX10_like 42 = .ok (.aload_n 0, 1) := by decide +kernel
theorem dX10_like_43 : decode cX10_like 43 = .ok (.getfield 10, 3) := by decide +kernel
theorem dX10_like_46 : decode cX10_like 46 = .ok (.getfield 104, 3) := by decide +kernel
theorem dX10_like_49 : decode cX10_like 49 = .ok (.iload_n 2, 1) := by decide +kernel
theorem dX10_like_50 : decode cX10_like 50 = .ok (.aaload, 1) := by decide +kernel
theorem dX10_like_51 : decode cX10_like 51 = .ok (.invokevirtual 112, 3) := by decide +kernel
theorem dX10_like_54 : decode cX10_like 54 = .ok (.ifCond .eq 7, 3) := by decide +kernel
theorem dX10_like_57 : decode cX10_like 57 = .ok (.iconst 1, 1) := by decide +kernel
theorem dX10_like_58 : decode cX10_like 58 = .ok (.goto 4, 3) := by decide +kernel
theorem dX10_like_61 : decode cX10_like 61 = .ok (.iconst 0, 1) := by decide +kernel
theorem dX10_like_62 : decode cX10_like 62 = .ok (.istore_n 3, 1) := by decide +kernel
theorem dX10_like_63 : decode cX10_like 63 = .ok (.aload_n 0, 1) := by decide +kernel
theorem dX10_like_64 : decode cX10_like 64 = .ok (.getfield 48, 3) := by decide +kernel
theorem dX10_like_67 : decode cX10_like 67 = .ok (.aload_n 0, 1) := by decide +kernel
theorem dX10_like_68 : decode cX10_like 68 = .ok (.getfield 10, 3) := by decide +kernel
theorem dX10_like_71 : decode cX10_like 71 = .ok (.getfield 104, 3) := by decide +kernel
theorem dX10_like_74 : decode cX10_like 74 = .ok (.iload_n 2, 1) := by decide +kernel
theorem dX10_like_75 : decode cX10_like 75 = .ok (.aaload, 1) := by decide +kernel
theorem dX10_like_76 : decode cX10_like 76 = .ok (.invokevirtual 112, 3) := by decide +kernel
theorem dX10_like_79 : decode cX10_like 79 = .ok (.ifCond .eq 7, 3) := by decide +kernel
theorem dX10_like_82 : decode cX10_like 82 = .ok (.iconst 2, 1) := by decide +kernel
theorem dX10_like_83 : decode cX10_like 83 = .ok (.goto 4, 3) := by decide +kernel
theorem dX10_like_86 : decode cX10_like 86 = .ok (.iconst 0, 1) := by decide +kernel
theorem dX10_like_87 : decode cX10_like 87 = .ok (.istore 4, 2) := by decide +kernel
theorem dX10_like_89 : decode cX10_like 89 = .ok (.iload_n 3, 1) := by decide +kernel
theorem dX10_like_90 : decode cX10_like 90 = .ok (.iload 4, 2) := by decide +kernel
theorem dX10_like_92 : decode cX10_like 92 = .ok (.iadd, 1) := by decide +kernel
theorem dX10_like_93 : decode cX10_like 93 = .ok (.ireturn, 1) := by decide +kernel
theorem dX10_torsion_0 : decode cX10_torsion 0 = .ok (.iload_n 1, 1) := by decide +kernel
theorem dX10_torsion_1 : decode cX10_torsion 1 = .ok (.invokestatic 92, 3) := by decide +kernel
theorem dX10_torsion_4 : decode cX10_torsion 4 = .ok (.ifCond .eq 8, 3) := by decide +kernel
theorem dX10_torsion_7 : decode cX10_torsion 7 = .ok (.iload_n 2, 1) := by decide +kernel
theorem dX10_torsion_8 : decode cX10_torsion 8 = .ok (.iconst (-1), 1) := by decide +kernel
theorem dX10_torsion_9 : decode cX10_torsion 9 = .ok (.if_icmp .ge 7, 3) := by decide +kernel
theorem dX10_torsion_12 : decode cX10_torsion 12 = .ok (.ldc2_w 211, 3) := by decide +kernel
theorem dX10_torsion_15 : decode cX10_torsion 15 = .ok (.lreturn, 1) := by decide +kernel
theorem dX10_torsion_16 : decode cX10_torsion 16 = .ok (.aload_n 0, 1) := by decide +kernel
theorem dX10_torsion_17 : decode cX10_torsion 17 = .ok (.getfield 55, 3) := by decide +kernel
theorem dX10_torsion_20 : decode cX10_torsion 20 = .ok (.aload_n 0, 1) := by decide +kernel
theorem dX10_torsion_21 : decode cX10_torsion 21 = .ok (.getfield 10, 3) := by decide +kernel
theorem dX10_torsion_24 : decode cX10_torsion 24 = .ok (.getfield 104, 3) := by decide +kernel
theorem dX10_torsion_27 : decode cX10_torsion 27 = .ok (.iload_n 1, 1) := by decide +kernel
theorem dX10_torsion_28 : decode cX10_torsion 28 = .ok (.aaload, 1) := by decide +kernel
theorem dX10_torsion_29 : decode cX10_torsion 29 = .ok (.invokevirtual 172, 3) := by decide +kernel
theorem dX10_torsion_32 : decode cX10_torsion 32 = .ok (.iload_n 2, 1) := by decide +kernel
theorem dX10_torsion_33 : decode cX10_torsion 33 = .ok (.iconst (-1), 1) := by decide +kernel
theorem dX10_torsion_34 : decode cX10_torsion 34 = .ok (.if_icmp .ne 11, 3) := by decide +kernel
theorem dX10_torsion_37 : decode cX10_torsion 37 = .ok (.aload_n 0, 1) := by decide +kernel
theorem dX10_torsion_38 : decode cX10_torsion 38 = .ok (.getfield 55, 3) := by decide +kernel
theorem dX10_torsion_41 : decode cX10_torsion 41 = .ok (.invokevirtual 213, 3) := by decide +kernel
theorem dX10_torsion_44 : decode cX10_torsion 44 = .ok (.lreturn, 1) := by decide +kernel
theorem dX10_torsion_45 : decode cX10_torsion 45 = .ok (.iload_n 2, 1) := by decide +kernel
theorem dX10_torsion_46 : decode cX10_torsion 46 = .ok (.aload_n 0, 1) := by decide +kernel
theorem dX10_torsion_47 : decode cX10_torsion 47 = .ok (.getfield 55, 3) := by decide +kernel
theorem dX10_torsion_50 : decode cX10_torsion 50 = .ok (.getfield 178, 3) := by decide +kernel
theorem dX10_torsion_53 : decode cX10_torsion 53 = .ok (.if_icmp .ge 15, 3) := by decide +kernel
theorem dX10_torsion_56 : decode cX10_torsion 56 = .ok (.aload_n 0, 1) := by decide +kernel
theorem dX10_torsion_57 : decode cX10_torsion 57 = .ok (.getfield 55, 3) := by decide +kernel
theorem dX10_torsion_60 : decode cX10_torsion 60 = .ok (.getfield 216, 3) := by decide +kernel
theorem dX10_torsion_63 : decode cX10_torsion 63 = .ok (.iload_n 2, 1) := by decide +kernel
theorem dX10_torsion_64 : decode cX10_torsion 64 = .ok (.laload, 1) := by decide +kernel
theorem dX10_torsion_65 : decode cX10_torsion 65 = .ok (.goto 6, 3) := by decide +kernel
theorem dX10_torsion_68 : decode cX10_torsion 68 = .ok (.ldc2_w 219, 3) := by decide +kernel
theorem dX10_torsion_71 : decode cX10_torsion 71 = .ok (.lreturn, 1) := by decide +kernel
theorem dX10_maps_0 : decode cX10_maps 0 = .ok (.iload_n 1, 1) := by decide +kernel
theorem dX10_maps_1 : decode cX10_maps 1 = .ok (.invokestatic 92, 3) := by decide +kernel
theorem dX10_maps_4 : decode cX10_maps 4 = .ok (.ifCond .eq 10, 3) := by decide +kernel
theorem dX10_maps_7 : decode cX10_maps 7 = .ok (.iload_n 2, 1) := by decide +kernel
theorem dX10_maps_8 : decode cX10_maps 8 = .ok (.invokestatic 221, 3) := by decide +kernel
theorem dX10_maps_11 : decode cX10_maps 11 = .ok (.ifCond .ne 7, 3) := by decide +kernel
theorem dX10_maps_14 : decode cX10_maps 14 = .ok (.ldc2_w 211, 3) := by decide +kernel
theorem dX10_maps_17 : decode cX10_maps 17 = .ok (.lreturn, 1) := by decide +kernel
theorem dX10_maps_18 : decode cX10_maps 18 = .ok (.aload_n 0, 1) := by decide +kernel
theorem dX10_maps_19 : decode cX10_maps 19 = .ok (.iload_n 1, 1) := by decide +kernel
theorem dX10_maps_20 : decode cX10_maps 20 = .ok (.iload_n 2, 1) := by decide +kernel
theorem dX10_maps_21 : decode cX10_maps 21 = .ok (.invokevirtual 224, 3) := by decide +kernel
theorem dX10_maps_24 : decode cX10_maps 24 = .ok (.lreturn, 1) := by decide +kernel
theorem dX10_threes_0 : decode cX10_threes 0 = .ok (.iload_n 1, 1) := by decide +kernel
theorem dX10_threes_1 : decode cX10_threes 1 = .ok (.invokestatic 92, 3) := by decide +kernel
theorem dX10_threes_4 : decode cX10_threes 4 = .ok (.ifCond .ne 7, 3) := by decide +kernel
theorem dX10_threes_7 : decode cX10_threes 7 = .ok (.ldc2_w 211, 3) := by decide +kernel
theorem dX10_threes_10 : decode cX10_threes 10 = .ok (.lreturn, 1) := by decide +kernel
theorem dX10_threes_11 : decode cX10_threes 11 = .ok (.aload_n 0, 1) := by decide +kernel
theorem dX10_threes_12 : decode cX10_threes 12 = .ok (.getfield 69, 3) := by decide +kernel
theorem dX10_threes_15 : decode cX10_threes 15 = .ok (.aload_n 0, 1) := by decide +kernel
theorem dX10_threes_16 : decode cX10_threes 16 = .ok (.getfield 10, 3) := by decide +kernel
theorem dX10_threes_19 : decode cX10_threes 19 = .ok (.getfield 104, 3) := by decide +kernel
theorem dX10_threes_22 : decode cX10_threes 22 = .ok (.iload_n 1, 1) := by decide +kernel
theorem dX10_threes_23 : decode cX10_threes 23 = .ok (.aaload, 1) := by decide +kernel
theorem dX10_threes_24 : decode cX10_threes 24 = .ok (.invokevirtual 228, 3) := by decide +kernel
theorem dX10_threes_27 : decode cX10_threes 27 = .ok (.lreturn, 1) := by decide +kernel
theorem dX10_lens_0 : decode cX10_lens 0 = .ok (.iload_n 1, 1) := by decide +kernel
theorem dX10_lens_1 : decode cX10_lens 1 = .ok (.invokestatic 92, 3) := by decide +kernel
theorem dX10_lens_4 : decode cX10_lens 4 = .ok (.ifCond .eq 12, 3) := by decide +kernel
theorem dX10_lens_7 : decode cX10_lens 7 = .ok (.iload_n 2, 1) := by decide +kernel
theorem dX10_lens_8 : decode cX10_lens 8 = .ok (.ifCond .lt 8, 3) := by decide +kernel
theorem dX10_lens_11 : decode cX10_lens 11 = .ok (.iload_n 2, 1) := by decide +kernel
theorem dX10_lens_12 : decode cX10_lens 12 = .ok (.iconst 1, 1) := by decide +kernel
theorem dX10_lens_13 : decode cX10_lens 13 = .ok (.if_icmp .le 7, 3) := by decide +kernel
theorem dX10_lens_16 : decode cX10_lens 16 = .ok (.ldc2_w 211, 3) := by decide +kernel
theorem dX10_lens_19 : decode cX10_lens 19 = .ok (.lreturn, 1) := by decide +kernel
theorem dX10_lens_20 : decode cX10_lens 20 = .ok (.aload_n 0, 1) := by decide +kernel
theorem dX10_lens_21 : decode cX10_lens 21 = .ok (.getfield 10, 3) := by decide +kernel
theorem dX10_lens_24 : decode cX10_lens 24 = .ok (.getfield 104, 3) := by decide +kernel
theorem dX10_lens_27 : decode cX10_lens 27 = .ok (.iload_n 1, 1) := by decide +kernel
theorem dX10_lens_28 : decode cX10_lens 28 = .ok (.aaload, 1) := by decide +kernel
theorem dX10_lens_29 : decode cX10_lens 29 = .ok (.astore_n 3, 1) := by decide +kernel
theorem dX10_lens_30 : decode cX10_lens 30 = .ok (.aload_n 3, 1) := by decide +kernel
theorem dX10_lens_31 : decode cX10_lens 31 = .ok (.getfield 154, 3) := by decide +kernel
theorem dX10_lens_34 : decode cX10_lens 34 = .ok (.ifCond .ne 18, 3) := by decide +kernel
theorem dX10_lens_37 : decode cX10_lens 37 = .ok (.aload_n 3, 1) := by decide +kernel
theorem dX10_lens_38 : decode cX10_lens 38 = .ok (.getfield 151, 3) := by decide +kernel
theorem dX10_lens_41 : decode cX10_lens 41 = .ok (.ifCond .ne 11, 3) := by decide +kernel
theorem dX10_lens_44 : decode cX10_lens 44 = .ok (.aload_n 3, 1) := by decide +kernel
theorem dX10_lens_45 : decode cX10_lens 45 = .ok (.getfield 120, 3) := by decide +kernel
theorem dX10_lens_48 : decode cX10_lens 48 = .ok (.iconst 2, 1) := by decide +kernel
theorem dX10_lens_49 : decode cX10_lens 49 = .ok (.if_icmp .le 7, 3) := by decide +kernel
theorem dX10_lens_52 : decode cX10_lens 52 = .ok (.ldc2_w 232, 3) := by decide +kernel
theorem dX10_lens_55 : decode cX10_lens 55 = .ok (.lreturn, 1) := by decide +kernel
theorem dX10_lens_56 : decode cX10_lens 56 = .ok (.aload_n 0, 1) := by decide +kernel
theorem dX10_lens_57 : decode cX10_lens 57 = .ok (.getfield 76, 3) := by decide +kernel
theorem dX10_lens_60 : decode cX10_lens 60 = .ok (.aload_n 3, 1) := by decide +kernel
theorem dX10_lens_61 : decode cX10_lens 61 = .ok (.invokevirtual 234, 3) := by decide +kernel
theorem dX10_lens_64 : decode cX10_lens 64 = .ok (.iload_n 2, 1) := by decide +kernel
theorem dX10_lens_65 : decode cX10_lens 65 = .ok (.ifCond .ne 13, 3) := by decide +kernel
theorem dX10_lens_68 : decode cX10_lens 68 = .ok (.aload_n 0, 1) := by decide +kernel
theorem dX10_lens_69 : decode cX10_lens 69 = .ok (.getfield 76, 3) := by decide +kernel
theorem dX10_lens_72 : decode cX10_lens 72 = .ok (.getfield 235, 3) := by decide +kernel
theorem dX10_lens_75 : decode cX10_lens 75 = .ok (.goto 10, 3) := by decide +kernel
theorem dX10_lens_78 : decode cX10_lens 78 = .ok (.aload_n 0, 1) := by decide +kernel
theorem dX10_lens_79 : decode cX10_lens 79 = .ok (.getfield 76, 3) := by decide +kernel
theorem dX10_lens_82 : decode cX10_lens 82 = .ok (.getfield 238, 3) := by decide +kernel
theorem dX10_lens_85 : decode cX10_lens 85 = .ok (.lreturn, 1) := by decide +kernel
theorem dX10_sees_0 : decode cX10_sees 0 = .ok (.iload_n 1, 1) := by decide +kernel
theorem dX10_sees_1 : decode cX10_sees 1 = .ok (.invokestatic 221, 3) := by decide +kernel
theorem dX10_sees_4 : decode cX10_sees 4 = .ok (.ifCond .eq 9, 3) := by decide +kernel
theorem dX10_sees_7 : decode cX10_sees 7 = .ok (.lload_n 2, 1) := by decide +kernel
theorem dX10_sees_8 : decode cX10_sees 8 = .ok (.lconst 0, 1) := by decide +kernel
theorem dX10_sees_9 : decode cX10_sees 9 = .ok (.lcmp, 1) := by decide +kernel
theorem dX10_sees_10 : decode cX10_sees 10 = .ok (.ifCond .ge 5, 3) := by decide +kernel
theorem dX10_sees_13 : decode cX10_sees 13 = .ok (.iconst (-1), 1) := by decide +kernel
theorem dX10_sees_14 : decode cX10_sees 14 = .ok (.ireturn, 1) := by decide +kernel
theorem dX10_sees_15 : decode cX10_sees 15 = .ok (.aload_n 0, 1) := by decide +kernel
theorem dX10_sees_16 : decode cX10_sees 16 = .ok (.getfield 41, 3) := by decide +kernel
theorem dX10_sees_19 : decode cX10_sees 19 = .ok (.getfield 241, 3) := by decide +kernel
theorem dX10_sees_22 : decode cX10_sees 22 = .ok (.bipush 6, 2) := by decide +kernel
theorem dX10_sees_24 : decode cX10_sees 24 = .ok (.if_icmp .lt 6, 3) := by decide +kernel
theorem dX10_sees_27 : decode cX10_sees 27 = .ok (.bipush (-3), 2) := by decide +kernel
theorem dX10_sees_29 : decode cX10_sees 29 = .ok (.ireturn, 1) := by decide +kernel
theorem dX10_sees_30 : decode cX10_sees 30 = .ok (.aload_n 0, 1) := by decide +kernel
theorem dX10_sees_31 : decode cX10_sees 31 = .ok (.getfield 41, 3) := by decide +kernel
theorem dX10_sees_34 : decode cX10_sees 34 = .ok (.iload_n 1, 1) := by decide +kernel
theorem dX10_sees_35 : decode cX10_sees 35 = .ok (.lload_n 2, 1) := by decide +kernel
theorem dX10_sees_36 : decode cX10_sees 36 = .ok (.invokevirtual 242, 3) := by decide +kernel
theorem dX10_sees_39 : decode cX10_sees 39 = .ok (.aload_n 0, 1) := by decide +kernel
theorem dX10_sees_40 : decode cX10_sees 40 = .ok (.getfield 41, 3) := by decide +kernel
theorem dX10_sees_43 : decode cX10_sees 43 = .ok (.getfield 241, 3) := by decide +kernel
theorem dX10_sees_46 : decode cX10_sees 46 = .ok (.ireturn, 1) := by decide +kernel
theorem dX10_forget_0 : decode cX10_forget 0 = .ok (.aload_n 0, 1) := by decide +kernel
theorem dX10_forget_1 : decode cX10_forget 1 = .ok (.getfield 41, 3) := by decide +kernel
theorem dX10_forget_4 : decode cX10_forget 4 = .ok (.getfield 241, 3) := by decide +kernel
theorem dX10_forget_7 : decode cX10_forget 7 = .ok (.istore_n 1, 1) := by decide +kernel
theorem dX10_forget_8 : decode cX10_forget 8 = .ok (.aload_n 0, 1) := by decide +kernel
theorem dX10_forget_9 : decode cX10_forget 9 = .ok (.getfield 41, 3) := by decide +kernel
theorem dX10_forget_12 : decode cX10_forget 12 = .ok (.iconst 0, 1) := by decide +kernel
theorem dX10_forget_13 : decode cX10_forget 13 = .ok (.putfield 241, 3) := by decide +kernel
theorem dX10_forget_16 : decode cX10_forget 16 = .ok (.iload_n 1, 1) := by decide +kernel
theorem dX10_forget_17 : decode cX10_forget 17 = .ok (.ireturn, 1) := by decide +kernel
theorem dX10_which_0 : decode cX10_which 0 = .ok (.aload_n 0, 1) := by decide +kernel
theorem dX10_which_1 : decode cX10_which 1 = .ok (.invokevirtual 246, 3) := by decide +kernel
theorem dX10_which_4 : decode cX10_which 4 = .ok (.ireturn, 1) := by decide +kernel
theorem dX10_ask_0 : decode cX10_ask 0 = .ok (.aload_n 0, 1) := by decide +kernel
theorem dX10_ask_1 : decode cX10_ask 1 = .ok (.invokevirtual 246, 3) := by decide +kernel
theorem dX10_ask_4 : decode cX10_ask 4 = .ok (.istore_n 1, 1) := by decide +kernel
theorem dX10_ask_5 : decode cX10_ask 5 = .ok (.iload_n 1, 1) := by decide +kernel
theorem dX10_ask_6 : decode cX10_ask 6 = .ok (.invokestatic 249, 3) := by decide +kernel
theorem dX10_ask_9 : decode cX10_ask 9 = .ok (.iconst 2, 1) := by decide +kernel
theorem dX10_ask_10 : decode cX10_ask 10 = .ok (.if_icmp .ge 6, 3) := by decide +kernel
theorem dX10_ask_13 : decode cX10_ask 13 = .ok (.bipush (-9), 2) := by decide +kernel
theorem dX10_ask_15 : decode cX10_ask 15 = .ok (.ireturn, 1) := by decide +kernel
theorem dX10_ask_16 : decode cX10_ask 16 = .ok (.iconst 2, 1) := by decide +kernel
theorem dX10_ask_17 : decode cX10_ask 17 = .ok (.istore_n 2, 1) := by decide +kernel
theorem dX10_ask_18 : decode cX10_ask 18 = .ok (.bipush 7, 2) := by decide +kernel
theorem dX10_ask_20 : decode cX10_ask 20 = .ok (.istore_n 3, 1) := by decide +kernel
theorem dX10_ask_21 : decode cX10_ask 21 = .ok (.iconst 2, 1) := by decide +kernel
theorem dX10_ask_22 : decode cX10_ask 22 = .ok (.istore 4, 2) := by decide +kernel
theorem dX10_ask_24 : decode cX10_ask 24 = .ok (.iload 4, 2) := by decide +kernel
theorem dX10_ask_26 : decode cX10_ask 26 = .ok (.bipush 12, 2) := by decide +kernel
theorem dX10_ask_28 : decode cX10_ask 28 = .ok (.if_icmp .gt 30, 3) := by decide +kernel
theorem dX10_ask_31 : decode cX10_ask 31 = .ok (.aload_n 0, 1) := by decide +kernel
theorem dX10_ask_32 : decode cX10_ask 32 = .ok (.iload_n 1, 1) := by decide +kernel
theorem dX10_ask_33 : decode cX10_ask 33 = .ok (.iload 4, 2) := by decide +kernel
theorem dX10_ask_35 : decode cX10_ask 35 = .ok (.invokevirtual 255, 3) := by decide +kernel
theorem dX10_ask_38 : decode cX10_ask 38 = .ok (.istore 5, 2) := by decide +kernel
theorem dX10_ask_40 : decode cX10_ask 40 = .ok (.iload 5, 2) := by decide +kernel
theorem dX10_ask_42 : decode cX10_ask 42 = .ok (.iload_n 3, 1) := by decide +kernel
theorem dX10_ask_43 : decode cX10_ask 43 = .ok (.if_icmp .ge 9, 3) := by decide +kernel
theorem dX10_ask_46 : decode cX10_ask 46 = .ok (.iload 5, 2) := by decide +kernel
theorem dX10_ask_48 : decode cX10_ask 48 = .ok (.istore_n 3, 1) := by decide +kernel
theorem dX10_ask_49 : decode cX10_ask 49 = .ok (.iload 4, 2) := by decide +kernel
theorem dX10_ask_51 : decode cX10_ask 51 = .ok (.istore_n 2, 1) := by decide +kernel
theorem dX10_ask_52 : decode cX10_ask 52 = .ok (.iinc 4 1, 3) := by decide +kernel
theorem dX10_ask_55 : decode cX10_ask 55 = .ok (.goto (-31), 3) := by decide +kernel
theorem dX10_ask_58 : decode cX10_ask 58 = .ok (.iload_n 2, 1) := by decide +kernel
theorem dX10_ask_59 : decode cX10_ask 59 = .ok (.ireturn, 1) := by decide +kernel
theorem dX10_keep_0 : decode cX10_keep 0 = .ok (.iload_n 1, 1) := by decide +kernel
theorem dX10_keep_1 : decode cX10_keep 1 = .ok (.ifCond .lt 8, 3) := by decide +kernel
theorem dX10_keep_4 : decode cX10_keep 4 = .ok (.iload_n 1, 1) := by decide +kernel
theorem dX10_keep_5 : decode cX10_keep 5 = .ok (.iconst 2, 1) := by decide +kernel
theorem dX10_keep_6 : decode cX10_keep 6 = .ok (.if_icmp .lt 5, 3) := by decide +kernel
theorem dX10_keep_9 : decode cX10_keep 9 = .ok (.iconst (-1), 1) := by decide +kernel
theorem dX10_keep_10 : decode cX10_keep 10 = .ok (.ireturn, 1) := by decide +kernel
theorem dX10_keep_11 : decode cX10_keep 11 = .ok (.aload_n 0, 1) := by decide +kernel
theorem dX10_keep_12 : decode cX10_keep 12 = .ok (.getfield 23, 3) := by decide +kernel
theorem dX10_keep_15 : decode cX10_keep 15 = .ok (.iload_n 1, 1) := by decide +kernel
theorem dX10_keep_16 : decode cX10_keep 16 = .ok (.aaload, 1) := by decide +kernel
theorem dX10_keep_17 : decode cX10_keep 17 = .ok (.aload_n 0, 1) := by decide +kernel
theorem dX10_keep_18 : decode cX10_keep 18 = .ok (.getfield 10, 3) := by decide +kernel
theorem dX10_keep_21 : decode cX10_keep 21 = .ok (.invokevirtual 258, 3) := by decide +kernel
theorem dX10_keep_24 : decode cX10_keep 24 = .ok (.aload_n 0, 1) := by decide +kernel
theorem dX10_keep_25 : decode cX10_keep 25 = .ok (.getfield 27, 3) := by decide +kernel
theorem dX10_keep_28 : decode cX10_keep 28 = .ok (.iload_n 1, 1) := by decide +kernel
theorem dX10_keep_29 : decode cX10_keep 29 = .ok (.iconst 1, 1) := by decide +kernel
theorem dX10_keep_30 : decode cX10_keep 30 = .ok (.bastore, 1) := by decide +kernel
theorem dX10_keep_31 : decode cX10_keep 31 = .ok (.aload_n 0, 1) := by decide +kernel
theorem dX10_keep_32 : decode cX10_keep 32 = .ok (.getfield 10, 3) := by decide +kernel
theorem dX10_keep_35 : decode cX10_keep 35 = .ok (.invokevirtual 260, 3) := by decide +kernel
theorem dX10_keep_38 : decode cX10_keep 38 = .ok (.ireturn, 1) := by decide +kernel
theorem dX10_back_0 : decode cX10_back 0 = .ok (.iload_n 1, 1) := by decide +kernel
theorem dX10_back_1 : decode cX10_back 1 = .ok (.ifCond .lt 8, 3) := by decide +kernel
theorem dX10_back_4 : decode cX10_back 4 = .ok (.iload_n 1, 1) := by decide +kernel
theorem dX10_back_5 : decode cX10_back 5 = .ok (.iconst 2, 1) := by decide +kernel
theorem dX10_back_6 : decode cX10_back 6 = .ok (.if_icmp .lt 5, 3) := by decide +kernel
theorem dX10_back_9 : decode cX10_back 9 = .ok (.iconst (-1), 1) := by decide +kernel
theorem dX10_back_10 : decode cX10_back 10 = .ok (.ireturn, 1) := by decide +kernel
theorem dX10_back_11 : decode cX10_back 11 = .ok (.aload_n 0, 1) := by decide +kernel
theorem dX10_back_12 : decode cX10_back 12 = .ok (.getfield 27, 3) := by decide +kernel
theorem dX10_back_15 : decode cX10_back 15 = .ok (.iload_n 1, 1) := by decide +kernel
theorem dX10_back_16 : decode cX10_back 16 = .ok (.baload, 1) := by decide +kernel
theorem dX10_back_17 : decode cX10_back 17 = .ok (.ifCond .ne 6, 3) := by decide +kernel
theorem dX10_back_20 : decode cX10_back 20 = .ok (.bipush (-2), 2) := by decide +kernel
theorem dX10_back_22 : decode cX10_back 22 = .ok (.ireturn, 1) := by decide +kernel
theorem dX10_back_23 : decode cX10_back 23 = .ok (.aload_n 0, 1) := by decide +kernel
theorem dX10_back_24 : decode cX10_back 24 = .ok (.getfield 10, 3) := by decide +kernel
theorem dX10_back_27 : decode cX10_back 27 = .ok (.aload_n 0, 1) := by decide +kernel
theorem dX10_back_28 : decode cX10_back 28 = .ok (.getfield 23, 3) := by decide +kernel
theorem dX10_back_31 : decode cX10_back 31 = .ok (.iload_n 1, 1) := by decide +kernel
theorem dX10_back_32 : decode cX10_back 32 = .ok (.aaload, 1) := by decide +kernel
theorem dX10_back_33 : decode cX10_back 33 = .ok (.invokevirtual 258, 3) := by decide +kernel
theorem dX10_back_36 : decode cX10_back 36 = .ok (.aload_n 0, 1) := by decide +kernel
theorem dX10_back_37 : decode cX10_back 37 = .ok (.getfield 19, 3) := by decide +kernel
theorem dX10_back_40 : decode cX10_back 40 = .ok (.iconst 0, 1) := by decide +kernel
theorem dX10_back_41 : decode cX10_back 41 = .ok (.putfield 160, 3) := by decide +kernel
theorem dX10_back_44 : decode cX10_back 44 = .ok (.aload_n 0, 1) := by decide +kernel
theorem dX10_back_45 : decode cX10_back 45 = .ok (.getfield 10, 3) := by decide +kernel
theorem dX10_back_48 : decode cX10_back 48 = .ok (.invokevirtual 260, 3) := by decide +kernel
theorem dX10_back_51 : decode cX10_back 51 = .ok (.ireturn, 1) := by decide +kernel
theorem dX10_count_0 : decode cX10_count 0 = .ok (.iload_n 1, 1) := by decide +kernel
theorem dX10_count_1 : decode cX10_count 1 = .ok (.tableswitch 63 0 3 #[31, 39, 47, 55], 31) := by decide +kernel
theorem dX10_count_32 : decode cX10_count 32 = .ok (.aload_n 0, 1) := by decide +kernel
theorem dX10_count_33 : decode cX10_count 33 = .ok (.getfield 10, 3) := by decide +kernel
theorem dX10_count_36 : decode cX10_count 36 = .ok (.invokevirtual 260, 3) := by decide +kernel
theorem dX10_count_39 : decode cX10_count 39 = .ok (.ireturn, 1) := by decide +kernel
theorem dX10_count_40 : decode cX10_count 40 = .ok (.aload_n 0, 1) := by decide +kernel
theorem dX10_count_41 : decode cX10_count 41 = .ok (.getfield 41, 3) := by decide +kernel
theorem dX10_count_44 : decode cX10_count 44 = .ok (.getfield 241, 3) := by decide +kernel
theorem dX10_count_47 : decode cX10_count 47 = .ok (.ireturn, 1) := by decide +kernel
theorem dX10_count_48 : decode cX10_count 48 = .ok (.aload_n 0, 1) := by decide +kernel
theorem dX10_count_49 : decode cX10_count 49 = .ok (.getfield 34, 3) := by decide +kernel
theorem dX10_count_52 : decode cX10_count 52 = .ok (.getfield 84, 3) := by decide +kernel
theorem dX10_count_55 : decode cX10_count 55 = .ok (.ireturn, 1) := by decide +kernel
theorem dX10_count_56 : decode cX10_count 56 = .ok (.aload_n 0, 1) := by decide +kernel
theorem dX10_count_57 : decode cX10_count 57 = .ok (.getfield 19, 3) := by decide +kernel
theorem dX10_count_60 : decode cX10_count 60 = .ok (.getfield 160, 3) := by decide +kernel
theorem dX10_count_63 : decode cX10_count 63 = .ok (.ireturn, 1) := by decide +kernel
theorem dX10_count_64 : decode cX10_count 64 = .ok (.iconst (-1), 1) := by decide +kernel
theorem dX10_count_65 : decode cX10_count 65 = .ok (.ireturn, 1) := by decide +kernel
theorem dX10_isSpace_0 : decode cX10_isSpace 0 = .ok (.iload_n 0, 1) := by decide +kernel
theorem dX10_isSpace_1 : decode cX10_isSpace 1 = .ok (.ifCond .lt 13, 3) := by decide +kernel
theorem dX10_isSpace_4 : decode cX10_isSpace 4 = .ok (.iload_n 0, 1) := by decide +kernel
theorem dX10_isSpace_5 : decode cX10_isSpace 5 = .ok (.bipush 6, 2) := by decide +kernel
theorem dX10_isSpace_7 : decode cX10_isSpace 7 = .ok (.if_icmp .ge 7, 3) := by decide +kernel
theorem dX10_isSpace_10 : decode cX10_isSpace 10 = .ok (.iconst 1, 1) := by decide +kernel
theorem dX10_isSpace_11 : decode cX10_isSpace 11 = .ok (.goto 4, 3) := by decide +kernel
theorem dX10_isSpace_14 : decode cX10_isSpace 14 = .ok (.iconst 0, 1) := by decide +kernel
theorem dX10_isSpace_15 : decode cX10_isSpace 15 = .ok (.ireturn, 1) := by decide +kernel
theorem dX10_isFibre_0 : decode cX10_isFibre 0 = .ok (.iload_n 1, 1) := by decide +kernel
theorem dX10_isFibre_1 : decode cX10_isFibre 1 = .ok (.invokestatic 92, 3) := by decide +kernel
theorem dX10_isFibre_4 : decode cX10_isFibre 4 = .ok (.ifCond .eq 27, 3) := by decide +kernel
theorem dX10_isFibre_7 : decode cX10_isFibre 7 = .ok (.iload_n 2, 1) := by decide +kernel
theorem dX10_isFibre_8 : decode cX10_isFibre 8 = .ok (.ifCond .lt 23, 3) := by decide +kernel
theorem dX10_isFibre_11 : decode cX10_isFibre 11 = .ok (.iload_n 2, 1) := by decide +kernel
theorem dX10_isFibre_12 : decode cX10_isFibre 12 = .ok (.aload_n 0, 1) := by decide +kernel
theorem dX10_isFibre_13 : decode cX10_isFibre 13 = .ok (.getfield 10, 3) := by decide +kernel
theorem dX10_isFibre_16 : decode cX10_isFibre 16 = .ok (.getfield 104, 3) := by decide +kernel
theorem dX10_isFibre_19 : decode cX10_isFibre 19 = .ok (.iload_n 1, 1) := by decide +kernel
theorem dX10_isFibre_20 : decode cX10_isFibre 20 = .ok (.aaload, 1) := by decide +kernel
theorem dX10_isFibre_21 : decode cX10_isFibre 21 = .ok (.getfield 120, 3) := by decide +kernel
theorem dX10_isFibre_24 : decode cX10_isFibre 24 = .ok (.if_icmp .ge 7, 3) := by decide +kernel
theorem dX10_isFibre_27 : decode cX10_isFibre 27 = .ok (.iconst 1, 1) := by decide +kernel
theorem dX10_isFibre_28 : decode cX10_isFibre 28 = .ok (.goto 4, 3) := by decide +kernel
theorem dX10_isFibre_31 : decode cX10_isFibre 31 = .ok (.iconst 0, 1) := by decide +kernel
theorem dX10_isFibre_32 : decode cX10_isFibre 32 = .ok (.ireturn, 1) := by decide +kernel
theorem dX10_isOrder_0 : decode cX10_isOrder 0 = .ok (.iload_n 0, 1) := by decide +kernel
theorem dX10_isOrder_1 : decode cX10_isOrder 1 = .ok (.iconst 2, 1) := by decide +kernel
theorem dX10_isOrder_2 : decode cX10_isOrder 2 = .ok (.if_icmp .lt 13, 3) := by decide +kernel
theorem dX10_isOrder_5 : decode cX10_isOrder 5 = .ok (.iload_n 0, 1) := by decide +kernel
theorem dX10_isOrder_6 : decode cX10_isOrder 6 = .ok (.bipush 12, 2) := by decide +kernel
theorem dX10_isOrder_8 : decode cX10_isOrder 8 = .ok (.if_icmp .gt 7, 3) := by decide +kernel
theorem dX10_isOrder_11 : decode cX10_isOrder 11 = .ok (.iconst 1, 1) := by decide +kernel
theorem dX10_isOrder_12 : decode cX10_isOrder 12 = .ok (.goto 4, 3) := by decide +kernel
theorem dX10_isOrder_15 : decode cX10_isOrder 15 = .ok (.iconst 0, 1) := by decide +kernel
theorem dX10_isOrder_16 : decode cX10_isOrder 16 = .ok (.ireturn, 1) := by decide +kernel
theorem dX10_settle_0 : decode cX10_settle 0 = .ok (.aload_n 0, 1) := by decide +kernel
theorem dX10_settle_1 : decode cX10_settle 1 = .ok (.getfield 48, 3) := by decide +kernel
theorem dX10_settle_4 : decode cX10_settle 4 = .ok (.invokevirtual 263, 3) := by decide +kernel
theorem dX10_settle_7 : decode cX10_settle 7 = .ok (.ifCond .ne 6, 3) := by decide +kernel
theorem dX10_settle_10 : decode cX10_settle 10 = .ok (.bipush (-3), 2) := by decide +kernel
theorem dX10_settle_12 : decode cX10_settle 12 = .ok (.ireturn, 1) := by decide +kernel
theorem dX10_settle_13 : decode cX10_settle 13 = .ok (.aload_n 0, 1) := by decide +kernel
theorem dX10_settle_14 : decode cX10_settle 14 = .ok (.getfield 19, 3) := by decide +kernel
theorem dX10_settle_17 : decode cX10_settle 17 = .ok (.aload_n 0, 1) := by decide +kernel
theorem dX10_settle_18 : decode cX10_settle 18 = .ok (.getfield 10, 3) := by decide +kernel
theorem dX10_settle_21 : decode cX10_settle 21 = .ok (.invokevirtual 267, 3) := by decide +kernel
theorem dX10_settle_24 : decode cX10_settle 24 = .ok (.aload_n 0, 1) := by decide +kernel
theorem dX10_settle_25 : decode cX10_settle 25 = .ok (.getfield 10, 3) := by decide +kernel
theorem dX10_settle_28 : decode cX10_settle 28 = .ok (.getfield 104, 3) := by decide +kernel
theorem dX10_settle_31 : decode cX10_settle 31 = .ok (.iload_n 1, 1) := by decide +kernel
theorem dX10_settle_32 : decode cX10_settle 32 = .ok (.aaload, 1) := by decide +kernel
theorem dX10_settle_33 : decode cX10_settle 33 = .ok (.aload_n 0, 1) := by decide +kernel
theorem dX10_settle_34 : decode cX10_settle 34 = .ok (.getfield 48, 3) := by decide +kernel
theorem dX10_settle_37 : decode cX10_settle 37 = .ok (.invokevirtual 129, 3) := by decide +kernel
theorem dX10_settle_40 : decode cX10_settle 40 = .ok (.iload_n 2, 1) := by decide +kernel
theorem dX10_settle_41 : decode cX10_settle 41 = .ok (.ireturn, 1) := by decide +kernel
theorem dX10_cyclicMaps_0 : decode cX10_cyclicMaps 0 = .ok (.aload_n 0, 1) := by decide +kernel
theorem dX10_cyclicMaps_1 : decode cX10_cyclicMaps 1 = .ok (.getfield 55, 3) := by decide +kernel
theorem dX10_cyclicMaps_4 : decode cX10_cyclicMaps 4 = .ok (.aload_n 0, 1) := by decide +kernel
theorem dX10_cyclicMaps_5 : decode cX10_cyclicMaps 5 = .ok (.getfield 10, 3) := by decide +kernel
theorem dX10_cyclicMaps_8 : decode cX10_cyclicMaps 8 = .ok (.getfield 104, 3) := by decide +kernel
theorem dX10_cyclicMaps_11 : decode cX10_cyclicMaps 11 = .ok (.iload_n 1, 1) := by decide +kernel
theorem dX10_cyclicMaps_12 : decode cX10_cyclicMaps 12 = .ok (.aaload, 1) := by decide +kernel
theorem dX10_cyclicMaps_13 : decode cX10_cyclicMaps 13 = .ok (.invokevirtual 172, 3) := by decide +kernel
theorem dX10_cyclicMaps_16 : decode cX10_cyclicMaps 16 = .ok (.aload_n 0, 1) := by decide +kernel
theorem dX10_cyclicMaps_17 : decode cX10_cyclicMaps 17 = .ok (.getfield 55, 3) := by decide +kernel
theorem dX10_cyclicMaps_20 : decode cX10_cyclicMaps 20 = .ok (.iload_n 2, 1) := by decide +kernel
theorem dX10_cyclicMaps_21 : decode cX10_cyclicMaps 21 = .ok (.invokevirtual 270, 3) := by decide +kernel
theorem dX10_cyclicMaps_24 : decode cX10_cyclicMaps 24 = .ok (.lreturn, 1) := by decide +kernel
theorem dX10_candidates_0 : decode cX10_candidates 0 = .ok (.iconst 0, 1) := by decide +kernel
theorem dX10_candidates_1 : decode cX10_candidates 1 = .ok (.istore_n 1, 1) := by decide +kernel
theorem dX10_candidates_2 : decode cX10_candidates 2 = .ok (.iconst 0, 1) := by decide +kernel
theorem dX10_candidates_3 : decode cX10_candidates 3 = .ok (.istore_n 2, 1) := by decide +kernel
theorem dX10_candidates_4 : decode cX10_candidates 4 = .ok (.iload_n 2, 1) := by decide +kernel
theorem dX10_candidates_5 : decode cX10_candidates 5 = .ok (.bipush 6, 2) := by decide +kernel
theorem dX10_candidates_7 : decode cX10_candidates 7 = .ok (.if_icmp .ge 45, 3) := by decide +kernel
theorem dX10_candidates_10 : decode cX10_candidates 10 = .ok (.aload_n 0, 1) := by decide +kernel
theorem dX10_candidates_11 : decode cX10_candidates 11 = .ok (.getfield 55, 3) := by decide +kernel
theorem dX10_candidates_14 : decode cX10_candidates 14 = .ok (.aload_n 0, 1) := by decide +kernel
theorem dX10_candidates_15 : decode cX10_candidates 15 = .ok (.getfield 10, 3) := by decide +kernel
theorem dX10_candidates_18 : decode cX10_candidates 18 = .ok (.getfield 104, 3) := by decide +kernel
theorem dX10_candidates_21 : decode cX10_candidates 21 = .ok (.iload_n 2, 1) := by decide +kernel
theorem dX10_candidates_22 : decode cX10_candidates 22 = .ok (.aaload, 1) := by decide +kernel
theorem dX10_candidates_23 : decode cX10_candidates 23 = .ok (.invokevirtual 172, 3) := by decide +kernel
theorem dX10_candidates_26 : decode cX10_candidates 26 = .ok (.aload_n 0, 1) := by decide +kernel
theorem dX10_candidates_27 : decode cX10_candidates 27 = .ok (.getfield 41, 3) := by decide +kernel
theorem dX10_candidates_30 : decode cX10_candidates 30 = .ok (.aload_n 0, 1) := by decide +kernel
theorem dX10_candidates_31 : decode cX10_candidates 31 = .ok (.getfield 55, 3) := by decide +kernel
theorem dX10_candidates_34 : decode cX10_candidates 34 = .ok (.invokevirtual 274, 3) := by decide +kernel
theorem dX10_candidates_37 : decode cX10_candidates 37 = .ok (.ifCond .eq 9, 3) := by decide +kernel
theorem dX10_candidates_40 : decode cX10_candidates 40 = .ok (.iload_n 1, 1) := by decide +kernel
theorem dX10_candidates_41 : decode cX10_candidates 41 = .ok (.iconst 1, 1) := by decide +kernel
theorem dX10_candidates_42 : decode cX10_candidates 42 = .ok (.iload_n 2, 1) := by decide +kernel
theorem dX10_candidates_43 : decode cX10_candidates 43 = .ok (.ishl, 1) := by decide +kernel
theorem dX10_candidates_44 : decode cX10_candidates 44 = .ok (.ior, 1) := by decide +kernel
theorem dX10_candidates_45 : decode cX10_candidates 45 = .ok (.istore_n 1, 1) := by decide +kernel
theorem dX10_candidates_46 : decode cX10_candidates 46 = .ok (.iinc 2 1, 3) := by decide +kernel
theorem dX10_candidates_49 : decode cX10_candidates 49 = .ok (.goto (-45), 3) := by decide +kernel
theorem dX10_candidates_52 : decode cX10_candidates 52 = .ok (.iload_n 1, 1) := by decide +kernel
theorem dX10_candidates_53 : decode cX10_candidates 53 = .ok (.ireturn, 1) := by decide +kernel
theorem dX10_greatestClass_0 : decode cX10_greatestClass 0 = .ok (.iconst 0, 1) := by decide +kernel
theorem dX10_greatestClass_1 : decode cX10_greatestClass 1 = .ok (.istore_n 3, 1) := by decide +kernel
theorem dX10_greatestClass_2 : decode cX10_greatestClass 2 = .ok (.iload_n 3, 1) := by decide +kernel
theorem dX10_greatestClass_3 : decode cX10_greatestClass 3 = .ok (.bipush 6, 2) := by decide +kernel
theorem dX10_greatestClass_5 : decode cX10_greatestClass 5 = .ok (.if_icmp .ge 21, 3) := by decide +kernel
theorem dX10_greatestClass_8 : decode cX10_greatestClass 8 = .ok (.aload_n 0, 1) := by decide +kernel
theorem dX10_greatestClass_9 : decode cX10_greatestClass 9 = .ok (.getfield 80, 3) := by decide +kernel
theorem dX10_greatestClass_12 : decode cX10_greatestClass 12 = .ok (.iload_n 3, 1) := by decide +kernel
theorem dX10_greatestClass_13 : decode cX10_greatestClass 13 = .ok (.aload_n 0, 1) := by decide +kernel
theorem dX10_greatestClass_14 : decode cX10_greatestClass 14 = .ok (.iload_n 3, 1) := by decide +kernel
theorem dX10_greatestClass_15 : decode cX10_greatestClass 15 = .ok (.iload_n 2, 1) := by decide +kernel
theorem dX10_greatestClass_16 : decode cX10_greatestClass 16 = .ok (.invokevirtual 224, 3) := by decide +kernel
theorem dX10_greatestClass_19 : decode cX10_greatestClass 19 = .ok (.lastore, 1) := by decide +kernel
theorem dX10_greatestClass_20 : decode cX10_greatestClass 20 = .ok (.iinc 3 1, 3) := by decide +kernel
theorem dX10_greatestClass_23 : decode cX10_greatestClass 23 = .ok (.goto (-21), 3) := by decide +kernel
theorem dX10_greatestClass_26 : decode cX10_greatestClass 26 = .ok (.iconst 0, 1) := by decide +kernel
theorem dX10_greatestClass_27 : decode cX10_greatestClass 27 = .ok (.istore_n 3, 1) := by decide +kernel
theorem dX10_greatestClass_28 : decode cX10_greatestClass 28 = .ok (.iconst 0, 1) := by decide +kernel
theorem dX10_greatestClass_29 : decode cX10_greatestClass 29 = .ok (.istore 4, 2) := by decide +kernel
theorem dX10_greatestClass_31 : decode cX10_greatestClass 31 = .ok (.iload 4, 2) := by decide +kernel
theorem dX10_greatestClass_33 : decode cX10_greatestClass 33 = .ok (.bipush 6, 2) := by decide +kernel
theorem dX10_greatestClass_35 : decode cX10_greatestClass 35 = .ok (.if_icmp .ge 83, 3) := by decide +kernel
theorem dX10_greatestClass_38 : decode cX10_greatestClass 38 = .ok (.iconst 0, 1) := by decide +kernel
theorem dX10_greatestClass_39 : decode cX10_greatestClass 39 = .ok (.istore 5, 2) := by decide +kernel
theorem dX10_greatestClass_41 : decode cX10_greatestClass 41 = .ok (.iconst 0, 1) := by decide +kernel
theorem dX10_greatestClass_42 : decode cX10_greatestClass 42 = .ok (.istore 6, 2) := by decide +kernel
theorem dX10_greatestClass_44 : decode cX10_greatestClass 44 = .ok (.iload 6, 2) := by decide +kernel
theorem dX10_greatestClass_46 : decode cX10_greatestClass 46 = .ok (.bipush 6, 2) := by decide +kernel
theorem dX10_greatestClass_48 : decode cX10_greatestClass 48 = .ok (.if_icmp .ge 57, 3) := by decide +kernel
theorem dX10_greatestClass_51 : decode cX10_greatestClass 51 = .ok (.iload_n 1, 1) := by decide +kernel
theorem dX10_greatestClass_52 : decode cX10_greatestClass 52 = .ok (.iload 4, 2) := by decide +kernel
theorem dX10_greatestClass_54 : decode cX10_greatestClass 54 = .ok (.ishr, 1) := by decide +kernel
theorem dX10_greatestClass_55 : decode cX10_greatestClass 55 = .ok (.iload_n 1, 1) := by decide +kernel
theorem dX10_greatestClass_56 : decode cX10_greatestClass 56 = .ok (.iload 6, 2) := by decide +kernel
theorem dX10_greatestClass_58 : decode cX10_greatestClass 58 = .ok (.ishr, 1) := by decide +kernel
theorem dX10_greatestClass_59 : decode cX10_greatestClass 59 = .ok (.iand, 1) := by decide +kernel
theorem dX10_greatestClass_60 : decode cX10_greatestClass 60 = .ok (.iconst 1, 1) := by decide +kernel
theorem dX10_greatestClass_61 : decode cX10_greatestClass 61 = .ok (.iand, 1) := by decide +kernel
theorem dX10_greatestClass_62 : decode cX10_greatestClass 62 = .ok (.iconst 1, 1) := by decide +kernel
theorem dX10_greatestClass_63 : decode cX10_greatestClass 63 = .ok (.if_icmp .ne 7, 3) := by decide +kernel
theorem dX10_greatestClass_66 : decode cX10_greatestClass 66 = .ok (.iconst 1, 1) := by decide +kernel
theorem dX10_greatestClass_67 : decode cX10_greatestClass 67 = .ok (.goto 4, 3) := by decide +kernel
theorem dX10_greatestClass_70 : decode cX10_greatestClass 70 = .ok (.iconst 0, 1) := by decide +kernel
theorem dX10_greatestClass_71 : decode cX10_greatestClass 71 = .ok (.istore 7, 2) := by decide +kernel
theorem dX10_greatestClass_73 : decode cX10_greatestClass 73 = .ok (.iload 7, 2) := by decide +kernel
theorem dX10_greatestClass_75 : decode cX10_greatestClass 75 = .ok (.ifCond .eq 24, 3) := by decide +kernel
theorem dX10_greatestClass_78 : decode cX10_greatestClass 78 = .ok (.aload_n 0, 1) := by decide +kernel
theorem dX10_greatestClass_79 : decode cX10_greatestClass 79 = .ok (.getfield 80, 3) := by decide +kernel
theorem dX10_greatestClass_82 : decode cX10_greatestClass 82 = .ok (.iload 4, 2) := by decide +kernel
theorem dX10_greatestClass_84 : decode cX10_greatestClass 84 = .ok (.laload, 1) := by decide +kernel
theorem dX10_greatestClass_85 : decode cX10_greatestClass 85 = .ok (.aload_n 0, 1) := by decide +kernel
theorem dX10_greatestClass_86 : decode cX10_greatestClass 86 = .ok (.getfield 80, 3) := by decide +kernel
theorem dX10_greatestClass_89 : decode cX10_greatestClass 89 = .ok (.iload 6, 2) := by decide +kernel
theorem dX10_greatestClass_91 : decode cX10_greatestClass 91 = .ok (.laload, 1) := by decide +kernel
theorem dX10_greatestClass_92 : decode cX10_greatestClass 92 = .ok (.lcmp, 1) := by decide +kernel
theorem dX10_greatestClass_93 : decode cX10_greatestClass 93 = .ok (.ifCond .ne 6, 3) := by decide +kernel
theorem dX10_greatestClass_96 : decode cX10_greatestClass 96 = .ok (.iinc 5 1, 3) := by decide +kernel
theorem dX10_greatestClass_99 : decode cX10_greatestClass 99 = .ok (.iinc 6 1, 3) := by decide +kernel
theorem dX10_greatestClass_102 : decode cX10_greatestClass 102 = .ok (.goto (-58), 3) := by decide +kernel
theorem dX10_greatestClass_105 : decode cX10_greatestClass 105 = .ok (.iload_n 3, 1) := by decide +kernel
theorem dX10_greatestClass_106 : decode cX10_greatestClass 106 = .ok (.iload 5, 2) := by decide +kernel
theorem dX10_greatestClass_108 : decode cX10_greatestClass 108 = .ok (.invokestatic 278, 3) := by decide +kernel
theorem dX10_greatestClass_111 : decode cX10_greatestClass 111 = .ok (.istore_n 3, 1) := by decide +kernel
theorem dX10_greatestClass_112 : decode cX10_greatestClass 112 = .ok (.iinc 4 1, 3) := by decide +kernel
theorem dX10_greatestClass_115 : decode cX10_greatestClass 115 = .ok (.goto (-84), 3) := by decide +kernel
theorem dX10_greatestClass_118 : decode cX10_greatestClass 118 = .ok (.iload_n 3, 1) := by decide +kernel
theorem dX10_greatestClass_119 : decode cX10_greatestClass 119 = .ok (.ireturn, 1) := by decide +kernel
theorem dL_law_0 : decode cL_law 0 = .ok (.new 7, 3) := by decide +kernel
theorem dL_law_3 : decode cL_law 3 = .ok (.dup, 1) := by decide +kernel
theorem dL_law_4 : decode cL_law 4 = .ok (.invokespecial 9, 3) := by decide +kernel
theorem dL_law_7 : decode cL_law 7 = .ok (.astore_n 1, 1) := by decide +kernel
theorem dL_law_8 : decode cL_law 8 = .ok (.new 10, 3) := by decide +kernel
theorem dL_law_11 : decode cL_law 11 = .ok (.dup, 1) := by decide +kernel
theorem dL_law_12 : decode cL_law 12 = .ok (.invokespecial 12, 3) := by decide +kernel
theorem dL_law_15 : decode cL_law 15 = .ok (.astore_n 2, 1) := by decide +kernel
theorem dL_law_16 : decode cL_law 16 = .ok (.iconst 0, 1) := by decide +kernel
theorem dL_law_17 : decode cL_law 17 = .ok (.istore_n 3, 1) := by decide +kernel
theorem dL_law_18 : decode cL_law 18 = .ok (.iload_n 3, 1) := by decide +kernel
theorem dL_law_19 : decode cL_law 19 = .ok (.aload_n 0, 1) := by decide +kernel
theorem dL_law_20 : decode cL_law 20 = .ok (.arraylength, 1) := by decide +kernel
theorem dL_law_21 : decode cL_law 21 = .ok (.iconst 4, 1) := by decide +kernel
theorem dL_law_22 : decode cL_law 22 = .ok (.isub, 1) := by decide +kernel
theorem dL_law_23 : decode cL_law 23 = .ok (.if_icmp .gt 927, 3) := by decide +kernel
theorem dL_law_26 : decode cL_law 26 = .ok (.aload_n 0, 1) := by decide +kernel
theorem dL_law_27 : decode cL_law 27 = .ok (.iload_n 3, 1) := by decide +kernel
theorem dL_law_28 : decode cL_law 28 = .ok (.iaload, 1) := by decide +kernel
theorem dL_law_29 : decode cL_law 29 = .ok (.bipush 31, 2) := by decide +kernel
theorem dL_law_31 : decode cL_law 31 = .ok (.iand, 1) := by decide +kernel
theorem dL_law_32 : decode cL_law 32 = .ok (.tableswitch 912 0 26 #[124, 147, 160, 183, 206, 249, 292, 325, 358, 391, 424, 437, 471, 514, 548, 582, 615, 649, 683, 707, 741, 804, 817, 830, 843, 866, 889], 124) := by decide +kernel
theorem dL_law_156 : decode cL_law 156 = .ok (.aload_n 1, 1) := by decide +kernel
theorem dL_law_157 : decode cL_law 157 = .ok (.aload_n 0, 1) := by decide +kernel
theorem dL_law_158 : decode cL_law 158 = .ok (.iload_n 3, 1) := by decide +kernel
theorem dL_law_159 : decode cL_law 159 = .ok (.iconst 1, 1) := by decide +kernel
theorem dL_law_160 : decode cL_law 160 = .ok (.iadd, 1) := by decide +kernel
theorem dL_law_161 : decode cL_law 161 = .ok (.iaload, 1) := by decide +kernel
theorem dL_law_162 : decode cL_law 162 = .ok (.invokevirtual 13, 3) := by decide +kernel
theorem dL_law_165 : decode cL_law 165 = .ok (.aload_n 2, 1) := by decide +kernel
theorem dL_law_166 : decode cL_law 166 = .ok (.aload_n 0, 1) := by decide +kernel
theorem dL_law_167 : decode cL_law 167 = .ok (.iload_n 3, 1) := by decide +kernel
theorem dL_law_168 : decode cL_law 168 = .ok (.iconst 1, 1) := by decide +kernel
theorem dL_law_169 : decode cL_law 169 = .ok (.iadd, 1) := by decide +kernel
theorem dL_law_170 : decode cL_law 170 = .ok (.iaload, 1) := by decide +kernel
theorem dL_law_171 : decode cL_law 171 = .ok (.invokevirtual 17, 3) := by decide +kernel
theorem dL_law_174 : decode cL_law 174 = .ok (.if_icmp .eq 770, 3) := by decide +kernel
theorem dL_law_177 : decode cL_law 177 = .ok (.iconst 0, 1) := by decide +kernel
theorem dL_law_178 : decode cL_law 178 = .ok (.ireturn, 1) := by decide +kernel
theorem dL_law_179 : decode cL_law 179 = .ok (.aload_n 1, 1) := by decide +kernel
theorem dL_law_180 : decode cL_law 180 = .ok (.invokevirtual 18, 3) := by decide +kernel
theorem dL_law_183 : decode cL_law 183 = .ok (.aload_n 2, 1) := by decide +kernel
theorem dL_law_184 : decode cL_law 184 = .ok (.invokevirtual 22, 3) := by decide +kernel
theorem dL_law_187 : decode cL_law 187 = .ok (.if_icmp .eq 757, 3) := by decide +kernel
theorem dL_law_190 : decode cL_law 190 = .ok (.iconst 0, 1) := by decide +kernel
theorem dL_law_191 : decode cL_law 191 = .ok (.ireturn, 1) := by decide +kernel
theorem dL_law_192 : decode cL_law 192 = .ok (.aload_n 1, 1) := by decide +kernel
theorem dL_law_193 : decode cL_law 193 = .ok (.aload_n 0, 1) := by decide +kernel
theorem dL_law_194 : decode cL_law 194 = .ok (.iload_n 3, 1) := by decide +kernel
theorem dL_law_195 : decode cL_law 195 = .ok (.iconst 1, 1) := by decide +kernel
theorem dL_law_196 : decode cL_law 196 = .ok (.iadd, 1) := by decide +kernel
theorem dL_law_197 : decode cL_law 197 = .ok (.iaload, 1) := by decide +kernel
theorem dL_law_198 : decode cL_law 198 = .ok (.invokevirtual 23, 3) := by decide +kernel
theorem dL_law_201 : decode cL_law 201 = .ok (.aload_n 2, 1) := by decide +kernel
theorem dL_law_202 : decode cL_law 202 = .ok (.aload_n 0, 1) := by decide +kernel
theorem dL_law_203 : decode cL_law 203 = .ok (.iload_n 3, 1) := by decide +kernel
theorem dL_law_204 : decode cL_law 204 = .ok (.iconst 1, 1) := by decide +kernel
theorem dL_law_205 : decode cL_law 205 = .ok (.iadd, 1) := by decide +kernel
theorem dL_law_206 : decode cL_law 206 = .ok (.iaload, 1) := by decide +kernel
theorem dL_law_207 : decode cL_law 207 = .ok (.invokevirtual 26, 3) := by decide +kernel
theorem dL_law_210 : decode cL_law 210 = .ok (.if_icmp .eq 734, 3) := by decide +kernel
theorem dL_law_213 : decode cL_law 213 = .ok (.iconst 0, 1) := by decide +kernel
theorem dL_law_214 : decode cL_law 214 = .ok (.ireturn, 1) := by decide +kernel
theorem dL_law_215 : decode cL_law 215 = .ok (.aload_n 1, 1) := by decide +kernel
theorem dL_law_216 : decode cL_law 216 = .ok (.aload_n 0, 1) := by decide +kernel
theorem dL_law_217 : decode cL_law 217 = .ok (.iload_n 3, 1) := by decide +kernel
theorem dL_law_218 : decode cL_law 218 = .ok (.iconst 1, 1) := by decide +kernel
theorem dL_law_219 : decode cL_law 219 = .ok (.iadd, 1) := by decide +kernel
theorem dL_law_220 : decode cL_law 220 = .ok (.iaload, 1) := by decide +kernel
theorem dL_law_221 : decode cL_law 221 = .ok (.invokevirtual 27, 3) := by decide +kernel
theorem dL_law_224 : decode cL_law 224 = .ok (.aload_n 2, 1) := by decide +kernel
theorem dL_law_225 : decode cL_law 225 = .ok (.aload_n 0, 1) := by decide +kernel
theorem dL_law_226 : decode cL_law 226 = .ok (.iload_n 3, 1) := by decide +kernel
theorem dL_law_227 : decode cL_law 227 = .ok (.iconst 1, 1) := by decide +kernel
theorem dL_law_228 : decode cL_law 228 = .ok (.iadd, 1) := by decide +kernel
theorem dL_law_229 : decode cL_law 229 = .ok (.iaload, 1) := by decide +kernel
theorem dL_law_230 : decode cL_law 230 = .ok (.invokevirtual 30, 3) := by decide +kernel
theorem dL_law_233 : decode cL_law 233 = .ok (.if_icmp .eq 711, 3) := by decide +kernel
theorem dL_law_236 : decode cL_law 236 = .ok (.iconst 0, 1) := by decide +kernel
theorem dL_law_237 : decode cL_law 237 = .ok (.ireturn, 1) := by decide +kernel
theorem dL_law_238 : decode cL_law 238 = .ok (.aload_n 1, 1) := by decide +kernel
theorem dL_law_239 : decode cL_law 239 = .ok (.aload_n 0, 1) := by decide +kernel
theorem dL_law_240 : decode cL_law 240 = .ok (.iload_n 3, 1) := by decide +kernel
theorem dL_law_241 : decode cL_law 241 = .ok (.iconst 1, 1) := by decide +kernel
theorem dL_law_242 : decode cL_law 242 = .ok (.iadd, 1) := by decide +kernel
theorem dL_law_243 : decode cL_law 243 = .ok (.iaload, 1) := by decide +kernel
theorem dL_law_244 : decode cL_law 244 = .ok (.aload_n 0, 1) := by decide +kernel
theorem dL_law_245 : decode cL_law 245 = .ok (.iload_n 3, 1) := by decide +kernel
theorem dL_law_246 : decode cL_law 246 = .ok (.iconst 2, 1) := by decide +kernel
theorem dL_law_247 : decode cL_law 247 = .ok (.iadd, 1) := by decide +kernel
theorem dL_law_248 : decode cL_law 248 = .ok (.iaload, 1) := by decide +kernel
theorem dL_law_249 : decode cL_law 249 = .ok (.aload_n 0, 1) := by decide +kernel
theorem dL_law_250 : decode cL_law 250 = .ok (.iload_n 3, 1) := by decide +kernel
theorem dL_law_251 : decode cL_law 251 = .ok (.iconst 3, 1) := by decide +kernel
theorem dL_law_252 : decode cL_law 252 = .ok (.iadd, 1) := by decide +kernel
theorem dL_law_253 : decode cL_law 253 = .ok (.iaload, 1) := by decide +kernel
theorem dL_law_254 : decode cL_law 254 = .ok (.invokevirtual 31, 3) := by decide +kernel
theorem dL_law_257 : decode cL_law 257 = .ok (.aload_n 2, 1) := by decide +kernel
theorem dL_law_258 : decode cL_law 258 = .ok (.aload_n 0, 1) := by decide +kernel
theorem dL_law_259 : decode cL_law 259 = .ok (.iload_n 3, 1) := by decide +kernel
theorem dL_law_260 : decode cL_law 260 = .ok (.iconst 1, 1) := by decide +kernel
theorem dL_law_261 : decode cL_law 261 = .ok (.iadd, 1) := by decide +kernel
theorem dL_law_262 : decode cL_law 262 = .ok (.iaload, 1) := by decide +kernel
theorem dL_law_263 : decode cL_law 263 = .ok (.aload_n 0, 1) := by decide +kernel
theorem dL_law_264 : decode cL_law 264 = .ok (.iload_n 3, 1) := by decide +kernel
theorem dL_law_265 : decode cL_law 265 = .ok (.iconst 2, 1) := by decide +kernel
theorem dL_law_266 : decode cL_law 266 = .ok (.iadd, 1) := by decide +kernel
theorem dL_law_267 : decode cL_law 267 = .ok (.iaload, 1) := by decide +kernel
theorem dL_law_268 : decode cL_law 268 = .ok (.aload_n 0, 1) := by decide +kernel
theorem dL_law_269 : decode cL_law 269 = .ok (.iload_n 3, 1) := by decide +kernel
theorem dL_law_270 : decode cL_law 270 = .ok (.iconst 3, 1) := by decide +kernel
theorem dL_law_271 : decode cL_law 271 = .ok (.iadd, 1) := by decide +kernel
theorem dL_law_272 : decode cL_law 272 = .ok (.iaload, 1) := by decide +kernel
theorem dL_law_273 : decode cL_law 273 = .ok (.invokevirtual 35, 3) := by decide +kernel
theorem dL_law_276 : decode cL_law 276 = .ok (.if_icmp .eq 668, 3) := by decide +kernel
theorem dL_law_279 : decode cL_law 279 = .ok (.iconst 0, 1) := by decide +kernel
theorem dL_law_280 : decode cL_law 280 = .ok (.ireturn, 1) := by decide +kernel
theorem dL_law_281 : decode cL_law 281 = .ok (.aload_n 1, 1) := by decide +kernel
theorem dL_law_282 : decode cL_law 282 = .ok (.aload_n 0, 1) := by decide +kernel
theorem dL_law_283 : decode cL_law 283 = .ok (.iload_n 3, 1) := by decide +kernel
theorem dL_law_284 : decode cL_law 284 = .ok (.iconst 1, 1) := by decide +kernel
theorem dL_law_285 : decode cL_law 285 = .ok (.iadd, 1) := by decide +kernel
theorem dL_law_286 : decode cL_law 286 = .ok (.iaload, 1) := by decide +kernel
theorem dL_law_287 : decode cL_law 287 = .ok (.aload_n 0, 1) := by decide +kernel
theorem dL_law_288 : decode cL_law 288 = .ok (.iload_n 3, 1) := by decide +kernel
theorem dL_law_289 : decode cL_law 289 = .ok (.iconst 2, 1) := by decide +kernel
theorem dL_law_290 : decode cL_law 290 = .ok (.iadd, 1) := by decide +kernel
theorem dL_law_291 : decode cL_law 291 = .ok (.iaload, 1) := by decide +kernel
theorem dL_law_292 : decode cL_law 292 = .ok (.aload_n 0, 1) := by decide +kernel
theorem dL_law_293 : decode cL_law 293 = .ok (.iload_n 3, 1) := by decide +kernel
theorem dL_law_294 : decode cL_law 294 = .ok (.iconst 3, 1) := by decide +kernel
theorem dL_law_295 : decode cL_law 295 = .ok (.iadd, 1) := by decide +kernel
theorem dL_law_296 : decode cL_law 296 = .ok (.iaload, 1) := by decide +kernel
theorem dL_law_297 : decode cL_law 297 = .ok (.invokevirtual 36, 3) := by decide +kernel
theorem dL_law_300 : decode cL_law 300 = .ok (.aload_n 2, 1) := by decide +kernel
theorem dL_law_301 : decode cL_law 301 = .ok (.aload_n 0, 1) := by decide +kernel
theorem dL_law_302 : decode cL_law 302 = .ok (.iload_n 3, 1) := by decide +kernel
theorem dL_law_303 : decode cL_law 303 = .ok (.iconst 1, 1) := by decide +kernel
theorem dL_law_304 : decode cL_law 304 = .ok (.iadd, 1) := by decide +kernel
theorem dL_law_305 : decode cL_law 305 = .ok (.iaload, 1) := by decide +kernel
theorem dL_law_306 : decode cL_law 306 = .ok (.aload_n 0, 1) := by decide +kernel
theorem dL_law_307 : decode cL_law 307 = .ok (.iload_n 3, 1) := by decide +kernel
theorem dL_law_308 : decode cL_law 308 = .ok (.iconst 2, 1) := by decide +kernel
theorem dL_law_309 : decode cL_law 309 = .ok (.iadd, 1) := by decide +kernel
theorem dL_law_310 : decode cL_law 310 = .ok (.iaload, 1) := by decide +kernel
theorem dL_law_311 : decode cL_law 311 = .ok (.aload_n 0, 1) := by decide +kernel
theorem dL_law_312 : decode cL_law 312 = .ok (.iload_n 3, 1) := by decide +kernel
theorem dL_law_313 : decode cL_law 313 = .ok (.iconst 3, 1) := by decide +kernel
theorem dL_law_314 : decode cL_law 314 = .ok (.iadd, 1) := by decide +kernel
theorem dL_law_315 : decode cL_law 315 = .ok (.iaload, 1) := by decide +kernel
theorem dL_law_316 : decode cL_law 316 = .ok (.invokevirtual 39, 3) := by decide +kernel
theorem dL_law_319 : decode cL_law 319 = .ok (.if_icmp .eq 625, 3) := by decide +kernel
theorem dL_law_322 : decode cL_law 322 = .ok (.iconst 0, 1) := by decide +kernel
theorem dL_law_323 : decode cL_law 323 = .ok (.ireturn, 1) := by decide +kernel
theorem dL_law_324 : decode cL_law 324 = .ok (.aload_n 1, 1) := by decide +kernel
theorem dL_law_325 : decode cL_law 325 = .ok (.aload_n 0, 1) := by decide +kernel
theorem dL_law_326 : decode cL_law 326 = .ok (.iload_n 3, 1) := by decide +kernel
theorem dL_law_327 : decode cL_law 327 = .ok (.iconst 1, 1) := by decide +kernel
theorem dL_law_328 : decode cL_law 328 = .ok (.iadd, 1) := by decide +kernel
theorem dL_law_329 : decode cL_law 329 = .ok (.iaload, 1) := by decide +kernel
theorem dL_law_330 : decode cL_law 330 = .ok (.aload_n 0, 1) := by decide +kernel
theorem dL_law_331 : decode cL_law 331 = .ok (.iload_n 3, 1) := by decide +kernel
theorem dL_law_332 : decode cL_law 332 = .ok (.iconst 2, 1) := by decide +kernel
theorem dL_law_333 : decode cL_law 333 = .ok (.iadd, 1) := by decide +kernel
theorem dL_law_334 : decode cL_law 334 = .ok (.iaload, 1) := by decide +kernel
theorem dL_law_335 : decode cL_law 335 = .ok (.invokevirtual 40, 3) := by decide +kernel
theorem dL_law_338 : decode cL_law 338 = .ok (.aload_n 2, 1) := by decide +kernel
theorem dL_law_339 : decode cL_law 339 = .ok (.aload_n 0, 1) := by decide +kernel
theorem dL_law_340 : decode cL_law 340 = .ok (.iload_n 3, 1) := by decide +kernel
theorem dL_law_341 : decode cL_law 341 = .ok (.iconst 1, 1) := by decide +kernel
theorem dL_law_342 : decode cL_law 342 = .ok (.iadd, 1) := by decide +kernel
theorem dL_law_343 : decode cL_law 343 = .ok (.iaload, 1) := by decide +kernel
theorem dL_law_344 : decode cL_law 344 = .ok (.aload_n 0, 1) := by decide +kernel
theorem dL_law_345 : decode cL_law 345 = .ok (.iload_n 3, 1) := by decide +kernel
theorem dL_law_346 : decode cL_law 346 = .ok (.iconst 2, 1) := by decide +kernel
theorem dL_law_347 : decode cL_law 347 = .ok (.iadd, 1) := by decide +kernel
theorem dL_law_348 : decode cL_law 348 = .ok (.iaload, 1) := by decide +kernel
theorem dL_law_349 : decode cL_law 349 = .ok (.invokevirtual 44, 3) := by decide +kernel
theorem dL_law_352 : decode cL_law 352 = .ok (.if_icmp .eq 592, 3) := by decide +kernel
theorem dL_law_355 : decode cL_law 355 = .ok (.iconst 0, 1) := by decide +kernel
theorem dL_law_356 : decode cL_law 356 = .ok (.ireturn, 1) := by decide +kernel
theorem dL_law_357 : decode cL_law 357 = .ok (.aload_n 1, 1) := by decide +kernel
theorem dL_law_358 : decode cL_law 358 = .ok (.aload_n 0, 1) := by decide +kernel
theorem dL_law_359 : decode cL_law 359 = .ok (.iload_n 3, 1) := by decide +kernel
theorem dL_law_360 : decode cL_law 360 = .ok (.iconst 1, 1) := by decide +kernel
theorem dL_law_361 : decode cL_law 361 = .ok (.iadd, 1) := by decide +kernel
theorem dL_law_362 : decode cL_law 362 = .ok (.iaload, 1) := by decide +kernel
theorem dL_law_363 : decode cL_law 363 = .ok (.aload_n 0, 1) := by decide +kernel
theorem dL_law_364 : decode cL_law 364 = .ok (.iload_n 3, 1) := by decide +kernel
theorem dL_law_365 : decode cL_law 365 = .ok (.iconst 2, 1) := by decide +kernel
theorem dL_law_366 : decode cL_law 366 = .ok (.iadd, 1) := by decide +kernel
theorem dL_law_367 : decode cL_law 367 = .ok (.iaload, 1) := by decide +kernel
theorem dL_law_368 : decode cL_law 368 = .ok (.invokevirtual 45, 3) := by decide +kernel
theorem dL_law_371 : decode cL_law 371 = .ok (.aload_n 2, 1) := by decide +kernel
theorem dL_law_372 : decode cL_law 372 = .ok (.aload_n 0, 1) := by decide +kernel
theorem dL_law_373 : decode cL_law 373 = .ok (.iload_n 3, 1) := by decide +kernel
theorem dL_law_374 : decode cL_law 374 = .ok (.iconst 1, 1) := by decide +kernel
theorem dL_law_375 : decode cL_law 375 = .ok (.iadd, 1) := by decide +kernel
theorem dL_law_376 : decode cL_law 376 = .ok (.iaload, 1) := by decide +kernel
theorem dL_law_377 : decode cL_law 377 = .ok (.aload_n 0, 1) := by decide +kernel
theorem dL_law_378 : decode cL_law 378 = .ok (.iload_n 3, 1) := by decide +kernel
theorem dL_law_379 : decode cL_law 379 = .ok (.iconst 2, 1) := by decide +kernel
theorem dL_law_380 : decode cL_law 380 = .ok (.iadd, 1) := by decide +kernel
theorem dL_law_381 : decode cL_law 381 = .ok (.iaload, 1) := by decide +kernel
theorem dL_law_382 : decode cL_law 382 = .ok (.invokevirtual 48, 3) := by decide +kernel
theorem dL_law_385 : decode cL_law 385 = .ok (.if_icmp .eq 559, 3) := by decide +kernel
theorem dL_law_388 : decode cL_law 388 = .ok (.iconst 0, 1) := by decide +kernel
theorem dL_law_389 : decode cL_law 389 = .ok (.ireturn, 1) := by decide +kernel
theorem dL_law_390 : decode cL_law 390 = .ok (.aload_n 1, 1) := by decide +kernel
theorem dL_law_391 : decode cL_law 391 = .ok (.aload_n 0, 1) := by decide +kernel
theorem dL_law_392 : decode cL_law 392 = .ok (.iload_n 3, 1) := by decide +kernel
theorem dL_law_393 : decode cL_law 393 = .ok (.iconst 1, 1) := by decide +kernel
theorem dL_law_394 : decode cL_law 394 = .ok (.iadd, 1) := by decide +kernel
theorem dL_law_395 : decode cL_law 395 = .ok (.iaload, 1) := by decide +kernel
theorem dL_law_396 : decode cL_law 396 = .ok (.aload_n 0, 1) := by decide +kernel
theorem dL_law_397 : decode cL_law 397 = .ok (.iload_n 3, 1) := by decide +kernel
theorem dL_law_398 : decode cL_law 398 = .ok (.iconst 2, 1) := by decide +kernel
theorem dL_law_399 : decode cL_law 399 = .ok (.iadd, 1) := by decide +kernel
theorem dL_law_400 : decode cL_law 400 = .ok (.iaload, 1) := by decide +kernel
theorem dL_law_401 : decode cL_law 401 = .ok (.invokevirtual 49, 3) := by decide +kernel
theorem dL_law_404 : decode cL_law 404 = .ok (.aload_n 2, 1) := by decide +kernel
theorem dL_law_405 : decode cL_law 405 = .ok (.aload_n 0, 1) := by decide +kernel
theorem dL_law_406 : decode cL_law 406 = .ok (.iload_n 3, 1) := by decide +kernel
theorem dL_law_407 : decode cL_law 407 = .ok (.iconst 1, 1) := by decide +kernel
theorem dL_law_408 : decode cL_law 408 = .ok (.iadd, 1) := by decide +kernel
theorem dL_law_409 : decode cL_law 409 = .ok (.iaload, 1) := by decide +kernel
theorem dL_law_410 : decode cL_law 410 = .ok (.aload_n 0, 1) := by decide +kernel
theorem dL_law_411 : decode cL_law 411 = .ok (.iload_n 3, 1) := by decide +kernel
theorem dL_law_412 : decode cL_law 412 = .ok (.iconst 2, 1) := by decide +kernel
theorem dL_law_413 : decode cL_law 413 = .ok (.iadd, 1) := by decide +kernel
theorem dL_law_414 : decode cL_law 414 = .ok (.iaload, 1) := by decide +kernel
theorem dL_law_415 : decode cL_law 415 = .ok (.invokevirtual 52, 3) := by decide +kernel
theorem dL_law_418 : decode cL_law 418 = .ok (.if_icmp .eq 526, 3) := by decide +kernel
theorem dL_law_421 : decode cL_law 421 = .ok (.iconst 0, 1) := by decide +kernel
theorem dL_law_422 : decode cL_law 422 = .ok (.ireturn, 1) := by decide +kernel
theorem dL_law_423 : decode cL_law 423 = .ok (.aload_n 1, 1) := by decide +kernel
theorem dL_law_424 : decode cL_law 424 = .ok (.aload_n 0, 1) := by decide +kernel
theorem dL_law_425 : decode cL_law 425 = .ok (.iload_n 3, 1) := by decide +kernel
theorem dL_law_426 : decode cL_law 426 = .ok (.iconst 1, 1) := by decide +kernel
theorem dL_law_427 : decode cL_law 427 = .ok (.iadd, 1) := by decide +kernel
theorem dL_law_428 : decode cL_law 428 = .ok (.iaload, 1) := by decide +kernel
theorem dL_law_429 : decode cL_law 429 = .ok (.aload_n 0, 1) := by decide +kernel
theorem dL_law_430 : decode cL_law 430 = .ok (.iload_n 3, 1) := by decide +kernel
theorem dL_law_431 : decode cL_law 431 = .ok (.iconst 2, 1) := by decide +kernel
theorem dL_law_432 : decode cL_law 432 = .ok (.iadd, 1) := by decide +kernel
theorem dL_law_433 : decode cL_law 433 = .ok (.iaload, 1) := by decide +kernel
theorem dL_law_434 : decode cL_law 434 = .ok (.invokevirtual 53, 3) := by decide +kernel
theorem dL_law_437 : decode cL_law 437 = .ok (.aload_n 2, 1) := by decide +kernel
theorem dL_law_438 : decode cL_law 438 = .ok (.aload_n 0, 1) := by decide +kernel
theorem dL_law_439 : decode cL_law 439 = .ok (.iload_n 3, 1) := by decide +kernel
theorem dL_law_440 : decode cL_law 440 = .ok (.iconst 1, 1) := by decide +kernel
theorem dL_law_441 : decode cL_law 441 = .ok (.iadd, 1) := by decide +kernel
theorem dL_law_442 : decode cL_law 442 = .ok (.iaload, 1) := by decide +kernel
theorem dL_law_443 : decode cL_law 443 = .ok (.aload_n 0, 1) := by decide +kernel
theorem dL_law_444 : decode cL_law 444 = .ok (.iload_n 3, 1) := by decide +kernel
theorem dL_law_445 : decode cL_law 445 = .ok (.iconst 2, 1) := by decide +kernel
theorem dL_law_446 : decode cL_law 446 = .ok (.iadd, 1) := by decide +kernel
theorem dL_law_447 : decode cL_law 447 = .ok (.iaload, 1) := by decide +kernel
theorem dL_law_448 : decode cL_law 448 = .ok (.invokevirtual 56, 3) := by decide +kernel
theorem dL_law_451 : decode cL_law 451 = .ok (.if_icmp .eq 493, 3) := by decide +kernel
theorem dL_law_454 : decode cL_law 454 = .ok (.iconst 0, 1) := by decide +kernel
theorem dL_law_455 : decode cL_law 455 = .ok (.ireturn, 1) := by decide +kernel
theorem dL_law_456 : decode cL_law 456 = .ok (.aload_n 1, 1) := by decide +kernel
theorem dL_law_457 : decode cL_law 457 = .ok (.invokevirtual 57, 3) := by decide +kernel
theorem dL_law_460 : decode cL_law 460 = .ok (.aload_n 2, 1) := by decide +kernel
theorem dL_law_461 : decode cL_law 461 = .ok (.invokevirtual 60, 3) := by decide +kernel
theorem dL_law_464 : decode cL_law 464 = .ok (.if_icmp .eq 480, 3) := by decide +kernel
theorem dL_law_467 : decode cL_law 467 = .ok (.iconst 0, 1) := by decide +kernel
theorem dL_law_468 : decode cL_law 468 = .ok (.ireturn, 1) := by decide +kernel
theorem dL_law_469 : decode cL_law 469 = .ok (.aload_n 1, 1) := by decide +kernel
theorem dL_law_470 : decode cL_law 470 = .ok (.aload_n 0, 1) := by decide +kernel
theorem dL_law_471 : decode cL_law 471 = .ok (.iload_n 3, 1) := by decide +kernel
theorem dL_law_472 : decode cL_law 472 = .ok (.iconst 1, 1) := by decide +kernel
theorem dL_law_473 : decode cL_law 473 = .ok (.iadd, 1) := by decide +kernel
theorem dL_law_474 : decode cL_law 474 = .ok (.iaload, 1) := by decide +kernel
theorem dL_law_475 : decode cL_law 475 = .ok (.aload_n 0, 1) := by decide +kernel
theorem dL_law_476 : decode cL_law 476 = .ok (.iload_n 3, 1) := by decide +kernel
theorem dL_law_477 : decode cL_law 477 = .ok (.iconst 2, 1) := by decide +kernel
theorem dL_law_478 : decode cL_law 478 = .ok (.iadd, 1) := by decide +kernel
theorem dL_law_479 : decode cL_law 479 = .ok (.iaload, 1) := by decide +kernel
theorem dL_law_480 : decode cL_law 480 = .ok (.invokevirtual 61, 3) := by decide +kernel
theorem dL_law_483 : decode cL_law 483 = .ok (.aload_n 2, 1) := by decide +kernel
theorem dL_law_484 : decode cL_law 484 = .ok (.aload_n 0, 1) := by decide +kernel
theorem dL_law_485 : decode cL_law 485 = .ok (.iload_n 3, 1) := by decide +kernel
theorem dL_law_486 : decode cL_law 486 = .ok (.iconst 1, 1) := by decide +kernel
theorem dL_law_487 : decode cL_law 487 = .ok (.iadd, 1) := by decide +kernel
theorem dL_law_488 : decode cL_law 488 = .ok (.iaload, 1) := by decide +kernel
theorem dL_law_489 : decode cL_law 489 = .ok (.aload_n 0, 1) := by decide +kernel
theorem dL_law_490 : decode cL_law 490 = .ok (.iload_n 3, 1) := by decide +kernel
theorem dL_law_491 : decode cL_law 491 = .ok (.iconst 2, 1) := by decide +kernel
theorem dL_law_492 : decode cL_law 492 = .ok (.iadd, 1) := by decide +kernel
theorem dL_law_493 : decode cL_law 493 = .ok (.iaload, 1) := by decide +kernel
theorem dL_law_494 : decode cL_law 494 = .ok (.invokevirtual 65, 3) := by decide +kernel
theorem dL_law_497 : decode cL_law 497 = .ok (.lcmp, 1) := by decide +kernel
theorem dL_law_498 : decode cL_law 498 = .ok (.ifCond .eq 446, 3) := by decide +kernel
theorem dL_law_501 : decode cL_law 501 = .ok (.iconst 0, 1) := by decide +kernel
theorem dL_law_502 : decode cL_law 502 = .ok (.ireturn, 1) := by decide +kernel
theorem dL_law_503 : decode cL_law 503 = .ok (.aload_n 1, 1) := by decide +kernel
theorem dL_law_504 : decode cL_law 504 = .ok (.aload_n 0, 1) := by decide +kernel
theorem dL_law_505 : decode cL_law 505 = .ok (.iload_n 3, 1) := by decide +kernel
theorem dL_law_506 : decode cL_law 506 = .ok (.iconst 1, 1) := by decide +kernel
theorem dL_law_507 : decode cL_law 507 = .ok (.iadd, 1) := by decide +kernel
theorem dL_law_508 : decode cL_law 508 = .ok (.iaload, 1) := by decide +kernel
theorem dL_law_509 : decode cL_law 509 = .ok (.aload_n 0, 1) := by decide +kernel
theorem dL_law_510 : decode cL_law 510 = .ok (.iload_n 3, 1) := by decide +kernel
theorem dL_law_511 : decode cL_law 511 = .ok (.iconst 2, 1) := by decide +kernel
theorem dL_law_512 : decode cL_law 512 = .ok (.iadd, 1) := by decide +kernel
theorem dL_law_513 : decode cL_law 513 = .ok (.iaload, 1) := by decide +kernel
theorem dL_law_514 : decode cL_law 514 = .ok (.aload_n 0, 1) := by decide +kernel
theorem dL_law_515 : decode cL_law 515 = .ok (.iload_n 3, 1) := by decide +kernel
theorem dL_law_516 : decode cL_law 516 = .ok (.iconst 3, 1) := by decide +kernel
theorem dL_law_517 : decode cL_law 517 = .ok (.iadd, 1) := by decide +kernel
theorem dL_law_518 : decode cL_law 518 = .ok (.iaload, 1) := by decide +kernel
theorem dL_law_519 : decode cL_law 519 = .ok (.invokevirtual 66, 3) := by decide +kernel
theorem dL_law_522 : decode cL_law 522 = .ok (.aload_n 2, 1) := by decide +kernel
theorem dL_law_523 : decode cL_law 523 = .ok (.aload_n 0, 1) := by decide +kernel
theorem dL_law_524 : decode cL_law 524 = .ok (.iload_n 3, 1) := by decide +kernel
theorem dL_law_525 : decode cL_law 525 = .ok (.iconst 1, 1) := by decide +kernel
theorem dL_law_526 : decode cL_law 526 = .ok (.iadd, 1) := by decide +kernel
theorem dL_law_527 : decode cL_law 527 = .ok (.iaload, 1) := by decide +kernel
theorem dL_law_528 : decode cL_law 528 = .ok (.aload_n 0, 1) := by decide +kernel
theorem dL_law_529 : decode cL_law 529 = .ok (.iload_n 3, 1) := by decide +kernel
theorem dL_law_530 : decode cL_law 530 = .ok (.iconst 2, 1) := by decide +kernel
theorem dL_law_531 : decode cL_law 531 = .ok (.iadd, 1) := by decide +kernel
theorem dL_law_532 : decode cL_law 532 = .ok (.iaload, 1) := by decide +kernel
theorem dL_law_533 : decode cL_law 533 = .ok (.aload_n 0, 1) := by decide +kernel
theorem dL_law_534 : decode cL_law 534 = .ok (.iload_n 3, 1) := by decide +kernel
theorem dL_law_535 : decode cL_law 535 = .ok (.iconst 3, 1) := by decide +kernel
theorem dL_law_536 : decode cL_law 536 = .ok (.iadd, 1) := by decide +kernel
theorem dL_law_537 : decode cL_law 537 = .ok (.iaload, 1) := by decide +kernel
theorem dL_law_538 : decode cL_law 538 = .ok (.invokevirtual 69, 3) := by decide +kernel
theorem dL_law_541 : decode cL_law 541 = .ok (.if_icmp .eq 403, 3) := by decide +kernel
theorem dL_law_544 : decode cL_law 544 = .ok (.iconst 0, 1) := by decide +kernel
theorem dL_law_545 : decode cL_law 545 = .ok (.ireturn, 1) := by decide +kernel
theorem dL_law_546 : decode cL_law 546 = .ok (.aload_n 1, 1) := by decide +kernel
theorem dL_law_547 : decode cL_law 547 = .ok (.aload_n 0, 1) := by decide +kernel
theorem dL_law_548 : decode cL_law 548 = .ok (.iload_n 3, 1) := by decide +kernel
theorem dL_law_549 : decode cL_law 549 = .ok (.iconst 1, 1) := by decide +kernel
theorem dL_law_550 : decode cL_law 550 = .ok (.iadd, 1) := by decide +kernel
theorem dL_law_551 : decode cL_law 551 = .ok (.iaload, 1) := by decide +kernel
theorem dL_law_552 : decode cL_law 552 = .ok (.aload_n 0, 1) := by decide +kernel
theorem dL_law_553 : decode cL_law 553 = .ok (.iload_n 3, 1) := by decide +kernel
theorem dL_law_554 : decode cL_law 554 = .ok (.iconst 2, 1) := by decide +kernel
theorem dL_law_555 : decode cL_law 555 = .ok (.iadd, 1) := by decide +kernel
theorem dL_law_556 : decode cL_law 556 = .ok (.iaload, 1) := by decide +kernel
theorem dL_law_557 : decode cL_law 557 = .ok (.invokevirtual 70, 3) := by decide +kernel
theorem dL_law_560 : decode cL_law 560 = .ok (.aload_n 2, 1) := by decide +kernel
theorem dL_law_561 : decode cL_law 561 = .ok (.aload_n 0, 1) := by decide +kernel
theorem dL_law_562 : decode cL_law 562 = .ok (.iload_n 3, 1) := by decide +kernel
theorem dL_law_563 : decode cL_law 563 = .ok (.iconst 1, 1) := by decide +kernel
theorem dL_law_564 : decode cL_law 564 = .ok (.iadd, 1) := by decide +kernel
theorem dL_law_565 : decode cL_law 565 = .ok (.iaload, 1) := by decide +kernel
theorem dL_law_566 : decode cL_law 566 = .ok (.aload_n 0, 1) := by decide +kernel
theorem dL_law_567 : decode cL_law 567 = .ok (.iload_n 3, 1) := by decide +kernel
theorem dL_law_568 : decode cL_law 568 = .ok (.iconst 2, 1) := by decide +kernel
theorem dL_law_569 : decode cL_law 569 = .ok (.iadd, 1) := by decide +kernel
theorem dL_law_570 : decode cL_law 570 = .ok (.iaload, 1) := by decide +kernel
theorem dL_law_571 : decode cL_law 571 = .ok (.invokevirtual 73, 3) := by decide +kernel
theorem dL_law_574 : decode cL_law 574 = .ok (.lcmp, 1) := by decide +kernel
theorem dL_law_575 : decode cL_law 575 = .ok (.ifCond .eq 369, 3) := by decide +kernel
theorem dL_law_578 : decode cL_law 578 = .ok (.iconst 0, 1) := by decide +kernel
theorem dL_law_579 : decode cL_law 579 = .ok (.ireturn, 1) := by decide +kernel
theorem dL_law_580 : decode cL_law 580 = .ok (.aload_n 1, 1) := by decide +kernel
theorem dL_law_581 : decode cL_law 581 = .ok (.aload_n 0, 1) := by decide +kernel
theorem dL_law_582 : decode cL_law 582 = .ok (.iload_n 3, 1) := by decide +kernel
theorem dL_law_583 : decode cL_law 583 = .ok (.iconst 1, 1) := by decide +kernel
theorem dL_law_584 : decode cL_law 584 = .ok (.iadd, 1) := by decide +kernel
theorem dL_law_585 : decode cL_law 585 = .ok (.iaload, 1) := by decide +kernel
theorem dL_law_586 : decode cL_law 586 = .ok (.aload_n 0, 1) := by decide +kernel
theorem dL_law_587 : decode cL_law 587 = .ok (.iload_n 3, 1) := by decide +kernel
theorem dL_law_588 : decode cL_law 588 = .ok (.iconst 2, 1) := by decide +kernel
theorem dL_law_589 : decode cL_law 589 = .ok (.iadd, 1) := by decide +kernel
theorem dL_law_590 : decode cL_law 590 = .ok (.iaload, 1) := by decide +kernel
theorem dL_law_591 : decode cL_law 591 = .ok (.invokevirtual 74, 3) := by decide +kernel
theorem dL_law_594 : decode cL_law 594 = .ok (.aload_n 2, 1) := by decide +kernel
theorem dL_law_595 : decode cL_law 595 = .ok (.aload_n 0, 1) := by decide +kernel
theorem dL_law_596 : decode cL_law 596 = .ok (.iload_n 3, 1) := by decide +kernel
theorem dL_law_597 : decode cL_law 597 = .ok (.iconst 1, 1) := by decide +kernel
theorem dL_law_598 : decode cL_law 598 = .ok (.iadd, 1) := by decide +kernel
theorem dL_law_599 : decode cL_law 599 = .ok (.iaload, 1) := by decide +kernel
theorem dL_law_600 : decode cL_law 600 = .ok (.aload_n 0, 1) := by decide +kernel
theorem dL_law_601 : decode cL_law 601 = .ok (.iload_n 3, 1) := by decide +kernel
theorem dL_law_602 : decode cL_law 602 = .ok (.iconst 2, 1) := by decide +kernel
theorem dL_law_603 : decode cL_law 603 = .ok (.iadd, 1) := by decide +kernel
theorem dL_law_604 : decode cL_law 604 = .ok (.iaload, 1) := by decide +kernel
theorem dL_law_605 : decode cL_law 605 = .ok (.invokevirtual 77, 3) := by decide +kernel
theorem dL_law_608 : decode cL_law 608 = .ok (.lcmp, 1) := by decide +kernel
theorem dL_law_609 : decode cL_law 609 = .ok (.ifCond .eq 335, 3) := by decide +kernel
theorem dL_law_612 : decode cL_law 612 = .ok (.iconst 0, 1) := by decide +kernel
theorem dL_law_613 : decode cL_law 613 = .ok (.ireturn, 1) := by decide +kernel
theorem dL_law_614 : decode cL_law 614 = .ok (.aload_n 1, 1) := by decide +kernel
theorem dL_law_615 : decode cL_law 615 = .ok (.aload_n 0, 1) := by decide +kernel
theorem dL_law_616 : decode cL_law 616 = .ok (.iload_n 3, 1) := by decide +kernel
theorem dL_law_617 : decode cL_law 617 = .ok (.iconst 1, 1) := by decide +kernel
theorem dL_law_618 : decode cL_law 618 = .ok (.iadd, 1) := by decide +kernel
theorem dL_law_619 : decode cL_law 619 = .ok (.iaload, 1) := by decide +kernel
theorem dL_law_620 : decode cL_law 620 = .ok (.aload_n 0, 1) := by decide +kernel
theorem dL_law_621 : decode cL_law 621 = .ok (.iload_n 3, 1) := by decide +kernel
theorem dL_law_622 : decode cL_law 622 = .ok (.iconst 2, 1) := by decide +kernel
theorem dL_law_623 : decode cL_law 623 = .ok (.iadd, 1) := by decide +kernel
theorem dL_law_624 : decode cL_law 624 = .ok (.iaload, 1) := by decide +kernel
theorem dL_law_625 : decode cL_law 625 = .ok (.invokevirtual 78, 3) := by decide +kernel
theorem dL_law_628 : decode cL_law 628 = .ok (.aload_n 2, 1) := by decide +kernel
theorem dL_law_629 : decode cL_law 629 = .ok (.aload_n 0, 1) := by decide +kernel
theorem dL_law_630 : decode cL_law 630 = .ok (.iload_n 3, 1) := by decide +kernel
theorem dL_law_631 : decode cL_law 631 = .ok (.iconst 1, 1) := by decide +kernel
theorem dL_law_632 : decode cL_law 632 = .ok (.iadd, 1) := by decide +kernel
theorem dL_law_633 : decode cL_law 633 = .ok (.iaload, 1) := by decide +kernel
theorem dL_law_634 : decode cL_law 634 = .ok (.aload_n 0, 1) := by decide +kernel
theorem dL_law_635 : decode cL_law 635 = .ok (.iload_n 3, 1) := by decide +kernel
theorem dL_law_636 : decode cL_law 636 = .ok (.iconst 2, 1) := by decide +kernel
theorem dL_law_637 : decode cL_law 637 = .ok (.iadd, 1) := by decide +kernel
theorem dL_law_638 : decode cL_law 638 = .ok (.iaload, 1) := by decide +kernel
theorem dL_law_639 : decode cL_law 639 = .ok (.invokevirtual 81, 3) := by decide +kernel
theorem dL_law_642 : decode cL_law 642 = .ok (.if_icmp .eq 302, 3) := by decide +kernel
theorem dL_law_645 : decode cL_law 645 = .ok (.iconst 0, 1) := by decide +kernel
theorem dL_law_646 : decode cL_law 646 = .ok (.ireturn, 1) := by decide +kernel
theorem dL_law_647 : decode cL_law 647 = .ok (.aload_n 1, 1) := by decide +kernel
theorem dL_law_648 : decode cL_law 648 = .ok (.aload_n 0, 1) := by decide +kernel
theorem dL_law_649 : decode cL_law 649 = .ok (.iload_n 3, 1) := by decide +kernel
theorem dL_law_650 : decode cL_law 650 = .ok (.iconst 1, 1) := by decide +kernel
theorem dL_law_651 : decode cL_law 651 = .ok (.iadd, 1) := by decide +kernel
theorem dL_law_652 : decode cL_law 652 = .ok (.iaload, 1) := by decide +kernel
theorem dL_law_653 : decode cL_law 653 = .ok (.aload_n 0, 1) := by decide +kernel
theorem dL_law_654 : decode cL_law 654 = .ok (.iload_n 3, 1) := by decide +kernel
theorem dL_law_655 : decode cL_law 655 = .ok (.iconst 2, 1) := by decide +kernel
theorem dL_law_656 : decode cL_law 656 = .ok (.iadd, 1) := by decide +kernel
theorem dL_law_657 : decode cL_law 657 = .ok (.iaload, 1) := by decide +kernel
theorem dL_law_658 : decode cL_law 658 = .ok (.invokevirtual 82, 3) := by decide +kernel
theorem dL_law_661 : decode cL_law 661 = .ok (.aload_n 2, 1) := by decide +kernel
theorem dL_law_662 : decode cL_law 662 = .ok (.aload_n 0, 1) := by decide +kernel
theorem dL_law_663 : decode cL_law 663 = .ok (.iload_n 3, 1) := by decide +kernel
theorem dL_law_664 : decode cL_law 664 = .ok (.iconst 1, 1) := by decide +kernel
theorem dL_law_665 : decode cL_law 665 = .ok (.iadd, 1) := by decide +kernel
theorem dL_law_666 : decode cL_law 666 = .ok (.iaload, 1) := by decide +kernel
theorem dL_law_667 : decode cL_law 667 = .ok (.aload_n 0, 1) := by decide +kernel
theorem dL_law_668 : decode cL_law 668 = .ok (.iload_n 3, 1) := by decide +kernel
theorem dL_law_669 : decode cL_law 669 = .ok (.iconst 2, 1) := by decide +kernel
theorem dL_law_670 : decode cL_law 670 = .ok (.iadd, 1) := by decide +kernel
theorem dL_law_671 : decode cL_law 671 = .ok (.iaload, 1) := by decide +kernel
theorem dL_law_672 : decode cL_law 672 = .ok (.invokevirtual 85, 3) := by decide +kernel
theorem dL_law_675 : decode cL_law 675 = .ok (.lcmp, 1) := by decide +kernel
theorem dL_law_676 : decode cL_law 676 = .ok (.ifCond .eq 268, 3) := by decide +kernel
theorem dL_law_679 : decode cL_law 679 = .ok (.iconst 0, 1) := by decide +kernel
theorem dL_law_680 : decode cL_law 680 = .ok (.ireturn, 1) := by decide +kernel
theorem dL_law_681 : decode cL_law 681 = .ok (.aload_n 1, 1) := by decide +kernel
theorem dL_law_682 : decode cL_law 682 = .ok (.aload_n 0, 1) := by decide +kernel
theorem dL_law_683 : decode cL_law 683 = .ok (.iload_n 3, 1) := by decide +kernel
theorem dL_law_684 : decode cL_law 684 = .ok (.iconst 1, 1) := by decide +kernel
theorem dL_law_685 : decode cL_law 685 = .ok (.iadd, 1) := by decide +kernel
theorem dL_law_686 : decode cL_law 686 = .ok (.iaload, 1) := by decide +kernel
theorem dL_law_687 : decode cL_law 687 = .ok (.aload_n 0, 1) := by decide +kernel
theorem dL_law_688 : decode cL_law 688 = .ok (.iload_n 3, 1) := by decide +kernel
theorem dL_law_689 : decode cL_law 689 = .ok (.iconst 2, 1) := by decide +kernel
theorem dL_law_690 : decode cL_law 690 = .ok (.iadd, 1) := by decide +kernel
theorem dL_law_691 : decode cL_law 691 = .ok (.iaload, 1) := by decide +kernel
theorem dL_law_692 : decode cL_law 692 = .ok (.invokevirtual 86, 3) := by decide +kernel
theorem dL_law_695 : decode cL_law 695 = .ok (.aload_n 2, 1) := by decide +kernel
theorem dL_law_696 : decode cL_law 696 = .ok (.aload_n 0, 1) := by decide +kernel
theorem dL_law_697 : decode cL_law 697 = .ok (.iload_n 3, 1) := by decide +kernel
theorem dL_law_698 : decode cL_law 698 = .ok (.iconst 1, 1) := by decide +kernel
theorem dL_law_699 : decode cL_law 699 = .ok (.iadd, 1) := by decide +kernel
theorem dL_law_700 : decode cL_law 700 = .ok (.iaload, 1) := by decide +kernel
theorem dL_law_701 : decode cL_law 701 = .ok (.aload_n 0, 1) := by decide +kernel
theorem dL_law_702 : decode cL_law 702 = .ok (.iload_n 3, 1) := by decide +kernel
theorem dL_law_703 : decode cL_law 703 = .ok (.iconst 2, 1) := by decide +kernel
theorem dL_law_704 : decode cL_law 704 = .ok (.iadd, 1) := by decide +kernel
theorem dL_law_705 : decode cL_law 705 = .ok (.iaload, 1) := by decide +kernel
theorem dL_law_706 : decode cL_law 706 = .ok (.invokevirtual 89, 3) := by decide +kernel
theorem dL_law_709 : decode cL_law 709 = .ok (.lcmp, 1) := by decide +kernel
theorem dL_law_710 : decode cL_law 710 = .ok (.ifCond .eq 234, 3) := by decide +kernel
theorem dL_law_713 : decode cL_law 713 = .ok (.iconst 0, 1) := by decide +kernel
theorem dL_law_714 : decode cL_law 714 = .ok (.ireturn, 1) := by decide +kernel
theorem dL_law_715 : decode cL_law 715 = .ok (.aload_n 1, 1) := by decide +kernel
theorem dL_law_716 : decode cL_law 716 = .ok (.aload_n 0, 1) := by decide +kernel
theorem dL_law_717 : decode cL_law 717 = .ok (.iload_n 3, 1) := by decide +kernel
theorem dL_law_718 : decode cL_law 718 = .ok (.iconst 1, 1) := by decide +kernel
theorem dL_law_719 : decode cL_law 719 = .ok (.iadd, 1) := by decide +kernel
theorem dL_law_720 : decode cL_law 720 = .ok (.iaload, 1) := by decide +kernel
theorem dL_law_721 : decode cL_law 721 = .ok (.invokevirtual 90, 3) := by decide +kernel
theorem dL_law_724 : decode cL_law 724 = .ok (.aload_n 2, 1) := by decide +kernel
theorem dL_law_725 : decode cL_law 725 = .ok (.aload_n 0, 1) := by decide +kernel
theorem dL_law_726 : decode cL_law 726 = .ok (.iload_n 3, 1) := by decide +kernel
theorem dL_law_727 : decode cL_law 727 = .ok (.iconst 1, 1) := by decide +kernel
theorem dL_law_728 : decode cL_law 728 = .ok (.iadd, 1) := by decide +kernel
theorem dL_law_729 : decode cL_law 729 = .ok (.iaload, 1) := by decide +kernel
theorem dL_law_730 : decode cL_law 730 = .ok (.invokevirtual 94, 3) := by decide +kernel
theorem dL_law_733 : decode cL_law 733 = .ok (.lcmp, 1) := by decide +kernel
theorem dL_law_734 : decode cL_law 734 = .ok (.ifCond .eq 210, 3) := by decide +kernel
theorem dL_law_737 : decode cL_law 737 = .ok (.iconst 0, 1) := by decide +kernel
theorem dL_law_738 : decode cL_law 738 = .ok (.ireturn, 1) := by decide +kernel
theorem dL_law_739 : decode cL_law 739 = .ok (.aload_n 1, 1) := by decide +kernel
theorem dL_law_740 : decode cL_law 740 = .ok (.aload_n 0, 1) := by decide +kernel
theorem dL_law_741 : decode cL_law 741 = .ok (.iload_n 3, 1) := by decide +kernel
theorem dL_law_742 : decode cL_law 742 = .ok (.iconst 1, 1) := by decide +kernel
theorem dL_law_743 : decode cL_law 743 = .ok (.iadd, 1) := by decide +kernel
theorem dL_law_744 : decode cL_law 744 = .ok (.iaload, 1) := by decide +kernel
theorem dL_law_745 : decode cL_law 745 = .ok (.aload_n 0, 1) := by decide +kernel
theorem dL_law_746 : decode cL_law 746 = .ok (.iload_n 3, 1) := by decide +kernel
theorem dL_law_747 : decode cL_law 747 = .ok (.iconst 2, 1) := by decide +kernel
theorem dL_law_748 : decode cL_law 748 = .ok (.iadd, 1) := by decide +kernel
theorem dL_law_749 : decode cL_law 749 = .ok (.iaload, 1) := by decide +kernel
theorem dL_law_750 : decode cL_law 750 = .ok (.invokevirtual 95, 3) := by decide +kernel
theorem dL_law_753 : decode cL_law 753 = .ok (.aload_n 2, 1) := by decide +kernel
theorem dL_law_754 : decode cL_law 754 = .ok (.aload_n 0, 1) := by decide +kernel
theorem dL_law_755 : decode cL_law 755 = .ok (.iload_n 3, 1) := by decide +kernel
theorem dL_law_756 : decode cL_law 756 = .ok (.iconst 1, 1) := by decide +kernel
theorem dL_law_757 : decode cL_law 757 = .ok (.iadd, 1) := by decide +kernel
theorem dL_law_758 : decode cL_law 758 = .ok (.iaload, 1) := by decide +kernel
theorem dL_law_759 : decode cL_law 759 = .ok (.aload_n 0, 1) := by decide +kernel
theorem dL_law_760 : decode cL_law 760 = .ok (.iload_n 3, 1) := by decide +kernel
theorem dL_law_761 : decode cL_law 761 = .ok (.iconst 2, 1) := by decide +kernel
theorem dL_law_762 : decode cL_law 762 = .ok (.iadd, 1) := by decide +kernel
theorem dL_law_763 : decode cL_law 763 = .ok (.iaload, 1) := by decide +kernel
theorem dL_law_764 : decode cL_law 764 = .ok (.invokevirtual 98, 3) := by decide +kernel
theorem dL_law_767 : decode cL_law 767 = .ok (.lcmp, 1) := by decide +kernel
theorem dL_law_768 : decode cL_law 768 = .ok (.ifCond .eq 176, 3) := by decide +kernel
theorem dL_law_771 : decode cL_law 771 = .ok (.iconst 0, 1) := by decide +kernel
theorem dL_law_772 : decode cL_law 772 = .ok (.ireturn, 1) := by decide +kernel
theorem dL_law_773 : decode cL_law 773 = .ok (.aload_n 1, 1) := by decide +kernel
theorem dL_law_774 : decode cL_law 774 = .ok (.aload_n 0, 1) := by decide +kernel
theorem dL_law_775 : decode cL_law 775 = .ok (.iload_n 3, 1) := by decide +kernel
theorem dL_law_776 : decode cL_law 776 = .ok (.iconst 1, 1) := by decide +kernel
theorem dL_law_777 : decode cL_law 777 = .ok (.iadd, 1) := by decide +kernel
theorem dL_law_778 : decode cL_law 778 = .ok (.iaload, 1) := by decide +kernel
theorem dL_law_779 : decode cL_law 779 = .ok (.aload_n 0, 1) := by decide +kernel
theorem dL_law_780 : decode cL_law 780 = .ok (.iload_n 3, 1) := by decide +kernel
theorem dL_law_781 : decode cL_law 781 = .ok (.iconst 2, 1) := by decide +kernel
theorem dL_law_782 : decode cL_law 782 = .ok (.iadd, 1) := by decide +kernel
theorem dL_law_783 : decode cL_law 783 = .ok (.iaload, 1) := by decide +kernel
theorem dL_law_784 : decode cL_law 784 = .ok (.i2l, 1) := by decide +kernel
theorem dL_law_785 : decode cL_law 785 = .ok (.bipush 32, 2) := by decide +kernel
theorem dL_law_787 : decode cL_law 787 = .ok (.lshl, 1) := by decide +kernel
theorem dL_law_788 : decode cL_law 788 = .ok (.aload_n 0, 1) := by decide +kernel
theorem dL_law_789 : decode cL_law 789 = .ok (.iload_n 3, 1) := by decide +kernel
theorem dL_law_790 : decode cL_law 790 = .ok (.iconst 3, 1) := by decide +kernel
theorem dL_law_791 : decode cL_law 791 = .ok (.iadd, 1) := by decide +kernel
theorem dL_law_792 : decode cL_law 792 = .ok (.iaload, 1) := by decide +kernel
theorem dL_law_793 : decode cL_law 793 = .ok (.i2l, 1) := by decide +kernel
theorem dL_law_794 : decode cL_law 794 = .ok (.ldc2_w 99, 3) := by decide +kernel
theorem dL_law_797 : decode cL_law 797 = .ok (.land, 1) := by decide +kernel
theorem dL_law_798 : decode cL_law 798 = .ok (.lor, 1) := by decide +kernel
theorem dL_law_799 : decode cL_law 799 = .ok (.invokevirtual 101, 3) := by decide +kernel
theorem dL_law_802 : decode cL_law 802 = .ok (.aload_n 2, 1) := by decide +kernel
theorem dL_law_803 : decode cL_law 803 = .ok (.aload_n 0, 1) := by decide +kernel
theorem dL_law_804 : decode cL_law 804 = .ok (.iload_n 3, 1) := by decide +kernel
theorem dL_law_805 : decode cL_law 805 = .ok (.iconst 1, 1) := by decide +kernel
theorem dL_law_806 : decode cL_law 806 = .ok (.iadd, 1) := by decide +kernel
theorem dL_law_807 : decode cL_law 807 = .ok (.iaload, 1) := by decide +kernel
theorem dL_law_808 : decode cL_law 808 = .ok (.aload_n 0, 1) := by decide +kernel
theorem dL_law_809 : decode cL_law 809 = .ok (.iload_n 3, 1) := by decide +kernel
theorem dL_law_810 : decode cL_law 810 = .ok (.iconst 2, 1) := by decide +kernel
theorem dL_law_811 : decode cL_law 811 = .ok (.iadd, 1) := by decide +kernel
theorem dL_law_812 : decode cL_law 812 = .ok (.iaload, 1) := by decide +kernel
theorem dL_law_813 : decode cL_law 813 = .ok (.i2l, 1) := by decide +kernel
theorem dL_law_814 : decode cL_law 814 = .ok (.bipush 32, 2) := by decide +kernel
theorem dL_law_816 : decode cL_law 816 = .ok (.lshl, 1) := by decide +kernel
theorem dL_law_817 : decode cL_law 817 = .ok (.aload_n 0, 1) := by decide +kernel
theorem dL_law_818 : decode cL_law 818 = .ok (.iload_n 3, 1) := by decide +kernel
theorem dL_law_819 : decode cL_law 819 = .ok (.iconst 3, 1) := by decide +kernel
theorem dL_law_820 : decode cL_law 820 = .ok (.iadd, 1) := by decide +kernel
theorem dL_law_821 : decode cL_law 821 = .ok (.iaload, 1) := by decide +kernel
theorem dL_law_822 : decode cL_law 822 = .ok (.i2l, 1) := by decide +kernel
theorem dL_law_823 : decode cL_law 823 = .ok (.ldc2_w 99, 3) := by decide +kernel
theorem dL_law_826 : decode cL_law 826 = .ok (.land, 1) := by decide +kernel
theorem dL_law_827 : decode cL_law 827 = .ok (.lor, 1) := by decide +kernel
theorem dL_law_828 : decode cL_law 828 = .ok (.invokevirtual 105, 3) := by decide +kernel
theorem dL_law_831 : decode cL_law 831 = .ok (.if_icmp .eq 113, 3) := by decide +kernel
theorem dL_law_834 : decode cL_law 834 = .ok (.iconst 0, 1) := by decide +kernel
theorem dL_law_835 : decode cL_law 835 = .ok (.ireturn, 1) := by decide +kernel
theorem dL_law_836 : decode cL_law 836 = .ok (.aload_n 1, 1) := by decide +kernel
theorem dL_law_837 : decode cL_law 837 = .ok (.invokevirtual 106, 3) := by decide +kernel
theorem dL_law_840 : decode cL_law 840 = .ok (.aload_n 2, 1) := by decide +kernel
theorem dL_law_841 : decode cL_law 841 = .ok (.invokevirtual 109, 3) := by decide +kernel
theorem dL_law_844 : decode cL_law 844 = .ok (.if_icmp .eq 100, 3) := by decide +kernel
theorem dL_law_847 : decode cL_law 847 = .ok (.iconst 0, 1) := by decide +kernel
theorem dL_law_848 : decode cL_law 848 = .ok (.ireturn, 1) := by decide +kernel
theorem dL_law_849 : decode cL_law 849 = .ok (.aload_n 1, 1) := by decide +kernel
theorem dL_law_850 : decode cL_law 850 = .ok (.invokevirtual 110, 3) := by decide +kernel
theorem dL_law_853 : decode cL_law 853 = .ok (.aload_n 2, 1) := by decide +kernel
theorem dL_law_854 : decode cL_law 854 = .ok (.invokevirtual 113, 3) := by decide +kernel
theorem dL_law_857 : decode cL_law 857 = .ok (.if_icmp .eq 87, 3) := by decide +kernel
theorem dL_law_860 : decode cL_law 860 = .ok (.iconst 0, 1) := by decide +kernel
theorem dL_law_861 : decode cL_law 861 = .ok (.ireturn, 1) := by decide +kernel
theorem dL_law_862 : decode cL_law 862 = .ok (.aload_n 1, 1) := by decide +kernel
theorem dL_law_863 : decode cL_law 863 = .ok (.invokevirtual 114, 3) := by decide +kernel
theorem dL_law_866 : decode cL_law 866 = .ok (.aload_n 2, 1) := by decide +kernel
theorem dL_law_867 : decode cL_law 867 = .ok (.invokevirtual 117, 3) := by decide +kernel
theorem dL_law_870 : decode cL_law 870 = .ok (.if_icmp .eq 74, 3) := by decide +kernel
theorem dL_law_873 : decode cL_law 873 = .ok (.iconst 0, 1) := by decide +kernel
theorem dL_law_874 : decode cL_law 874 = .ok (.ireturn, 1) := by decide +kernel
theorem dL_law_875 : decode cL_law 875 = .ok (.aload_n 1, 1) := by decide +kernel
theorem dL_law_876 : decode cL_law 876 = .ok (.aload_n 0, 1) := by decide +kernel
theorem dL_law_877 : decode cL_law 877 = .ok (.iload_n 3, 1) := by decide +kernel
theorem dL_law_878 : decode cL_law 878 = .ok (.iconst 1, 1) := by decide +kernel
theorem dL_law_879 : decode cL_law 879 = .ok (.iadd, 1) := by decide +kernel
theorem dL_law_880 : decode cL_law 880 = .ok (.iaload, 1) := by decide +kernel
theorem dL_law_881 : decode cL_law 881 = .ok (.invokevirtual 118, 3) := by decide +kernel
theorem dL_law_884 : decode cL_law 884 = .ok (.aload_n 2, 1) := by decide +kernel
theorem dL_law_885 : decode cL_law 885 = .ok (.aload_n 0, 1) := by decide +kernel
theorem dL_law_886 : decode cL_law 886 = .ok (.iload_n 3, 1) := by decide +kernel
theorem dL_law_887 : decode cL_law 887 = .ok (.iconst 1, 1) := by decide +kernel
theorem dL_law_888 : decode cL_law 888 = .ok (.iadd, 1) := by decide +kernel
theorem dL_law_889 : decode cL_law 889 = .ok (.iaload, 1) := by decide +kernel
theorem dL_law_890 : decode cL_law 890 = .ok (.invokevirtual 121, 3) := by decide +kernel
theorem dL_law_893 : decode cL_law 893 = .ok (.if_icmp .eq 51, 3) := by decide +kernel
theorem dL_law_896 : decode cL_law 896 = .ok (.iconst 0, 1) := by decide +kernel
theorem dL_law_897 : decode cL_law 897 = .ok (.ireturn, 1) := by decide +kernel
theorem dL_law_898 : decode cL_law 898 = .ok (.aload_n 1, 1) := by decide +kernel
theorem dL_law_899 : decode cL_law 899 = .ok (.aload_n 0, 1) := by decide +kernel
theorem dL_law_900 : decode cL_law 900 = .ok (.iload_n 3, 1) := by decide +kernel
theorem dL_law_901 : decode cL_law 901 = .ok (.iconst 1, 1) := by decide +kernel
theorem dL_law_902 : decode cL_law 902 = .ok (.iadd, 1) := by decide +kernel
theorem dL_law_903 : decode cL_law 903 = .ok (.iaload, 1) := by decide +kernel
theorem dL_law_904 : decode cL_law 904 = .ok (.invokevirtual 122, 3) := by decide +kernel
theorem dL_law_907 : decode cL_law 907 = .ok (.aload_n 2, 1) := by decide +kernel
theorem dL_law_908 : decode cL_law 908 = .ok (.aload_n 0, 1) := by decide +kernel
theorem dL_law_909 : decode cL_law 909 = .ok (.iload_n 3, 1) := by decide +kernel
theorem dL_law_910 : decode cL_law 910 = .ok (.iconst 1, 1) := by decide +kernel
theorem dL_law_911 : decode cL_law 911 = .ok (.iadd, 1) := by decide +kernel
theorem dL_law_912 : decode cL_law 912 = .ok (.iaload, 1) := by decide +kernel
theorem dL_law_913 : decode cL_law 913 = .ok (.invokevirtual 125, 3) := by decide +kernel
theorem dL_law_916 : decode cL_law 916 = .ok (.if_icmp .eq 28, 3) := by decide +kernel
theorem dL_law_919 : decode cL_law 919 = .ok (.iconst 0, 1) := by decide +kernel
theorem dL_law_920 : decode cL_law 920 = .ok (.ireturn, 1) := by decide +kernel
theorem dL_law_921 : decode cL_law 921 = .ok (.aload_n 1, 1) := by decide +kernel
theorem dL_law_922 : decode cL_law 922 = .ok (.aload_n 0, 1) := by decide +kernel
theorem dL_law_923 : decode cL_law 923 = .ok (.iload_n 3, 1) := by decide +kernel
theorem dL_law_924 : decode cL_law 924 = .ok (.iconst 1, 1) := by decide +kernel
theorem dL_law_925 : decode cL_law 925 = .ok (.iadd, 1) := by decide +kernel
theorem dL_law_926 : decode cL_law 926 = .ok (.iaload, 1) := by decide +kernel
theorem dL_law_927 : decode cL_law 927 = .ok (.invokevirtual 126, 3) := by decide +kernel
theorem dL_law_930 : decode cL_law 930 = .ok (.aload_n 2, 1) := by decide +kernel
theorem dL_law_931 : decode cL_law 931 = .ok (.aload_n 0, 1) := by decide +kernel
theorem dL_law_932 : decode cL_law 932 = .ok (.iload_n 3, 1) := by decide +kernel
theorem dL_law_933 : decode cL_law 933 = .ok (.iconst 1, 1) := by decide +kernel
theorem dL_law_934 : decode cL_law 934 = .ok (.iadd, 1) := by decide +kernel
theorem dL_law_935 : decode cL_law 935 = .ok (.iaload, 1) := by decide +kernel
theorem dL_law_936 : decode cL_law 936 = .ok (.invokevirtual 129, 3) := by decide +kernel
theorem dL_law_939 : decode cL_law 939 = .ok (.if_icmp .eq 5, 3) := by decide +kernel
theorem dL_law_942 : decode cL_law 942 = .ok (.iconst 0, 1) := by decide +kernel
theorem dL_law_943 : decode cL_law 943 = .ok (.ireturn, 1) := by decide +kernel
theorem dL_law_944 : decode cL_law 944 = .ok (.iinc 3 4, 3) := by decide +kernel
theorem dL_law_947 : decode cL_law 947 = .ok (.goto (-929), 3) := by decide +kernel
theorem dL_law_950 : decode cL_law 950 = .ok (.iconst 1, 1) := by decide +kernel
theorem dL_law_951 : decode cL_law 951 = .ok (.ireturn, 1) := by decide +kernel
end
section
theorem dX11_init_0 : decode cX11_init 0 = .ok (.aload_n 0, 1) := by decide +kernel
theorem dX11_init_1 : decode cX11_init 1 = .ok (.invokespecial 1, 3) := by decide +kernel
theorem dX11_init_4 : decode cX11_init 4 = .ok (.aload_n 0, 1) := by decide +kernel
theorem dX11_init_5 : decode cX11_init 5 = .ok (.bipush 96, 2) := by decide +kernel
theorem dX11_init_7 : decode cX11_init 7 = .ok (.newarray .int, 2) := by decide +kernel
theorem dX11_init_9 : decode cX11_init 9 = .ok (.putfield 7, 3) := by decide +kernel
theorem dX11_init_12 : decode cX11_init 12 = .ok (.aload_n 0, 1) := by decide +kernel
theorem dX11_init_13 : decode cX11_init 13 = .ok (.sipush 576, 3) := by decide +kernel
theorem dX11_init_16 : decode cX11_init 16 = .ok (.newarray .int, 2) := by decide +kernel
theorem dX11_init_18 : decode cX11_init 18 = .ok (.putfield 13, 3) := by decide +kernel
theorem dX11_init_21 : decode cX11_init 21 = .ok (.aload_n 0, 1) := by decide +kernel
theorem dX11_init_22 : decode cX11_init 22 = .ok (.sipush 192, 3) := by decide +kernel
theorem dX11_init_25 : decode cX11_init 25 = .ok (.newarray .int, 2) := by decide +kernel
theorem dX11_init_27 : decode cX11_init 27 = .ok (.putfield 16, 3) := by decide +kernel
theorem dX11_init_30 : decode cX11_init 30 = .ok (.aload_n 0, 1) := by decide +kernel
theorem dX11_init_31 : decode cX11_init 31 = .ok (.iconst 2, 1) := by decide +kernel
theorem dX11_init_32 : decode cX11_init 32 = .ok (.newarray .boolean, 2) := by decide +kernel
theorem dX11_init_34 : decode cX11_init 34 = .ok (.putfield 19, 3) := by decide +kernel
theorem dX11_init_37 : decode cX11_init 37 = .ok (.aload_n 0, 1) := by decide +kernel
theorem dX11_init_38 : decode cX11_init 38 = .ok (.bipush 20, 2) := by decide +kernel
theorem dX11_init_40 : decode cX11_init 40 = .ok (.newarray .int, 2) := by decide +kernel
theorem dX11_init_42 : decode cX11_init 42 = .ok (.putfield 23, 3) := by decide +kernel
theorem dX11_init_45 : decode cX11_init 45 = .ok (.aload_n 0, 1) := by decide +kernel
theorem dX11_init_46 : decode cX11_init 46 = .ok (.bipush 20, 2) := by decide +kernel
theorem dX11_init_48 : decode cX11_init 48 = .ok (.newarray .int, 2) := by decide +kernel
theorem dX11_init_50 : decode cX11_init 50 = .ok (.putfield 26, 3) := by decide +kernel
theorem dX11_init_53 : decode cX11_init 53 = .ok (.aload_n 0, 1) := by decide +kernel
theorem dX11_init_54 : decode cX11_init 54 = .ok (.bipush 100, 2) := by decide +kernel
theorem dX11_init_56 : decode cX11_init 56 = .ok (.newarray .int, 2) := by decide +kernel
theorem dX11_init_58 : decode cX11_init 58 = .ok (.putfield 29, 3) := by decide +kernel
theorem dX11_init_61 : decode cX11_init 61 = .ok (.aload_n 0, 1) := by decide +kernel
theorem dX11_init_62 : decode cX11_init 62 = .ok (.bipush 8, 2) := by decide +kernel
theorem dX11_init_64 : decode cX11_init 64 = .ok (.newarray .long, 2) := by decide +kernel
theorem dX11_init_66 : decode cX11_init 66 = .ok (.putfield 32, 3) := by decide +kernel
theorem dX11_init_69 : decode cX11_init 69 = .ok (.aload_n 0, 1) := by decide +kernel
theorem dX11_init_70 : decode cX11_init 70 = .ok (.bipush 64, 2) := by decide +kernel
theorem dX11_init_72 : decode cX11_init 72 = .ok (.newarray .int, 2) := by decide +kernel
theorem dX11_init_74 : decode cX11_init 74 = .ok (.putfield 36, 3) := by decide +kernel
theorem dX11_init_77 : decode cX11_init 77 = .ok (.aload_n 0, 1) := by decide +kernel
theorem dX11_init_78 : decode cX11_init 78 = .ok (.bipush 8, 2) := by decide +kernel
theorem dX11_init_80 : decode cX11_init 80 = .ok (.newarray .int, 2) := by decide +kernel
theorem dX11_init_82 : decode cX11_init 82 = .ok (.putfield 39, 3) := by decide +kernel
theorem dX11_init_85 : decode cX11_init 85 = .ok (.aload_n 0, 1) := by decide +kernel
theorem dX11_init_86 : decode cX11_init 86 = .ok (.bipush 12, 2) := by decide +kernel
theorem dX11_init_88 : decode cX11_init 88 = .ok (.newarray .long, 2) := by decide +kernel
theorem dX11_init_90 : decode cX11_init 90 = .ok (.putfield 42, 3) := by decide +kernel
theorem dX11_init_93 : decode cX11_init 93 = .ok (.aload_n 0, 1) := by decide +kernel
theorem dX11_init_94 : decode cX11_init 94 = .ok (.bipush 12, 2) := by decide +kernel
theorem dX11_init_96 : decode cX11_init 96 = .ok (.newarray .long, 2) := by decide +kernel
theorem dX11_init_98 : decode cX11_init 98 = .ok (.putfield 45, 3) := by decide +kernel
theorem dX11_init_101 : decode cX11_init 101 = .ok (.aload_n 0, 1) := by decide +kernel
theorem dX11_init_102 : decode cX11_init 102 = .ok (.bipush 6, 2) := by decide +kernel
theorem dX11_init_104 : decode cX11_init 104 = .ok (.newarray .int, 2) := by decide +kernel
theorem dX11_init_106 : decode cX11_init 106 = .ok (.putfield 48, 3) := by decide +kernel
theorem dX11_init_109 : decode cX11_init 109 = .ok (.aload_n 0, 1) := by decide +kernel
theorem dX11_init_110 : decode cX11_init 110 = .ok (.bipush 6, 2) := by decide +kernel
theorem dX11_init_112 : decode cX11_init 112 = .ok (.newarray .long, 2) := by decide +kernel
theorem dX11_init_114 : decode cX11_init 114 = .ok (.putfield 51, 3) := by decide +kernel
theorem dX11_init_117 : decode cX11_init 117 = .ok (.aload_n 0, 1) := by decide +kernel
theorem dX11_init_118 : decode cX11_init 118 = .ok (.bipush 6, 2) := by decide +kernel
theorem dX11_init_120 : decode cX11_init 120 = .ok (.newarray .long, 2) := by decide +kernel
theorem dX11_init_122 : decode cX11_init 122 = .ok (.putfield 54, 3) := by decide +kernel
theorem dX11_init_125 : decode cX11_init 125 = .ok (.aload_n 0, 1) := by decide +kernel
theorem dX11_init_126 : decode cX11_init 126 = .ok (.iconst 0, 1) := by decide +kernel
theorem dX11_init_127 : decode cX11_init 127 = .ok (.putfield 57, 3) := by decide +kernel
theorem dX11_init_130 : decode cX11_init 130 = .ok (.return_, 1) := by decide +kernel
theorem dX11_in_0 : decode cX11_in 0 = .ok (.lload_n 0, 1) := by decide +kernel
theorem dX11_in_1 : decode cX11_in 1 = .ok (.lload_n 2, 1) := by decide +kernel
theorem dX11_in_2 : decode cX11_in 2 = .ok (.lcmp, 1) := by decide +kernel
theorem dX11_in_3 : decode cX11_in 3 = .ok (.ifCond .lt 14, 3) := by decide +kernel
theorem dX11_in_6 : decode cX11_in 6 = .ok (.lload_n 0, 1) := by decide +kernel
theorem dX11_in_7 : decode cX11_in 7 = .ok (.lload 4, 2) := by decide +kernel
theorem dX11_in_9 : decode cX11_in 9 = .ok (.lcmp, 1) := by decide +kernel
theorem dX11_in_10 : decode cX11_in 10 = .ok (.ifCond .gt 7, 3) := by decide +kernel
theorem dX11_in_13 : decode cX11_in 13 = .ok (.iconst 1, 1) := by decide +kernel
theorem dX11_in_14 : decode cX11_in 14 = .ok (.goto 4, 3) := by decide +kernel
theorem dX11_in_17 : decode cX11_in 17 = .ok (.iconst 0, 1) := by decide +kernel
theorem dX11_in_18 : decode cX11_in 18 = .ok (.ireturn, 1) := by decide +kernel
theorem dX11_isSpace_0 : decode cX11_isSpace 0 = .ok (.iload_n 0, 1) := by decide +kernel
theorem dX11_isSpace_1 : decode cX11_isSpace 1 = .ok (.i2l, 1) := by decide +kernel
theorem dX11_isSpace_2 : decode cX11_isSpace 2 = .ok (.lconst 0, 1) := by decide +kernel
theorem dX11_isSpace_3 : decode cX11_isSpace 3 = .ok (.ldc2_w 61, 3) := by decide +kernel
theorem dX11_isSpace_6 : decode cX11_isSpace 6 = .ok (.invokestatic 63, 3) := by decide +kernel
theorem dX11_isSpace_9 : decode cX11_isSpace 9 = .ok (.ireturn, 1) := by decide +kernel
theorem dX11_common_0 : decode cX11_common 0 = .ok (.lload_n 0, 1) := by decide +kernel
theorem dX11_common_1 : decode cX11_common 1 = .ok (.lconst 0, 1) := by decide +kernel
theorem dX11_common_2 : decode cX11_common 2 = .ok (.lcmp, 1) := by decide +kernel
theorem dX11_common_3 : decode cX11_common 3 = .ok (.ifCond .ge 8, 3) := by decide +kernel
theorem dX11_common_6 : decode cX11_common 6 = .ok (.lload_n 0, 1) := by decide +kernel
theorem dX11_common_7 : decode cX11_common 7 = .ok (.lneg, 1) := by decide +kernel
theorem dX11_common_8 : decode cX11_common 8 = .ok (.goto 4, 3) := by decide +kernel
theorem dX11_common_11 : decode cX11_common 11 = .ok (.lload_n 0, 1) := by decide +kernel
theorem dX11_common_12 : decode cX11_common 12 = .ok (.lstore 4, 2) := by decide +kernel
theorem dX11_common_14 : decode cX11_common 14 = .ok (.lload_n 2, 1) := by decide +kernel
theorem dX11_common_15 : decode cX11_common 15 = .ok (.lconst 0, 1) := by decide +kernel
theorem dX11_common_16 : decode cX11_common 16 = .ok (.lcmp, 1) := by decide +kernel
theorem dX11_common_17 : decode cX11_common 17 = .ok (.ifCond .ge 8, 3) := by decide +kernel
theorem dX11_common_20 : decode cX11_common 20 = .ok (.lload_n 2, 1) := by decide +kernel
theorem dX11_common_21 : decode cX11_common 21 = .ok (.lneg, 1) := by decide +kernel
theorem dX11_common_22 : decode cX11_common 22 = .ok (.goto 4, 3) := by decide +kernel
theorem dX11_common_25 : decode cX11_common 25 = .ok (.lload_n 2, 1) := by decide +kernel
theorem dX11_common_26 : decode cX11_common 26 = .ok (.lstore 6, 2) := by decide +kernel
theorem dX11_common_28 : decode cX11_common 28 = .ok (.lload 6, 2) := by decide +kernel
theorem dX11_common_30 : decode cX11_common 30 = .ok (.lconst 0, 1) := by decide +kernel
theorem dX11_common_31 : decode cX11_common 31 = .ok (.lcmp, 1) := by decide +kernel
theorem dX11_common_32 : decode cX11_common 32 = .ok (.ifCond .eq 21, 3) := by decide +kernel
theorem dX11_common_35 : decode cX11_common 35 = .ok (.lload 4, 2) := by decide +kernel
theorem dX11_common_37 : decode cX11_common 37 = .ok (.lload 6, 2) := by decide +kernel
theorem dX11_common_39 : decode cX11_common 39 = .ok (.lrem, 1) := by decide +kernel
theorem dX11_common_40 : decode cX11_common 40 = .ok (.lstore 8, 2) := by decide +kernel
theorem dX11_common_42 : decode cX11_common 42 = .ok (.lload 6, 2) := by decide +kernel
theorem dX11_common_44 : decode cX11_common 44 = .ok (.lstore 4, 2) := by decide +kernel
theorem dX11_common_46 : decode cX11_common 46 = .ok (.lload 8, 2) := by decide +kernel
theorem dX11_common_48 : decode cX11_common 48 = .ok (.lstore 6, 2) := by decide +kernel
theorem dX11_common_50 : decode cX11_common 50 = .ok (.goto (-22), 3) := by decide +kernel
theorem dX11_common_53 : decode cX11_common 53 = .ok (.lload 4, 2) := by decide +kernel
theorem dX11_common_55 : decode cX11_common 55 = .ok (.lreturn, 1) := by decide +kernel
theorem dX11_left_0 : decode cX11_left 0 = .ok (.iload_n 0, 1) := by decide +kernel
theorem dX11_left_1 : decode cX11_left 1 = .ok (.iload_n 1, 1) := by decide +kernel
theorem dX11_left_2 : decode cX11_left 2 = .ok (.irem, 1) := by decide +kernel
theorem dX11_left_3 : decode cX11_left 3 = .ok (.istore_n 2, 1) := by decide +kernel
theorem dX11_left_4 : decode cX11_left 4 = .ok (.iload_n 2, 1) := by decide +kernel
theorem dX11_left_5 : decode cX11_left 5 = .ok (.ifCond .ge 9, 3) := by decide +kernel
theorem dX11_left_8 : decode cX11_left 8 = .ok (.iload_n 2, 1) := by decide +kernel
theorem dX11_left_9 : decode cX11_left 9 = .ok (.iload_n 1, 1) := by decide +kernel
theorem dX11_left_10 : decode cX11_left 10 = .ok (.iadd, 1) := by decide +kernel
theorem dX11_left_11 : decode cX11_left 11 = .ok (.goto 4, 3) := by decide +kernel
theorem dX11_left_14 : decode cX11_left 14 = .ok (.iload_n 2, 1) := by decide +kernel
theorem dX11_left_15 : decode cX11_left 15 = .ok (.ireturn, 1) := by decide +kernel
theorem dX11_begin_0 : decode cX11_begin 0 = .ok (.aload_n 0, 1) := by decide +kernel
theorem dX11_begin_1 : decode cX11_begin 1 = .ok (.iload_n 1, 1) := by decide +kernel
theorem dX11_begin_2 : decode cX11_begin 2 = .ok (.putfield 67, 3) := by decide +kernel
theorem dX11_begin_5 : decode cX11_begin 5 = .ok (.aload_n 0, 1) := by decide +kernel
theorem dX11_begin_6 : decode cX11_begin 6 = .ok (.iload_n 2, 1) := by decide +kernel
theorem dX11_begin_7 : decode cX11_begin 7 = .ok (.putfield 70, 3) := by decide +kernel
theorem dX11_begin_10 : decode cX11_begin 10 = .ok (.aload_n 0, 1) := by decide +kernel
theorem dX11_begin_11 : decode cX11_begin 11 = .ok (.iload_n 3, 1) := by decide +kernel
theorem dX11_begin_12 : decode cX11_begin 12 = .ok (.putfield 73, 3) := by decide +kernel
theorem dX11_begin_15 : decode cX11_begin 15 = .ok (.aload_n 0, 1) := by decide +kernel
theorem dX11_begin_16 : decode cX11_begin 16 = .ok (.iconst 0, 1) := by decide +kernel
theorem dX11_begin_17 : decode cX11_begin 17 = .ok (.putfield 76, 3) := by decide +kernel
theorem dX11_begin_20 : decode cX11_begin 20 = .ok (.return_, 1) := by decide +kernel
theorem dX11_add_0 : decode cX11_add 0 = .ok (.iload_n 2, 1) := by decide +kernel
theorem dX11_add_1 : decode cX11_add 1 = .ok (.iload_n 1, 1) := by decide +kernel
theorem dX11_add_2 : decode cX11_add 2 = .ok (.invokestatic 79, 3) := by decide +kernel
theorem dX11_add_5 : decode cX11_add 5 = .ok (.istore_n 3, 1) := by decide +kernel
theorem dX11_add_6 : decode cX11_add 6 = .ok (.aload_n 0, 1) := by decide +kernel
theorem dX11_add_7 : decode cX11_add 7 = .ok (.dup, 1) := by decide +kernel
theorem dX11_add_8 : decode cX11_add 8 = .ok (.getfield 73, 3) := by decide +kernel
theorem dX11_add_11 : decode cX11_add 11 = .ok (.iload_n 2, 1) := by decide +kernel
theorem dX11_add_12 : decode cX11_add 12 = .ok (.iload_n 3, 1) := by decide +kernel
theorem dX11_add_13 : decode cX11_add 13 = .ok (.isub, 1) := by decide +kernel
theorem dX11_add_14 : decode cX11_add 14 = .ok (.iload_n 1, 1) := by decide +kernel
theorem dX11_add_15 : decode cX11_add 15 = .ok (.idiv, 1) := by decide +kernel
theorem dX11_add_16 : decode cX11_add 16 = .ok (.iadd, 1) := by decide +kernel
theorem dX11_add_17 : decode cX11_add 17 = .ok (.putfield 73, 3) := by decide +kernel
theorem dX11_add_20 : decode cX11_add 20 = .ok (.iload_n 1, 1) := by decide +kernel
theorem dX11_add_21 : decode cX11_add 21 = .ok (.iconst 1, 1) := by decide +kernel
theorem dX11_add_22 : decode cX11_add 22 = .ok (.if_icmp .le 117, 3) := by decide +kernel
theorem dX11_add_25 : decode cX11_add 25 = .ok (.aload_n 0, 1) := by decide +kernel
theorem dX11_add_26 : decode cX11_add 26 = .ok (.getfield 76, 3) := by decide +kernel
theorem dX11_add_29 : decode cX11_add 29 = .ok (.istore 4, 2) := by decide +kernel
theorem dX11_add_31 : decode cX11_add 31 = .ok (.iload 4, 2) := by decide +kernel
theorem dX11_add_33 : decode cX11_add 33 = .ok (.ifCond .le 80, 3) := by decide +kernel
theorem dX11_add_36 : decode cX11_add 36 = .ok (.aload_n 0, 1) := by decide +kernel
theorem dX11_add_37 : decode cX11_add 37 = .ok (.getfield 23, 3) := by decide +kernel
theorem dX11_add_40 : decode cX11_add 40 = .ok (.iload 4, 2) := by decide +kernel
theorem dX11_add_42 : decode cX11_add 42 = .ok (.iconst 1, 1) := by decide +kernel
theorem dX11_add_43 : decode cX11_add 43 = .ok (.isub, 1) := by decide +kernel
theorem dX11_add_44 : decode cX11_add 44 = .ok (.iaload, 1) := by decide +kernel
theorem dX11_add_45 : decode cX11_add 45 = .ok (.iload_n 1, 1) := by decide +kernel
theorem dX11_add_46 : decode cX11_add 46 = .ok (.if_icmp .gt 29, 3) := by decide +kernel
theorem dX11_add_49 : decode cX11_add 49 = .ok (.aload_n 0, 1) := by decide +kernel
theorem dX11_add_50 : decode cX11_add 50 = .ok (.getfield 23, 3) := by decide +kernel
theorem dX11_add_53 : decode cX11_add 53 = .ok (.iload 4, 2) := by decide +kernel
theorem dX11_add_55 : decode cX11_add 55 = .ok (.iconst 1, 1) := by decide +kernel
theorem dX11_add_56 : decode cX11_add 56 = .ok (.isub, 1) := by decide +kernel
theorem dX11_add_57 : decode cX11_add 57 = .ok (.iaload, 1) := by decide +kernel
theorem dX11_add_58 : decode cX11_add 58 = .ok (.iload_n 1, 1) := by decide +kernel
theorem dX11_add_59 : decode cX11_add 59 = .ok (.if_icmp .ne 54, 3) := by decide +kernel
theorem dX11_add_62 : decode cX11_add 62 = .ok (.aload_n 0, 1) := by decide +kernel
theorem dX11_add_63 : decode cX11_add 63 = .ok (.getfield 26, 3) := by decide +kernel
theorem dX11_add_66 : decode cX11_add 66 = .ok (.iload 4, 2) := by decide +kernel
theorem dX11_add_68 : decode cX11_add 68 = .ok (.iconst 1, 1) := by decide +kernel
theorem dX11_add_69 : decode cX11_add 69 = .ok (.isub, 1) := by decide +kernel
theorem dX11_add_70 : decode cX11_add 70 = .ok (.iaload, 1) := by decide +kernel
theorem dX11_add_71 : decode cX11_add 71 = .ok (.iload_n 3, 1) := by decide +kernel
theorem dX11_add_72 : decode cX11_add 72 = .ok (.if_icmp .le 41, 3) := by decide +kernel
theorem dX11_add_75 : decode cX11_add 75 = .ok (.aload_n 0, 1) := by decide +kernel
theorem dX11_add_76 : decode cX11_add 76 = .ok (.getfield 23, 3) := by decide +kernel
theorem dX11_add_79 : decode cX11_add 79 = .ok (.iload 4, 2) := by decide +kernel
theorem dX11_add_81 : decode cX11_add 81 = .ok (.aload_n 0, 1) := by decide +kernel
theorem dX11_add_82 : decode cX11_add 82 = .ok (.getfield 23, 3) := by decide +kernel
theorem dX11_add_85 : decode cX11_add 85 = .ok (.iload 4, 2) := by decide +kernel
theorem dX11_add_87 : decode cX11_add 87 = .ok (.iconst 1, 1) := by decide +kernel
theorem dX11_add_88 : decode cX11_add 88 = .ok (.isub, 1) := by decide +kernel
theorem dX11_add_89 : decode cX11_add 89 = .ok (.iaload, 1) := by decide +kernel
theorem dX11_add_90 : decode cX11_add 90 = .ok (.iastore, 1) := by decide +kernel
theorem dX11_add_91 : decode cX11_add 91 = .ok (.aload_n 0, 1) := by decide +kernel
theorem dX11_add_92 : decode cX11_add 92 = .ok (.getfield 26, 3) := by decide +kernel
theorem dX11_add_95 : decode cX11_add 95 = .ok (.iload 4, 2) := by decide +kernel
theorem dX11_add_97 : decode cX11_add 97 = .ok (.aload_n 0, 1) := by decide +kernel
theorem dX11_add_98 : decode cX11_add 98 = .ok (.getfield 26, 3) := by decide +kernel
theorem dX11_add_101 : decode cX11_add 101 = .ok (.iload 4, 2) := by decide +kernel
theorem dX11_add_103 : decode cX11_add 103 = .ok (.iconst 1, 1) := by decide +kernel
theorem dX11_add_104 : decode cX11_add 104 = .ok (.isub, 1) := by decide +kernel
theorem dX11_add_105 : decode cX11_add 105 = .ok (.iaload, 1) := by decide +kernel
theorem dX11_add_106 : decode cX11_add 106 = .ok (.iastore, 1) := by decide +kernel
theorem dX11_add_107 : decode cX11_add 107 = .ok (.iinc 4 (-1), 3) := by decide +kernel
theorem dX11_add_110 : decode cX11_add 110 = .ok (.goto (-79), 3) := by decide +kernel
theorem dX11_add_113 : decode cX11_add 113 = .ok (.aload_n 0, 1) := by decide +kernel
theorem dX11_add_114 : decode cX11_add 114 = .ok (.getfield 23, 3) := by decide +kernel
theorem dX11_add_117 : decode cX11_add 117 = .ok (.iload 4, 2) := by decide +kernel
theorem dX11_add_119 : decode cX11_add 119 = .ok (.iload_n 1, 1) := by decide +kernel
theorem dX11_add_120 : decode cX11_add 120 = .ok (.iastore, 1) := by decide +kernel
theorem dX11_add_121 : decode cX11_add 121 = .ok (.aload_n 0, 1) := by decide +kernel
theorem dX11_add_122 : decode cX11_add 122 = .ok (.getfield 26, 3) := by decide +kernel
theorem dX11_add_125 : decode cX11_add 125 = .ok (.iload 4, 2) := by decide +kernel
theorem dX11_add_127 : decode cX11_add 127 = .ok (.iload_n 3, 1) := by decide +kernel
theorem dX11_add_128 : decode cX11_add 128 = .ok (.iastore, 1) := by decide +kernel
theorem dX11_add_129 : decode cX11_add 129 = .ok (.aload_n 0, 1) := by decide +kernel
theorem dX11_add_130 : decode cX11_add 130 = .ok (.dup, 1) := by decide +kernel
theorem dX11_add_131 : decode cX11_add 131 = .ok (.getfield 76, 3) := by decide +kernel
theorem dX11_add_134 : decode cX11_add 134 = .ok (.iconst 1, 1) := by decide +kernel
theorem dX11_add_135 : decode cX11_add 135 = .ok (.iadd, 1) := by decide +kernel
theorem dX11_add_136 : decode cX11_add 136 = .ok (.putfield 76, 3) := by decide +kernel
theorem dX11_add_139 : decode cX11_add 139 = .ok (.return_, 1) := by decide +kernel
theorem dX11_a_0 : decode cX11_a 0 = .ok (.aload_n 0, 1) := by decide +kernel
theorem dX11_a_1 : decode cX11_a 1 = .ok (.getfield 7, 3) := by decide +kernel
theorem dX11_a_4 : decode cX11_a 4 = .ok (.bipush 16, 2) := by decide +kernel
theorem dX11_a_6 : decode cX11_a 6 = .ok (.iload_n 1, 1) := by decide +kernel
theorem dX11_a_7 : decode cX11_a 7 = .ok (.imul, 1) := by decide +kernel
theorem dX11_a_8 : decode cX11_a 8 = .ok (.iconst 4, 1) := by decide +kernel
theorem dX11_a_9 : decode cX11_a 9 = .ok (.iadd, 1) := by decide +kernel
theorem dX11_a_10 : decode cX11_a 10 = .ok (.iconst 2, 1) := by decide +kernel
theorem dX11_a_11 : decode cX11_a 11 = .ok (.iload_n 2, 1) := by decide +kernel
theorem dX11_a_12 : decode cX11_a 12 = .ok (.imul, 1) := by decide +kernel
theorem dX11_a_13 : decode cX11_a 13 = .ok (.iadd, 1) := by decide +kernel
theorem dX11_a_14 : decode cX11_a 14 = .ok (.iaload, 1) := by decide +kernel
theorem dX11_a_15 : decode cX11_a 15 = .ok (.ireturn, 1) := by decide +kernel
theorem dX11_b_0 : decode cX11_b 0 = .ok (.aload_n 0, 1) := by decide +kernel
theorem dX11_b_1 : decode cX11_b 1 = .ok (.getfield 7, 3) := by decide +kernel
theorem dX11_b_4 : decode cX11_b 4 = .ok (.bipush 16, 2) := by decide +kernel
theorem dX11_b_6 : decode cX11_b 6 = .ok (.iload_n 1, 1) := by decide +kernel
theorem dX11_b_7 : decode cX11_b 7 = .ok (.imul, 1) := by decide +kernel
theorem dX11_b_8 : decode cX11_b 8 = .ok (.iconst 4, 1) := by decide +kernel
theorem dX11_b_9 : decode cX11_b 9 = .ok (.iadd, 1) := by decide +kernel
theorem dX11_b_10 : decode cX11_b 10 = .ok (.iconst 2, 1) := by decide +kernel
theorem dX11_b_11 : decode cX11_b 11 = .ok (.iload_n 2, 1) := by decide +kernel
theorem dX11_b_12 : decode cX11_b 12 = .ok (.imul, 1) := by decide +kernel
theorem dX11_b_13 : decode cX11_b 13 = .ok (.iadd, 1) := by decide +kernel
theorem dX11_b_14 : decode cX11_b 14 = .ok (.iconst 1, 1) := by decide +kernel
theorem dX11_b_15 : decode cX11_b 15 = .ok (.iadd, 1) := by decide +kernel
theorem dX11_b_16 : decode cX11_b 16 = .ok (.iaload, 1) := by decide +kernel
theorem dX11_b_17 : decode cX11_b 17 = .ok (.ireturn, 1) := by decide +kernel
theorem dX11_fibres_0 : decode cX11_fibres 0 = .ok (.aload_n 0, 1) := by decide +kernel
theorem dX11_fibres_1 : decode cX11_fibres 1 = .ok (.getfield 7, 3) := by decide +kernel
theorem dX11_fibres_4 : decode cX11_fibres 4 = .ok (.bipush 16, 2) := by decide +kernel
theorem dX11_fibres_6 : decode cX11_fibres 6 = .ok (.iload_n 1, 1) := by decide +kernel
theorem dX11_fibres_7 : decode cX11_fibres 7 = .ok (.imul, 1) := by decide +kernel
theorem dX11_fibres_8 : decode cX11_fibres 8 = .ok (.iconst 3, 1) := by decide +kernel
theorem dX11_fibres_9 : decode cX11_fibres 9 = .ok (.iadd, 1) := by decide +kernel
theorem dX11_fibres_10 : decode cX11_fibres 10 = .ok (.iaload, 1) := by decide +kernel
theorem dX11_fibres_11 : decode cX11_fibres 11 = .ok (.ireturn, 1) := by decide +kernel
theorem dX11_note_0 : decode cX11_note 0 = .ok (.aload_n 0, 1) := by decide +kernel
theorem dX11_note_1 : decode cX11_note 1 = .ok (.getfield 57, 3) := by decide +kernel
theorem dX11_note_4 : decode cX11_note 4 = .ok (.bipush 6, 2) := by decide +kernel
theorem dX11_note_6 : decode cX11_note 6 = .ok (.if_icmp .ne 43, 3) := by decide +kernel
theorem dX11_note_9 : decode cX11_note 9 = .ok (.iconst 0, 1) := by decide +kernel
theorem dX11_note_10 : decode cX11_note 10 = .ok (.istore_n 1, 1) := by decide +kernel
theorem dX11_note_11 : decode cX11_note 11 = .ok (.iload_n 1, 1) := by decide +kernel
theorem dX11_note_12 : decode cX11_note 12 = .ok (.sipush 480, 3) := by decide +kernel
theorem dX11_note_15 : decode cX11_note 15 = .ok (.if_icmp .ge 24, 3) := by decide +kernel
theorem dX11_note_18 : decode cX11_note 18 = .ok (.aload_n 0, 1) := by decide +kernel
theorem dX11_note_19 : decode cX11_note 19 = .ok (.getfield 13, 3) := by decide +kernel
theorem dX11_note_22 : decode cX11_note 22 = .ok (.iload_n 1, 1) := by decide +kernel
theorem dX11_note_23 : decode cX11_note 23 = .ok (.aload_n 0, 1) := by decide +kernel
theorem dX11_note_24 : decode cX11_note 24 = .ok (.getfield 13, 3) := by decide +kernel
theorem dX11_note_27 : decode cX11_note 27 = .ok (.iload_n 1, 1) := by decide +kernel
theorem dX11_note_28 : decode cX11_note 28 = .ok (.bipush 96, 2) := by decide +kernel
theorem dX11_note_30 : decode cX11_note 30 = .ok (.iadd, 1) := by decide +kernel
theorem dX11_note_31 : decode cX11_note 31 = .ok (.iaload, 1) := by decide +kernel
theorem dX11_note_32 : decode cX11_note 32 = .ok (.iastore, 1) := by decide +kernel
theorem dX11_note_33 : decode cX11_note 33 = .ok (.iinc 1 1, 3) := by decide +kernel
theorem dX11_note_36 : decode cX11_note 36 = .ok (.goto (-25), 3) := by decide +kernel
theorem dX11_note_39 : decode cX11_note 39 = .ok (.aload_n 0, 1) := by decide +kernel
theorem dX11_note_40 : decode cX11_note 40 = .ok (.dup, 1) := by decide +kernel
theorem dX11_note_41 : decode cX11_note 41 = .ok (.getfield 57, 3) := by decide +kernel
theorem dX11_note_44 : decode cX11_note 44 = .ok (.iconst 1, 1) := by decide +kernel
theorem dX11_note_45 : decode cX11_note 45 = .ok (.isub, 1) := by decide +kernel
theorem dX11_note_46 : decode cX11_note 46 = .ok (.putfield 57, 3) := by decide +kernel
theorem dX11_note_49 : decode cX11_note 49 = .ok (.iconst 0, 1) := by decide +kernel
theorem dX11_note_50 : decode cX11_note 50 = .ok (.istore_n 1, 1) := by decide +kernel
theorem dX11_note_51 : decode cX11_note 51 = .ok (.iload_n 1, 1) := by decide +kernel
theorem dX11_note_52 : decode cX11_note 52 = .ok (.bipush 96, 2) := by decide +kernel
theorem dX11_note_54 : decode cX11_note 54 = .ok (.if_icmp .ge 29, 3) := by decide +kernel
theorem dX11_note_57 : decode cX11_note 57 = .ok (.aload_n 0, 1) := by decide +kernel
theorem dX11_note_58 : decode cX11_note 58 = .ok (.getfield 13, 3) := by decide +kernel
theorem dX11_note_61 : decode cX11_note 61 = .ok (.bipush 96, 2) := by decide +kernel
theorem dX11_note_63 : decode cX11_note 63 = .ok (.aload_n 0, 1) := by decide +kernel
theorem dX11_note_64 : decode cX11_note 64 = .ok (.getfield 57, 3) := by decide +kernel
theorem dX11_note_67 : decode cX11_note 67 = .ok (.imul, 1) := by decide +kernel
theorem dX11_note_68 : decode cX11_note 68 = .ok (.iload_n 1, 1) := by decide +kernel
theorem dX11_note_69 : decode cX11_note 69 = .ok (.iadd, 1) := by decide +kernel
theorem dX11_note_70 : decode cX11_note 70 = .ok (.aload_n 0, 1) := by decide +kernel
theorem dX11_note_71 : decode cX11_note 71 = .ok (.getfield 7, 3) := by decide +kernel
theorem dX11_note_74 : decode cX11_note 74 = .ok (.iload_n 1, 1) := by decide +kernel
theorem dX11_note_75 : decode cX11_note 75 = .ok (.iaload, 1) := by decide +kernel
theorem dX11_note_76 : decode cX11_note 76 = .ok (.iastore, 1) := by decide +kernel
theorem dX11_note_77 : decode cX11_note 77 = .ok (.iinc 1 1, 3) := by decide +kernel
theorem dX11_note_80 : decode cX11_note 80 = .ok (.goto (-29), 3) := by decide +kernel
theorem dX11_note_83 : decode cX11_note 83 = .ok (.aload_n 0, 1) := by decide +kernel
theorem dX11_note_84 : decode cX11_note 84 = .ok (.dup, 1) := by decide +kernel
theorem dX11_note_85 : decode cX11_note 85 = .ok (.getfield 57, 3) := by decide +kernel
theorem dX11_note_88 : decode cX11_note 88 = .ok (.iconst 1, 1) := by decide +kernel
theorem dX11_note_89 : decode cX11_note 89 = .ok (.iadd, 1) := by decide +kernel
theorem dX11_note_90 : decode cX11_note 90 = .ok (.putfield 57, 3) := by decide +kernel
theorem dX11_note_93 : decode cX11_note 93 = .ok (.return_, 1) := by decide +kernel
theorem dX11_lays_0 : decode cX11_lays 0 = .ok (.aload_n 0, 1) := by decide +kernel
theorem dX11_lays_1 : decode cX11_lays 1 = .ok (.getfield 76, 3) := by decide +kernel
theorem dX11_lays_4 : decode cX11_lays 4 = .ok (.bipush 6, 2) := by decide +kernel
theorem dX11_lays_6 : decode cX11_lays 6 = .ok (.if_icmp .gt 28, 3) := by decide +kernel
theorem dX11_lays_9 : decode cX11_lays 9 = .ok (.aload_n 0, 1) := by decide +kernel
theorem dX11_lays_10 : decode cX11_lays 10 = .ok (.getfield 70, 3) := by decide +kernel
theorem dX11_lays_13 : decode cX11_lays 13 = .ok (.iconst 4, 1) := by decide +kernel
theorem dX11_lays_14 : decode cX11_lays 14 = .ok (.if_icmp .gt 20, 3) := by decide +kernel
theorem dX11_lays_17 : decode cX11_lays 17 = .ok (.aload_n 0, 1) := by decide +kernel
theorem dX11_lays_18 : decode cX11_lays 18 = .ok (.getfield 73, 3) := by decide +kernel
theorem dX11_lays_21 : decode cX11_lays 21 = .ok (.i2l, 1) := by decide +kernel
theorem dX11_lays_22 : decode cX11_lays 22 = .ok (.ldc2_w 83, 3) := by decide +kernel
theorem dX11_lays_25 : decode cX11_lays 25 = .ok (.ldc2_w 85, 3) := by decide +kernel
theorem dX11_lays_28 : decode cX11_lays 28 = .ok (.invokestatic 63, 3) := by decide +kernel
theorem dX11_lays_31 : decode cX11_lays 31 = .ok (.ifCond .ne 6, 3) := by decide +kernel
theorem dX11_lays_34 : decode cX11_lays 34 = .ok (.bipush (-3), 2) := by decide +kernel
theorem dX11_lays_36 : decode cX11_lays 36 = .ok (.ireturn, 1) := by decide +kernel
theorem dX11_lays_37 : decode cX11_lays 37 = .ok (.aload_n 0, 1) := by decide +kernel
theorem dX11_lays_38 : decode cX11_lays 38 = .ok (.invokevirtual 87, 3) := by decide +kernel
theorem dX11_lays_41 : decode cX11_lays 41 = .ok (.bipush 16, 2) := by decide +kernel
theorem dX11_lays_43 : decode cX11_lays 43 = .ok (.iload_n 1, 1) := by decide +kernel
theorem dX11_lays_44 : decode cX11_lays 44 = .ok (.imul, 1) := by decide +kernel
theorem dX11_lays_45 : decode cX11_lays 45 = .ok (.istore_n 3, 1) := by decide +kernel
theorem dX11_lays_46 : decode cX11_lays 46 = .ok (.aload_n 0, 1) := by decide +kernel
theorem dX11_lays_47 : decode cX11_lays 47 = .ok (.getfield 7, 3) := by decide +kernel
theorem dX11_lays_50 : decode cX11_lays 50 = .ok (.iload_n 3, 1) := by decide +kernel
theorem dX11_lays_51 : decode cX11_lays 51 = .ok (.iconst 0, 1) := by decide +kernel
theorem dX11_lays_52 : decode cX11_lays 52 = .ok (.iadd, 1) := by decide +kernel
theorem dX11_lays_53 : decode cX11_lays 53 = .ok (.aload_n 0, 1) := by decide +kernel
theorem dX11_lays_54 : decode cX11_lays 54 = .ok (.getfield 67, 3) := by decide +kernel
theorem dX11_lays_57 : decode cX11_lays 57 = .ok (.iastore, 1) := by decide +kernel
theorem dX11_lays_58 : decode cX11_lays 58 = .ok (.aload_n 0, 1) := by decide +kernel
theorem dX11_lays_59 : decode cX11_lays 59 = .ok (.getfield 7, 3) := by decide +kernel
theorem dX11_lays_62 : decode cX11_lays 62 = .ok (.iload_n 3, 1) := by decide +kernel
theorem dX11_lays_63 : decode cX11_lays 63 = .ok (.iconst 1, 1) := by decide +kernel
theorem dX11_lays_64 : decode cX11_lays 64 = .ok (.iadd, 1) := by decide +kernel
theorem dX11_lays_65 : decode cX11_lays 65 = .ok (.aload_n 0, 1) := by decide +kernel
theorem dX11_lays_66 : decode cX11_lays 66 = .ok (.getfield 70, 3) := by decide +kernel
theorem dX11_lays_69 : decode cX11_lays 69 = .ok (.iastore, 1) := by decide +kernel
theorem dX11_lays_70 : decode cX11_lays 70 = .ok (.aload_n 0, 1) := by decide +kernel
theorem dX11_lays_71 : decode cX11_lays 71 = .ok (.getfield 7, 3) := by decide +kernel
theorem dX11_lays_74 : decode cX11_lays 74 = .ok (.iload_n 3, 1) := by decide +kernel
theorem dX11_lays_75 : decode cX11_lays 75 = .ok (.iconst 2, 1) := by decide +kernel
theorem dX11_lays_76 : decode cX11_lays 76 = .ok (.iadd, 1) := by decide +kernel
theorem dX11_lays_77 : decode cX11_lays 77 = .ok (.aload_n 0, 1) := by decide +kernel
theorem dX11_lays_78 : decode cX11_lays 78 = .ok (.getfield 73, 3) := by decide +kernel
theorem dX11_lays_81 : decode cX11_lays 81 = .ok (.iastore, 1) := by decide +kernel
theorem dX11_lays_82 : decode cX11_lays 82 = .ok (.aload_n 0, 1) := by decide +kernel
theorem dX11_lays_83 : decode cX11_lays 83 = .ok (.getfield 7, 3) := by decide +kernel
theorem dX11_lays_86 : decode cX11_lays 86 = .ok (.iload_n 3, 1) := by decide +kernel
theorem dX11_lays_87 : decode cX11_lays 87 = .ok (.iconst 3, 1) := by decide +kernel
theorem dX11_lays_88 : decode cX11_lays 88 = .ok (.iadd, 1) := by decide +kernel
theorem dX11_lays_89 : decode cX11_lays 89 = .ok (.aload_n 0, 1) := by decide +kernel
theorem dX11_lays_90 : decode cX11_lays 90 = .ok (.getfield 76, 3) := by decide +kernel
theorem dX11_lays_93 : decode cX11_lays 93 = .ok (.iastore, 1) := by decide +kernel
theorem dX11_lays_94 : decode cX11_lays 94 = .ok (.iconst 0, 1) := by decide +kernel
theorem dX11_lays_95 : decode cX11_lays 95 = .ok (.istore 4, 2) := by decide +kernel
theorem dX11_lays_97 : decode cX11_lays 97 = .ok (.iload 4, 2) := by decide +kernel
theorem dX11_lays_99 : decode cX11_lays 99 = .ok (.bipush 6, 2) := by decide +kernel
theorem dX11_lays_101 : decode cX11_lays 101 = .ok (.if_icmp .ge 77, 3) := by decide +kernel
theorem dX11_lays_104 : decode cX11_lays 104 = .ok (.aload_n 0, 1) := by decide +kernel
theorem dX11_lays_105 : decode cX11_lays 105 = .ok (.getfield 7, 3) := by decide +kernel
theorem dX11_lays_108 : decode cX11_lays 108 = .ok (.iload_n 3, 1) := by decide +kernel
theorem dX11_lays_109 : decode cX11_lays 109 = .ok (.iconst 4, 1) := by decide +kernel
theorem dX11_lays_110 : decode cX11_lays 110 = .ok (.iadd, 1) := by decide +kernel
theorem dX11_lays_111 : decode cX11_lays 111 = .ok (.iconst 2, 1) := by decide +kernel
theorem dX11_lays_112 : decode cX11_lays 112 = .ok (.iload 4, 2) := by decide +kernel
theorem dX11_lays_114 : decode cX11_lays 114 = .ok (.imul, 1) := by decide +kernel
theorem dX11_lays_115 : decode cX11_lays 115 = .ok (.iadd, 1) := by decide +kernel
theorem dX11_lays_116 : decode cX11_lays 116 = .ok (.iload 4, 2) := by decide +kernel
theorem dX11_lays_118 : decode cX11_lays 118 = .ok (.aload_n 0, 1) := by decide +kernel
theorem dX11_lays_119 : decode cX11_lays 119 = .ok (.getfield 76, 3) := by decide +kernel
theorem dX11_lays_122 : decode cX11_lays 122 = .ok (.if_icmp .ge 13, 3) := by decide +kernel
theorem dX11_lays_125 : decode cX11_lays 125 = .ok (.aload_n 0, 1) := by decide +kernel
theorem dX11_lays_126 : decode cX11_lays 126 = .ok (.getfield 23, 3) := by decide +kernel
theorem dX11_lays_129 : decode cX11_lays 129 = .ok (.iload 4, 2) := by decide +kernel
theorem dX11_lays_131 : decode cX11_lays 131 = .ok (.iaload, 1) := by decide +kernel
theorem dX11_lays_132 : decode cX11_lays 132 = .ok (.goto 4, 3) := by decide +kernel
theorem dX11_lays_135 : decode cX11_lays 135 = .ok (.iconst 0, 1) := by decide +kernel
theorem dX11_lays_136 : decode cX11_lays 136 = .ok (.iastore, 1) := by decide +kernel
theorem dX11_lays_137 : decode cX11_lays 137 = .ok (.aload_n 0, 1) := by decide +kernel
theorem dX11_lays_138 : decode cX11_lays 138 = .ok (.getfield 7, 3) := by decide +kernel
theorem dX11_lays_141 : decode cX11_lays 141 = .ok (.iload_n 3, 1) := by decide +kernel
theorem dX11_lays_142 : decode cX11_lays 142 = .ok (.iconst 4, 1) := by decide +kernel
theorem dX11_lays_143 : decode cX11_lays 143 = .ok (.iadd, 1) := by decide +kernel
theorem dX11_lays_144 : decode cX11_lays 144 = .ok (.iconst 2, 1) := by decide +kernel
theorem dX11_lays_145 : decode cX11_lays 145 = .ok (.iload 4, 2) := by decide +kernel
theorem dX11_lays_147 : decode cX11_lays 147 = .ok (.imul, 1) := by decide +kernel
theorem dX11_lays_148 : decode cX11_lays 148 = .ok (.iadd, 1) := by decide +kernel
theorem dX11_lays_149 : decode cX11_lays 149 = .ok (.iconst 1, 1) := by decide +kernel
theorem dX11_lays_150 : decode cX11_lays 150 = .ok (.iadd, 1) := by decide +kernel
theorem dX11_lays_151 : decode cX11_lays 151 = .ok (.iload 4, 2) := by decide +kernel
theorem dX11_lays_153 : decode cX11_lays 153 = .ok (.aload_n 0, 1) := by decide +kernel
theorem dX11_lays_154 : decode cX11_lays 154 = .ok (.getfield 76, 3) := by decide +kernel
theorem dX11_lays_157 : decode cX11_lays 157 = .ok (.if_icmp .ge 13, 3) := by decide +kernel
theorem dX11_lays_160 : decode cX11_lays 160 = .ok (.aload_n 0, 1) := by decide +kernel
theorem dX11_lays_161 : decode cX11_lays 161 = .ok (.getfield 26, 3) := by decide +kernel
theorem dX11_lays_164 : decode cX11_lays 164 = .ok (.iload 4, 2) := by decide +kernel
theorem dX11_lays_166 : decode cX11_lays 166 = .ok (.iaload, 1) := by decide +kernel
theorem dX11_lays_167 : decode cX11_lays 167 = .ok (.goto 4, 3) := by decide +kernel
theorem dX11_lays_170 : decode cX11_lays 170 = .ok (.iconst 0, 1) := by decide +kernel
theorem dX11_lays_171 : decode cX11_lays 171 = .ok (.iastore, 1) := by decide +kernel
theorem dX11_lays_172 : decode cX11_lays 172 = .ok (.iinc 4 1, 3) := by decide +kernel
theorem dX11_lays_175 : decode cX11_lays 175 = .ok (.goto (-78), 3) := by decide +kernel
theorem dX11_lays_178 : decode cX11_lays 178 = .ok (.iload_n 2, 1) := by decide +kernel
theorem dX11_lays_179 : decode cX11_lays 179 = .ok (.ireturn, 1) := by decide +kernel
theorem dX11_isMade_0 : decode cX11_isMade 0 = .ok (.bipush 16, 2) := by decide +kernel
theorem dX11_isMade_2 : decode cX11_isMade 2 = .ok (.iload_n 1, 1) := by decide +kernel
theorem dX11_isMade_3 : decode cX11_isMade 3 = .ok (.imul, 1) := by decide +kernel
theorem dX11_isMade_4 : decode cX11_isMade 4 = .ok (.istore_n 2, 1) := by decide +kernel
theorem dX11_isMade_5 : decode cX11_isMade 5 = .ok (.aload_n 0, 1) := by decide +kernel
theorem dX11_isMade_6 : decode cX11_isMade 6 = .ok (.getfield 7, 3) := by decide +kernel
theorem dX11_isMade_9 : decode cX11_isMade 9 = .ok (.iload_n 2, 1) := by decide +kernel
theorem dX11_isMade_10 : decode cX11_isMade 10 = .ok (.iconst 0, 1) := by decide +kernel
theorem dX11_isMade_11 : decode cX11_isMade 11 = .ok (.iadd, 1) := by decide +kernel
theorem dX11_isMade_12 : decode cX11_isMade 12 = .ok (.iaload, 1) := by decide +kernel
theorem dX11_isMade_13 : decode cX11_isMade 13 = .ok (.aload_n 0, 1) := by decide +kernel
theorem dX11_isMade_14 : decode cX11_isMade 14 = .ok (.getfield 67, 3) := by decide +kernel
theorem dX11_isMade_17 : decode cX11_isMade 17 = .ok (.if_icmp .ne 52, 3) := by decide +kernel
theorem dX11_isMade_20 : decode cX11_isMade 20 = .ok (.aload_n 0, 1) := by decide +kernel
theorem dX11_isMade_21 : decode cX11_isMade 21 = .ok (.getfield 7, 3) := by decide +kernel
theorem dX11_isMade_24 : decode cX11_isMade 24 = .ok (.iload_n 2, 1) := by decide +kernel
theorem dX11_isMade_25 : decode cX11_isMade 25 = .ok (.iconst 1, 1) := by decide +kernel
theorem dX11_isMade_26 : decode cX11_isMade 26 = .ok (.iadd, 1) := by decide +kernel
theorem dX11_isMade_27 : decode cX11_isMade 27 = .ok (.iaload, 1) := by decide +kernel
theorem dX11_isMade_28 : decode cX11_isMade 28 = .ok (.aload_n 0, 1) := by decide +kernel
theorem dX11_isMade_29 : decode cX11_isMade 29 = .ok (.getfield 70, 3) := by decide +kernel
theorem dX11_isMade_32 : decode cX11_isMade 32 = .ok (.if_icmp .ne 37, 3) := by decide +kernel
theorem dX11_isMade_35 : decode cX11_isMade 35 = .ok (.aload_n 0, 1) := by decide +kernel
theorem dX11_isMade_36 : decode cX11_isMade 36 = .ok (.getfield 7, 3) := by decide +kernel
theorem dX11_isMade_39 : decode cX11_isMade 39 = .ok (.iload_n 2, 1) := by decide +kernel
theorem dX11_isMade_40 : decode cX11_isMade 40 = .ok (.iconst 2, 1) := by decide +kernel
theorem dX11_isMade_41 : decode cX11_isMade 41 = .ok (.iadd, 1) := by decide +kernel
theorem dX11_isMade_42 : decode cX11_isMade 42 = .ok (.iaload, 1) := by decide +kernel
theorem dX11_isMade_43 : decode cX11_isMade 43 = .ok (.aload_n 0, 1) := by decide +kernel
theorem dX11_isMade_44 : decode cX11_isMade 44 = .ok (.getfield 73, 3) := by decide +kernel
theorem dX11_isMade_47 : decode cX11_isMade 47 = .ok (.if_icmp .ne 22, 3) := by decide +kernel
theorem dX11_isMade_50 : decode cX11_isMade 50 = .ok (.aload_n 0, 1) := by decide +kernel
theorem dX11_isMade_51 : decode cX11_isMade 51 = .ok (.getfield 7, 3) := by decide +kernel
theorem dX11_isMade_54 : decode cX11_isMade 54 = .ok (.iload_n 2, 1) := by decide +kernel
theorem dX11_isMade_55 : decode cX11_isMade 55 = .ok (.iconst 3, 1) := by decide +kernel
theorem dX11_isMade_56 : decode cX11_isMade 56 = .ok (.iadd, 1) := by decide +kernel
theorem dX11_isMade_57 : decode cX11_isMade 57 = .ok (.iaload, 1) := by decide +kernel
theorem dX11_isMade_58 : decode cX11_isMade 58 = .ok (.aload_n 0, 1) := by decide +kernel
theorem dX11_isMade_59 : decode cX11_isMade 59 = .ok (.getfield 76, 3) := by decide +kernel
theorem dX11_isMade_62 : decode cX11_isMade 62 = .ok (.if_icmp .ne 7, 3) := by decide +kernel
theorem dX11_isMade_65 : decode cX11_isMade 65 = .ok (.iconst 1, 1) := by decide +kernel
theorem dX11_isMade_66 : decode cX11_isMade 66 = .ok (.goto 4, 3) := by decide +kernel
theorem dX11_isMade_69 : decode cX11_isMade 69 = .ok (.iconst 0, 1) := by decide +kernel
theorem dX11_isMade_70 : decode cX11_isMade 70 = .ok (.istore_n 3, 1) := by decide +kernel
theorem dX11_isMade_71 : decode cX11_isMade 71 = .ok (.iconst 0, 1) := by decide +kernel
theorem dX11_isMade_72 : decode cX11_isMade 72 = .ok (.istore 4, 2) := by decide +kernel
theorem dX11_isMade_74 : decode cX11_isMade 74 = .ok (.iload 4, 2) := by decide +kernel
theorem dX11_isMade_76 : decode cX11_isMade 76 = .ok (.aload_n 0, 1) := by decide +kernel
theorem dX11_isMade_77 : decode cX11_isMade 77 = .ok (.getfield 76, 3) := by decide +kernel
theorem dX11_isMade_80 : decode cX11_isMade 80 = .ok (.if_icmp .ge 53, 3) := by decide +kernel
theorem dX11_isMade_83 : decode cX11_isMade 83 = .ok (.iload_n 3, 1) := by decide +kernel
theorem dX11_isMade_84 : decode cX11_isMade 84 = .ok (.ifCond .eq 49, 3) := by decide +kernel
theorem dX11_isMade_87 : decode cX11_isMade 87 = .ok (.aload_n 0, 1) := by decide +kernel
theorem dX11_isMade_88 : decode cX11_isMade 88 = .ok (.iload_n 1, 1) := by decide +kernel
theorem dX11_isMade_89 : decode cX11_isMade 89 = .ok (.iload 4, 2) := by decide +kernel
theorem dX11_isMade_91 : decode cX11_isMade 91 = .ok (.invokevirtual 90, 3) := by decide +kernel
theorem dX11_isMade_94 : decode cX11_isMade 94 = .ok (.aload_n 0, 1) := by decide +kernel
theorem dX11_isMade_95 : decode cX11_isMade 95 = .ok (.getfield 23, 3) := by decide +kernel
theorem dX11_isMade_98 : decode cX11_isMade 98 = .ok (.iload 4, 2) := by decide +kernel
theorem dX11_isMade_100 : decode cX11_isMade 100 = .ok (.iaload, 1) := by decide +kernel
theorem dX11_isMade_101 : decode cX11_isMade 101 = .ok (.if_icmp .ne 24, 3) := by decide +kernel
theorem dX11_isMade_104 : decode cX11_isMade 104 = .ok (.aload_n 0, 1) := by decide +kernel
theorem dX11_isMade_105 : decode cX11_isMade 105 = .ok (.iload_n 1, 1) := by decide +kernel
theorem dX11_isMade_106 : decode cX11_isMade 106 = .ok (.iload 4, 2) := by decide +kernel
theorem dX11_isMade_108 : decode cX11_isMade 108 = .ok (.invokevirtual 93, 3) := by decide +kernel
theorem dX11_isMade_111 : decode cX11_isMade 111 = .ok (.aload_n 0, 1) := by decide +kernel
theorem dX11_isMade_112 : decode cX11_isMade 112 = .ok (.getfield 26, 3) := by decide +kernel
theorem dX11_isMade_115 : decode cX11_isMade 115 = .ok (.iload 4, 2) := by decide +kernel
theorem dX11_isMade_117 : decode cX11_isMade 117 = .ok (.iaload, 1) := by decide +kernel
theorem dX11_isMade_118 : decode cX11_isMade 118 = .ok (.if_icmp .ne 7, 3) := by decide +kernel
theorem dX11_isMade_121 : decode cX11_isMade 121 = .ok (.iconst 1, 1) := by decide +kernel
theorem dX11_isMade_122 : decode cX11_isMade 122 = .ok (.goto 4, 3) := by decide +kernel
theorem dX11_isMade_125 : decode cX11_isMade 125 = .ok (.iconst 0, 1) := by decide +kernel
theorem dX11_isMade_126 : decode cX11_isMade 126 = .ok (.istore_n 3, 1) := by decide +kernel
theorem dX11_isMade_127 : decode cX11_isMade 127 = .ok (.iinc 4 1, 3) := by decide +kernel
theorem dX11_isMade_130 : decode cX11_isMade 130 = .ok (.goto (-56), 3) := by decide +kernel
theorem dX11_isMade_133 : decode cX11_isMade 133 = .ok (.iload_n 3, 1) := by decide +kernel
theorem dX11_isMade_134 : decode cX11_isMade 134 = .ok (.ireturn, 1) := by decide +kernel
theorem dX11_makeTimes_0 : decode cX11_makeTimes 0 = .ok (.aload_n 0, 1) := by decide +kernel
theorem dX11_makeTimes_1 : decode cX11_makeTimes 1 = .ok (.aload_n 0, 1) := by decide +kernel
theorem dX11_makeTimes_2 : decode cX11_makeTimes 2 = .ok (.getfield 7, 3) := by decide +kernel
theorem dX11_makeTimes_5 : decode cX11_makeTimes 5 = .ok (.bipush 16, 2) := by decide +kernel
theorem dX11_makeTimes_7 : decode cX11_makeTimes 7 = .ok (.iload_n 1, 1) := by decide +kernel
theorem dX11_makeTimes_8 : decode cX11_makeTimes 8 = .ok (.imul, 1) := by decide +kernel
theorem dX11_makeTimes_9 : decode cX11_makeTimes 9 = .ok (.iconst 0, 1) := by decide +kernel
theorem dX11_makeTimes_10 : decode cX11_makeTimes 10 = .ok (.iadd, 1) := by decide +kernel
theorem dX11_makeTimes_11 : decode cX11_makeTimes 11 = .ok (.iaload, 1) := by decide +kernel
theorem dX11_makeTimes_12 : decode cX11_makeTimes 12 = .ok (.aload_n 0, 1) := by decide +kernel
theorem dX11_makeTimes_13 : decode cX11_makeTimes 13 = .ok (.getfield 7, 3) := by decide +kernel
theorem dX11_makeTimes_16 : decode cX11_makeTimes 16 = .ok (.bipush 16, 2) := by decide +kernel
theorem dX11_makeTimes_18 : decode cX11_makeTimes 18 = .ok (.iload_n 1, 1) := by decide +kernel
theorem dX11_makeTimes_19 : decode cX11_makeTimes 19 = .ok (.imul, 1) := by decide +kernel
theorem dX11_makeTimes_20 : decode cX11_makeTimes 20 = .ok (.iconst 1, 1) := by decide +kernel
theorem dX11_makeTimes_21 : decode cX11_makeTimes 21 = .ok (.iadd, 1) := by decide +kernel
theorem dX11_makeTimes_22 : decode cX11_makeTimes 22 = .ok (.iaload, 1) := by decide +kernel
theorem dX11_makeTimes_23 : decode cX11_makeTimes 23 = .ok (.iload_n 2, 1) := by decide +kernel
theorem dX11_makeTimes_24 : decode cX11_makeTimes 24 = .ok (.aload_n 0, 1) := by decide +kernel
theorem dX11_makeTimes_25 : decode cX11_makeTimes 25 = .ok (.getfield 7, 3) := by decide +kernel
theorem dX11_makeTimes_28 : decode cX11_makeTimes 28 = .ok (.bipush 16, 2) := by decide +kernel
theorem dX11_makeTimes_30 : decode cX11_makeTimes 30 = .ok (.iload_n 1, 1) := by decide +kernel
theorem dX11_makeTimes_31 : decode cX11_makeTimes 31 = .ok (.imul, 1) := by decide +kernel
theorem dX11_makeTimes_32 : decode cX11_makeTimes 32 = .ok (.iconst 2, 1) := by decide +kernel
theorem dX11_makeTimes_33 : decode cX11_makeTimes 33 = .ok (.iadd, 1) := by decide +kernel
theorem dX11_makeTimes_34 : decode cX11_makeTimes 34 = .ok (.iaload, 1) := by decide +kernel
theorem dX11_makeTimes_35 : decode cX11_makeTimes 35 = .ok (.imul, 1) := by decide +kernel
theorem dX11_makeTimes_36 : decode cX11_makeTimes 36 = .ok (.invokevirtual 96, 3) := by decide +kernel
theorem dX11_makeTimes_39 : decode cX11_makeTimes 39 = .ok (.iconst 0, 1) := by decide +kernel
theorem dX11_makeTimes_40 : decode cX11_makeTimes 40 = .ok (.istore_n 3, 1) := by decide +kernel
theorem dX11_makeTimes_41 : decode cX11_makeTimes 41 = .ok (.iload_n 3, 1) := by decide +kernel
theorem dX11_makeTimes_42 : decode cX11_makeTimes 42 = .ok (.aload_n 0, 1) := by decide +kernel
theorem dX11_makeTimes_43 : decode cX11_makeTimes 43 = .ok (.iload_n 1, 1) := by decide +kernel
theorem dX11_makeTimes_44 : decode cX11_makeTimes 44 = .ok (.invokevirtual 100, 3) := by decide +kernel
theorem dX11_makeTimes_47 : decode cX11_makeTimes 47 = .ok (.if_icmp .ge 27, 3) := by decide +kernel
theorem dX11_makeTimes_50 : decode cX11_makeTimes 50 = .ok (.aload_n 0, 1) := by decide +kernel
theorem dX11_makeTimes_51 : decode cX11_makeTimes 51 = .ok (.aload_n 0, 1) := by decide +kernel
theorem dX11_makeTimes_52 : decode cX11_makeTimes 52 = .ok (.iload_n 1, 1) := by decide +kernel
theorem dX11_makeTimes_53 : decode cX11_makeTimes 53 = .ok (.iload_n 3, 1) := by decide +kernel
theorem dX11_makeTimes_54 : decode cX11_makeTimes 54 = .ok (.invokevirtual 90, 3) := by decide +kernel
theorem dX11_makeTimes_57 : decode cX11_makeTimes 57 = .ok (.iload_n 2, 1) := by decide +kernel
theorem dX11_makeTimes_58 : decode cX11_makeTimes 58 = .ok (.aload_n 0, 1) := by decide +kernel
theorem dX11_makeTimes_59 : decode cX11_makeTimes 59 = .ok (.iload_n 1, 1) := by decide +kernel
theorem dX11_makeTimes_60 : decode cX11_makeTimes 60 = .ok (.iload_n 3, 1) := by decide +kernel
theorem dX11_makeTimes_61 : decode cX11_makeTimes 61 = .ok (.invokevirtual 93, 3) := by decide +kernel
theorem dX11_makeTimes_64 : decode cX11_makeTimes 64 = .ok (.imul, 1) := by decide +kernel
theorem dX11_makeTimes_65 : decode cX11_makeTimes 65 = .ok (.invokevirtual 104, 3) := by decide +kernel
theorem dX11_makeTimes_68 : decode cX11_makeTimes 68 = .ok (.iinc 3 1, 3) := by decide +kernel
theorem dX11_makeTimes_71 : decode cX11_makeTimes 71 = .ok (.goto (-30), 3) := by decide +kernel
theorem dX11_makeTimes_74 : decode cX11_makeTimes 74 = .ok (.return_, 1) := by decide +kernel
theorem dX11_type_0 : decode cX11_type 0 = .ok (.iload_n 1, 1) := by decide +kernel
theorem dX11_type_1 : decode cX11_type 1 = .ok (.i2l, 1) := by decide +kernel
theorem dX11_type_2 : decode cX11_type 2 = .ok (.lconst 0, 1) := by decide +kernel
theorem dX11_type_3 : decode cX11_type 3 = .ok (.ldc2_w 108, 3) := by decide +kernel
theorem dX11_type_6 : decode cX11_type 6 = .ok (.invokestatic 63, 3) := by decide +kernel
theorem dX11_type_9 : decode cX11_type 9 = .ok (.ifCond .ne 5, 3) := by decide +kernel
theorem dX11_type_12 : decode cX11_type 12 = .ok (.iconst (-1), 1) := by decide +kernel
theorem dX11_type_13 : decode cX11_type 13 = .ok (.ireturn, 1) := by decide +kernel
theorem dX11_type_14 : decode cX11_type 14 = .ok (.aload_n 0, 1) := by decide +kernel
theorem dX11_type_15 : decode cX11_type 15 = .ok (.getfield 110, 3) := by decide +kernel
theorem dX11_type_18 : decode cX11_type 18 = .ok (.bipush 100, 2) := by decide +kernel
theorem dX11_type_20 : decode cX11_type 20 = .ok (.if_icmp .ne 6, 3) := by decide +kernel
theorem dX11_type_23 : decode cX11_type 23 = .ok (.bipush (-3), 2) := by decide +kernel
theorem dX11_type_25 : decode cX11_type 25 = .ok (.ireturn, 1) := by decide +kernel
theorem dX11_type_26 : decode cX11_type 26 = .ok (.aload_n 0, 1) := by decide +kernel
theorem dX11_type_27 : decode cX11_type 27 = .ok (.getfield 29, 3) := by decide +kernel
theorem dX11_type_30 : decode cX11_type 30 = .ok (.aload_n 0, 1) := by decide +kernel
theorem dX11_type_31 : decode cX11_type 31 = .ok (.getfield 110, 3) := by decide +kernel
theorem dX11_type_34 : decode cX11_type 34 = .ok (.iload_n 1, 1) := by decide +kernel
theorem dX11_type_35 : decode cX11_type 35 = .ok (.iastore, 1) := by decide +kernel
theorem dX11_type_36 : decode cX11_type 36 = .ok (.aload_n 0, 1) := by decide +kernel
theorem dX11_type_37 : decode cX11_type 37 = .ok (.dup, 1) := by decide +kernel
theorem dX11_type_38 : decode cX11_type 38 = .ok (.getfield 110, 3) := by decide +kernel
theorem dX11_type_41 : decode cX11_type 41 = .ok (.iconst 1, 1) := by decide +kernel
theorem dX11_type_42 : decode cX11_type 42 = .ok (.iadd, 1) := by decide +kernel
theorem dX11_type_43 : decode cX11_type 43 = .ok (.putfield 110, 3) := by decide +kernel
theorem dX11_type_46 : decode cX11_type 46 = .ok (.aload_n 0, 1) := by decide +kernel
theorem dX11_type_47 : decode cX11_type 47 = .ok (.getfield 110, 3) := by decide +kernel
theorem dX11_type_50 : decode cX11_type 50 = .ok (.ireturn, 1) := by decide +kernel
theorem dX11_clear_0 : decode cX11_clear 0 = .ok (.aload_n 0, 1) := by decide +kernel
theorem dX11_clear_1 : decode cX11_clear 1 = .ok (.getfield 110, 3) := by decide +kernel
theorem dX11_clear_4 : decode cX11_clear 4 = .ok (.istore_n 1, 1) := by decide +kernel
theorem dX11_clear_5 : decode cX11_clear 5 = .ok (.aload_n 0, 1) := by decide +kernel
theorem dX11_clear_6 : decode cX11_clear 6 = .ok (.iconst 0, 1) := by decide +kernel
theorem dX11_clear_7 : decode cX11_clear 7 = .ok (.putfield 110, 3) := by decide +kernel
theorem dX11_clear_10 : decode cX11_clear 10 = .ok (.iload_n 1, 1) := by decide +kernel
theorem dX11_clear_11 : decode cX11_clear 11 = .ok (.ireturn, 1) := by decide +kernel
theorem dX11_next_0 : decode cX11_next 0 = .ok (.aload_n 0, 1) := by decide +kernel
theorem dX11_next_1 : decode cX11_next 1 = .ok (.getfield 113, 3) := by decide +kernel
theorem dX11_next_4 : decode cX11_next 4 = .ok (.aload_n 0, 1) := by decide +kernel
theorem dX11_next_5 : decode cX11_next 5 = .ok (.getfield 110, 3) := by decide +kernel
theorem dX11_next_8 : decode cX11_next 8 = .ok (.if_icmp .ge 30, 3) := by decide +kernel
theorem dX11_next_11 : decode cX11_next 11 = .ok (.aload_n 0, 1) := by decide +kernel
theorem dX11_next_12 : decode cX11_next 12 = .ok (.getfield 29, 3) := by decide +kernel
theorem dX11_next_15 : decode cX11_next 15 = .ok (.aload_n 0, 1) := by decide +kernel
theorem dX11_next_16 : decode cX11_next 16 = .ok (.getfield 113, 3) := by decide +kernel
theorem dX11_next_19 : decode cX11_next 19 = .ok (.iaload, 1) := by decide +kernel
theorem dX11_next_20 : decode cX11_next 20 = .ok (.bipush 32, 2) := by decide +kernel
theorem dX11_next_22 : decode cX11_next 22 = .ok (.if_icmp .ne 16, 3) := by decide +kernel
theorem dX11_next_25 : decode cX11_next 25 = .ok (.aload_n 0, 1) := by decide +kernel
theorem dX11_next_26 : decode cX11_next 26 = .ok (.dup, 1) := by decide +kernel
theorem dX11_next_27 : decode cX11_next 27 = .ok (.getfield 113, 3) := by decide +kernel
theorem dX11_next_30 : decode cX11_next 30 = .ok (.iconst 1, 1) := by decide +kernel
theorem dX11_next_31 : decode cX11_next 31 = .ok (.iadd, 1) := by decide +kernel
theorem dX11_next_32 : decode cX11_next 32 = .ok (.putfield 113, 3) := by decide +kernel
theorem dX11_next_35 : decode cX11_next 35 = .ok (.goto (-35), 3) := by decide +kernel
theorem dX11_next_38 : decode cX11_next 38 = .ok (.aload_n 0, 1) := by decide +kernel
theorem dX11_next_39 : decode cX11_next 39 = .ok (.aload_n 0, 1) := by decide +kernel
theorem dX11_next_40 : decode cX11_next 40 = .ok (.getfield 113, 3) := by decide +kernel
theorem dX11_next_43 : decode cX11_next 43 = .ok (.putfield 116, 3) := by decide +kernel
theorem dX11_next_46 : decode cX11_next 46 = .ok (.aload_n 0, 1) := by decide +kernel
theorem dX11_next_47 : decode cX11_next 47 = .ok (.iconst 0, 1) := by decide +kernel
theorem dX11_next_48 : decode cX11_next 48 = .ok (.putfield 119, 3) := by decide +kernel
theorem dX11_next_51 : decode cX11_next 51 = .ok (.aload_n 0, 1) := by decide +kernel
theorem dX11_next_52 : decode cX11_next 52 = .ok (.getfield 113, 3) := by decide +kernel
theorem dX11_next_55 : decode cX11_next 55 = .ok (.aload_n 0, 1) := by decide +kernel
theorem dX11_next_56 : decode cX11_next 56 = .ok (.getfield 110, 3) := by decide +kernel
theorem dX11_next_59 : decode cX11_next 59 = .ok (.if_icmp .ne 11, 3) := by decide +kernel
theorem dX11_next_62 : decode cX11_next 62 = .ok (.aload_n 0, 1) := by decide +kernel
theorem dX11_next_63 : decode cX11_next 63 = .ok (.iconst 0, 1) := by decide +kernel
theorem dX11_next_64 : decode cX11_next 64 = .ok (.putfield 122, 3) := by decide +kernel
theorem dX11_next_67 : decode cX11_next 67 = .ok (.goto 218, 3) := by decide +kernel
theorem dX11_next_70 : decode cX11_next 70 = .ok (.aload_n 0, 1) := by decide +kernel
theorem dX11_next_71 : decode cX11_next 71 = .ok (.getfield 29, 3) := by decide +kernel
theorem dX11_next_74 : decode cX11_next 74 = .ok (.aload_n 0, 1) := by decide +kernel
theorem dX11_next_75 : decode cX11_next 75 = .ok (.getfield 113, 3) := by decide +kernel
theorem dX11_next_78 : decode cX11_next 78 = .ok (.iaload, 1) := by decide +kernel
theorem dX11_next_79 : decode cX11_next 79 = .ok (.i2l, 1) := by decide +kernel
theorem dX11_next_80 : decode cX11_next 80 = .ok (.ldc2_w 125, 3) := by decide +kernel
theorem dX11_next_83 : decode cX11_next 83 = .ok (.ldc2_w 127, 3) := by decide +kernel
theorem dX11_next_86 : decode cX11_next 86 = .ok (.invokestatic 63, 3) := by decide +kernel
theorem dX11_next_89 : decode cX11_next 89 = .ok (.ifCond .eq 137, 3) := by decide +kernel
theorem dX11_next_92 : decode cX11_next 92 = .ok (.aload_n 0, 1) := by decide +kernel
theorem dX11_next_93 : decode cX11_next 93 = .ok (.getfield 113, 3) := by decide +kernel
theorem dX11_next_96 : decode cX11_next 96 = .ok (.aload_n 0, 1) := by decide +kernel
theorem dX11_next_97 : decode cX11_next 97 = .ok (.getfield 110, 3) := by decide +kernel
theorem dX11_next_100 : decode cX11_next 100 = .ok (.if_icmp .ge 78, 3) := by decide +kernel
theorem dX11_next_103 : decode cX11_next 103 = .ok (.aload_n 0, 1) := by decide +kernel
theorem dX11_next_104 : decode cX11_next 104 = .ok (.getfield 29, 3) := by decide +kernel
theorem dX11_next_107 : decode cX11_next 107 = .ok (.aload_n 0, 1) := by decide +kernel
theorem dX11_next_108 : decode cX11_next 108 = .ok (.getfield 113, 3) := by decide +kernel
theorem dX11_next_111 : decode cX11_next 111 = .ok (.iaload, 1) := by decide +kernel
theorem dX11_next_112 : decode cX11_next 112 = .ok (.i2l, 1) := by decide +kernel
theorem dX11_next_113 : decode cX11_next 113 = .ok (.ldc2_w 125, 3) := by decide +kernel
theorem dX11_next_116 : decode cX11_next 116 = .ok (.ldc2_w 127, 3) := by decide +kernel
theorem dX11_next_119 : decode cX11_next 119 = .ok (.invokestatic 63, 3) := by decide +kernel
theorem dX11_next_122 : decode cX11_next 122 = .ok (.ifCond .eq 56, 3) := by decide +kernel
theorem dX11_next_125 : decode cX11_next 125 = .ok (.aload_n 0, 1) := by decide +kernel
theorem dX11_next_126 : decode cX11_next 126 = .ok (.aload_n 0, 1) := by decide +kernel
theorem dX11_next_127 : decode cX11_next 127 = .ok (.getfield 119, 3) := by decide +kernel
theorem dX11_next_130 : decode cX11_next 130 = .ok (.bipush 99, 2) := by decide +kernel
theorem dX11_next_132 : decode cX11_next 132 = .ok (.if_icmp .le 10, 3) := by decide +kernel
theorem dX11_next_135 : decode cX11_next 135 = .ok (.aload_n 0, 1) := by decide +kernel
theorem dX11_next_136 : decode cX11_next 136 = .ok (.getfield 119, 3) := by decide +kernel
theorem dX11_next_139 : decode cX11_next 139 = .ok (.goto 23, 3) := by decide +kernel
theorem dX11_next_142 : decode cX11_next 142 = .ok (.bipush 10, 2) := by decide +kernel
theorem dX11_next_144 : decode cX11_next 144 = .ok (.aload_n 0, 1) := by decide +kernel
theorem dX11_next_145 : decode cX11_next 145 = .ok (.getfield 119, 3) := by decide +kernel
theorem dX11_next_148 : decode cX11_next 148 = .ok (.imul, 1) := by decide +kernel
theorem dX11_next_149 : decode cX11_next 149 = .ok (.aload_n 0, 1) := by decide +kernel
theorem dX11_next_150 : decode cX11_next 150 = .ok (.getfield 29, 3) := by decide +kernel
theorem dX11_next_153 : decode cX11_next 153 = .ok (.aload_n 0, 1) := by decide +kernel
theorem dX11_next_154 : decode cX11_next 154 = .ok (.getfield 113, 3) := by decide +kernel
theorem dX11_next_157 : decode cX11_next 157 = .ok (.iaload, 1) := by decide +kernel
theorem dX11_next_158 : decode cX11_next 158 = .ok (.iadd, 1) := by decide +kernel
theorem dX11_next_159 : decode cX11_next 159 = .ok (.bipush 48, 2) := by decide +kernel
theorem dX11_next_161 : decode cX11_next 161 = .ok (.isub, 1) := by decide +kernel
theorem dX11_next_162 : decode cX11_next 162 = .ok (.putfield 119, 3) := by decide +kernel
theorem dX11_next_165 : decode cX11_next 165 = .ok (.aload_n 0, 1) := by decide +kernel
theorem dX11_next_166 : decode cX11_next 166 = .ok (.dup, 1) := by decide +kernel
theorem dX11_next_167 : decode cX11_next 167 = .ok (.getfield 113, 3) := by decide +kernel
theorem dX11_next_170 : decode cX11_next 170 = .ok (.iconst 1, 1) := by decide +kernel
theorem dX11_next_171 : decode cX11_next 171 = .ok (.iadd, 1) := by decide +kernel
theorem dX11_next_172 : decode cX11_next 172 = .ok (.putfield 113, 3) := by decide +kernel
theorem dX11_next_175 : decode cX11_next 175 = .ok (.goto (-83), 3) := by decide +kernel
theorem dX11_next_178 : decode cX11_next 178 = .ok (.aload_n 0, 1) := by decide +kernel
theorem dX11_next_179 : decode cX11_next 179 = .ok (.aload_n 0, 1) := by decide +kernel
theorem dX11_next_180 : decode cX11_next 180 = .ok (.getfield 119, 3) := by decide +kernel
theorem dX11_next_183 : decode cX11_next 183 = .ok (.bipush 99, 2) := by decide +kernel
theorem dX11_next_185 : decode cX11_next 185 = .ok (.if_icmp .gt 30, 3) := by decide +kernel
theorem dX11_next_188 : decode cX11_next 188 = .ok (.aload_n 0, 1) := by decide +kernel
theorem dX11_next_189 : decode cX11_next 189 = .ok (.getfield 29, 3) := by decide +kernel
theorem dX11_next_192 : decode cX11_next 192 = .ok (.aload_n 0, 1) := by decide +kernel
theorem dX11_next_193 : decode cX11_next 193 = .ok (.getfield 116, 3) := by decide +kernel
theorem dX11_next_196 : decode cX11_next 196 = .ok (.iaload, 1) := by decide +kernel
theorem dX11_next_197 : decode cX11_next 197 = .ok (.bipush 48, 2) := by decide +kernel
theorem dX11_next_199 : decode cX11_next 199 = .ok (.if_icmp .ne 20, 3) := by decide +kernel
theorem dX11_next_202 : decode cX11_next 202 = .ok (.aload_n 0, 1) := by decide +kernel
theorem dX11_next_203 : decode cX11_next 203 = .ok (.getfield 113, 3) := by decide +kernel
theorem dX11_next_206 : decode cX11_next 206 = .ok (.aload_n 0, 1) := by decide +kernel
theorem dX11_next_207 : decode cX11_next 207 = .ok (.getfield 116, 3) := by decide +kernel
theorem dX11_next_210 : decode cX11_next 210 = .ok (.isub, 1) := by decide +kernel
theorem dX11_next_211 : decode cX11_next 211 = .ok (.iconst 1, 1) := by decide +kernel
theorem dX11_next_212 : decode cX11_next 212 = .ok (.if_icmp .le 7, 3) := by decide +kernel
theorem dX11_next_215 : decode cX11_next 215 = .ok (.iconst 2, 1) := by decide +kernel
theorem dX11_next_216 : decode cX11_next 216 = .ok (.goto 4, 3) := by decide +kernel
theorem dX11_next_219 : decode cX11_next 219 = .ok (.iconst 1, 1) := by decide +kernel
theorem dX11_next_220 : decode cX11_next 220 = .ok (.putfield 122, 3) := by decide +kernel
theorem dX11_next_223 : decode cX11_next 223 = .ok (.goto 62, 3) := by decide +kernel
theorem dX11_next_226 : decode cX11_next 226 = .ok (.aload_n 0, 1) := by decide +kernel
theorem dX11_next_227 : decode cX11_next 227 = .ok (.getfield 29, 3) := by decide +kernel
theorem dX11_next_230 : decode cX11_next 230 = .ok (.aload_n 0, 1) := by decide +kernel
theorem dX11_next_231 : decode cX11_next 231 = .ok (.getfield 113, 3) := by decide +kernel
theorem dX11_next_234 : decode cX11_next 234 = .ok (.iaload, 1) := by decide +kernel
theorem dX11_next_235 : decode cX11_next 235 = .ok (.istore_n 1, 1) := by decide +kernel
theorem dX11_next_236 : decode cX11_next 236 = .ok (.aload_n 0, 1) := by decide +kernel
theorem dX11_next_237 : decode cX11_next 237 = .ok (.iload_n 1, 1) := by decide +kernel
theorem dX11_next_238 : decode cX11_next 238 = .ok (.bipush 111, 2) := by decide +kernel
theorem dX11_next_240 : decode cX11_next 240 = .ok (.if_icmp .eq 27, 3) := by decide +kernel
theorem dX11_next_243 : decode cX11_next 243 = .ok (.iload_n 1, 1) := by decide +kernel
theorem dX11_next_244 : decode cX11_next 244 = .ok (.bipush 110, 2) := by decide +kernel
theorem dX11_next_246 : decode cX11_next 246 = .ok (.if_icmp .eq 21, 3) := by decide +kernel
theorem dX11_next_249 : decode cX11_next 249 = .ok (.iload_n 1, 1) := by decide +kernel
theorem dX11_next_250 : decode cX11_next 250 = .ok (.bipush 102, 2) := by decide +kernel
theorem dX11_next_252 : decode cX11_next 252 = .ok (.if_icmp .eq 15, 3) := by decide +kernel
theorem dX11_next_255 : decode cX11_next 255 = .ok (.iload_n 1, 1) := by decide +kernel
theorem dX11_next_256 : decode cX11_next 256 = .ok (.bipush 45, 2) := by decide +kernel
theorem dX11_next_258 : decode cX11_next 258 = .ok (.if_icmp .eq 9, 3) := by decide +kernel
theorem dX11_next_261 : decode cX11_next 261 = .ok (.iload_n 1, 1) := by decide +kernel
theorem dX11_next_262 : decode cX11_next 262 = .ok (.bipush 59, 2) := by decide +kernel
theorem dX11_next_264 : decode cX11_next 264 = .ok (.if_icmp .ne 7, 3) := by decide +kernel
theorem dX11_next_267 : decode cX11_next 267 = .ok (.iload_n 1, 1) := by decide +kernel
theorem dX11_next_268 : decode cX11_next 268 = .ok (.goto 4, 3) := by decide +kernel
theorem dX11_next_271 : decode cX11_next 271 = .ok (.iconst 2, 1) := by decide +kernel
theorem dX11_next_272 : decode cX11_next 272 = .ok (.putfield 122, 3) := by decide +kernel
theorem dX11_next_275 : decode cX11_next 275 = .ok (.aload_n 0, 1) := by decide +kernel
theorem dX11_next_276 : decode cX11_next 276 = .ok (.dup, 1) := by decide +kernel
theorem dX11_next_277 : decode cX11_next 277 = .ok (.getfield 113, 3) := by decide +kernel
theorem dX11_next_280 : decode cX11_next 280 = .ok (.iconst 1, 1) := by decide +kernel
theorem dX11_next_281 : decode cX11_next 281 = .ok (.iadd, 1) := by decide +kernel
theorem dX11_next_282 : decode cX11_next 282 = .ok (.putfield 113, 3) := by decide +kernel
theorem dX11_next_285 : decode cX11_next 285 = .ok (.return_, 1) := by decide +kernel
theorem dX11_must_0 : decode cX11_must 0 = .ok (.aload_n 0, 1) := by decide +kernel
theorem dX11_must_1 : decode cX11_must 1 = .ok (.getfield 129, 3) := by decide +kernel
theorem dX11_must_4 : decode cX11_must 4 = .ok (.bipush (-9), 2) := by decide +kernel
theorem dX11_must_6 : decode cX11_must 6 = .ok (.if_icmp .ne 22, 3) := by decide +kernel
theorem dX11_must_9 : decode cX11_must 9 = .ok (.iload_n 1, 1) := by decide +kernel
theorem dX11_must_10 : decode cX11_must 10 = .ok (.ifCond .eq 10, 3) := by decide +kernel
theorem dX11_must_13 : decode cX11_must 13 = .ok (.aload_n 0, 1) := by decide +kernel
theorem dX11_must_14 : decode cX11_must 14 = .ok (.invokevirtual 132, 3) := by decide +kernel
theorem dX11_must_17 : decode cX11_must 17 = .ok (.goto 11, 3) := by decide +kernel
theorem dX11_must_20 : decode cX11_must 20 = .ok (.aload_n 0, 1) := by decide +kernel
theorem dX11_must_21 : decode cX11_must 21 = .ok (.aload_n 0, 1) := by decide +kernel
theorem dX11_must_22 : decode cX11_must 22 = .ok (.getfield 116, 3) := by decide +kernel
theorem dX11_must_25 : decode cX11_must 25 = .ok (.putfield 129, 3) := by decide +kernel
theorem dX11_must_28 : decode cX11_must 28 = .ok (.return_, 1) := by decide +kernel
theorem dX11_readBase_0 : decode cX11_readBase 0 = .ok (.aload_n 0, 1) := by decide +kernel
theorem dX11_readBase_1 : decode cX11_readBase 1 = .ok (.aload_n 0, 1) := by decide +kernel
theorem dX11_readBase_2 : decode cX11_readBase 2 = .ok (.getfield 122, 3) := by decide +kernel
theorem dX11_readBase_5 : decode cX11_readBase 5 = .ok (.bipush 111, 2) := by decide +kernel
theorem dX11_readBase_7 : decode cX11_readBase 7 = .ok (.if_icmp .ne 7, 3) := by decide +kernel
theorem dX11_readBase_10 : decode cX11_readBase 10 = .ok (.iconst 0, 1) := by decide +kernel
theorem dX11_readBase_11 : decode cX11_readBase 11 = .ok (.goto 4, 3) := by decide +kernel
theorem dX11_readBase_14 : decode cX11_readBase 14 = .ok (.iconst 1, 1) := by decide +kernel
theorem dX11_readBase_15 : decode cX11_readBase 15 = .ok (.putfield 67, 3) := by decide +kernel
theorem dX11_readBase_18 : decode cX11_readBase 18 = .ok (.aload_n 0, 1) := by decide +kernel
theorem dX11_readBase_19 : decode cX11_readBase 19 = .ok (.invokevirtual 132, 3) := by decide +kernel
theorem dX11_readBase_22 : decode cX11_readBase 22 = .ok (.aload_n 0, 1) := by decide +kernel
theorem dX11_readBase_23 : decode cX11_readBase 23 = .ok (.aload_n 0, 1) := by decide +kernel
theorem dX11_readBase_24 : decode cX11_readBase 24 = .ok (.getfield 119, 3) := by decide +kernel
theorem dX11_readBase_27 : decode cX11_readBase 27 = .ok (.putfield 70, 3) := by decide +kernel
theorem dX11_readBase_30 : decode cX11_readBase 30 = .ok (.aload_n 0, 1) := by decide +kernel
theorem dX11_readBase_31 : decode cX11_readBase 31 = .ok (.aload_n 0, 1) := by decide +kernel
theorem dX11_readBase_32 : decode cX11_readBase 32 = .ok (.getfield 122, 3) := by decide +kernel
theorem dX11_readBase_35 : decode cX11_readBase 35 = .ok (.iconst 1, 1) := by decide +kernel
theorem dX11_readBase_36 : decode cX11_readBase 36 = .ok (.if_icmp .ne 26, 3) := by decide +kernel
theorem dX11_readBase_39 : decode cX11_readBase 39 = .ok (.aload_n 0, 1) := by decide +kernel
theorem dX11_readBase_40 : decode cX11_readBase 40 = .ok (.getfield 119, 3) := by decide +kernel
theorem dX11_readBase_43 : decode cX11_readBase 43 = .ok (.i2l, 1) := by decide +kernel
theorem dX11_readBase_44 : decode cX11_readBase 44 = .ok (.aload_n 0, 1) := by decide +kernel
theorem dX11_readBase_45 : decode cX11_readBase 45 = .ok (.getfield 67, 3) := by decide +kernel
theorem dX11_readBase_48 : decode cX11_readBase 48 = .ok (.i2l, 1) := by decide +kernel
theorem dX11_readBase_49 : decode cX11_readBase 49 = .ok (.ldc2_w 135, 3) := by decide +kernel
theorem dX11_readBase_52 : decode cX11_readBase 52 = .ok (.invokestatic 63, 3) := by decide +kernel
theorem dX11_readBase_55 : decode cX11_readBase 55 = .ok (.ifCond .eq 7, 3) := by decide +kernel
theorem dX11_readBase_58 : decode cX11_readBase 58 = .ok (.iconst 1, 1) := by decide +kernel
theorem dX11_readBase_59 : decode cX11_readBase 59 = .ok (.goto 4, 3) := by decide +kernel
theorem dX11_readBase_62 : decode cX11_readBase 62 = .ok (.iconst 0, 1) := by decide +kernel
theorem dX11_readBase_63 : decode cX11_readBase 63 = .ok (.invokevirtual 137, 3) := by decide +kernel
theorem dX11_readBase_66 : decode cX11_readBase 66 = .ok (.return_, 1) := by decide +kernel
theorem dX11_readPair_0 : decode cX11_readPair 0 = .ok (.aload_n 0, 1) := by decide +kernel
theorem dX11_readPair_1 : decode cX11_readPair 1 = .ok (.invokevirtual 132, 3) := by decide +kernel
theorem dX11_readPair_4 : decode cX11_readPair 4 = .ok (.aload_n 0, 1) := by decide +kernel
theorem dX11_readPair_5 : decode cX11_readPair 5 = .ok (.getfield 119, 3) := by decide +kernel
theorem dX11_readPair_8 : decode cX11_readPair 8 = .ok (.istore_n 1, 1) := by decide +kernel
theorem dX11_readPair_9 : decode cX11_readPair 9 = .ok (.aload_n 0, 1) := by decide +kernel
theorem dX11_readPair_10 : decode cX11_readPair 10 = .ok (.aload_n 0, 1) := by decide +kernel
theorem dX11_readPair_11 : decode cX11_readPair 11 = .ok (.getfield 122, 3) := by decide +kernel
theorem dX11_readPair_14 : decode cX11_readPair 14 = .ok (.iconst 1, 1) := by decide +kernel
theorem dX11_readPair_15 : decode cX11_readPair 15 = .ok (.if_icmp .ne 33, 3) := by decide +kernel
theorem dX11_readPair_18 : decode cX11_readPair 18 = .ok (.iload_n 1, 1) := by decide +kernel
theorem dX11_readPair_19 : decode cX11_readPair 19 = .ok (.i2l, 1) := by decide +kernel
theorem dX11_readPair_20 : decode cX11_readPair 20 = .ok (.lconst 1, 1) := by decide +kernel
theorem dX11_readPair_21 : decode cX11_readPair 21 = .ok (.ldc2_w 141, 3) := by decide +kernel
theorem dX11_readPair_24 : decode cX11_readPair 24 = .ok (.invokestatic 63, 3) := by decide +kernel
theorem dX11_readPair_27 : decode cX11_readPair 27 = .ok (.ifCond .eq 21, 3) := by decide +kernel
theorem dX11_readPair_30 : decode cX11_readPair 30 = .ok (.iload_n 1, 1) := by decide +kernel
theorem dX11_readPair_31 : decode cX11_readPair 31 = .ok (.iconst 1, 1) := by decide +kernel
theorem dX11_readPair_32 : decode cX11_readPair 32 = .ok (.if_icmp .eq 12, 3) := by decide +kernel
theorem dX11_readPair_35 : decode cX11_readPair 35 = .ok (.aload_n 0, 1) := by decide +kernel
theorem dX11_readPair_36 : decode cX11_readPair 36 = .ok (.getfield 76, 3) := by decide +kernel
theorem dX11_readPair_39 : decode cX11_readPair 39 = .ok (.bipush 6, 2) := by decide +kernel
theorem dX11_readPair_41 : decode cX11_readPair 41 = .ok (.if_icmp .ge 7, 3) := by decide +kernel
theorem dX11_readPair_44 : decode cX11_readPair 44 = .ok (.iconst 1, 1) := by decide +kernel
theorem dX11_readPair_45 : decode cX11_readPair 45 = .ok (.goto 4, 3) := by decide +kernel
theorem dX11_readPair_48 : decode cX11_readPair 48 = .ok (.iconst 0, 1) := by decide +kernel
theorem dX11_readPair_49 : decode cX11_readPair 49 = .ok (.invokevirtual 137, 3) := by decide +kernel
theorem dX11_readPair_52 : decode cX11_readPair 52 = .ok (.aload_n 0, 1) := by decide +kernel
theorem dX11_readPair_53 : decode cX11_readPair 53 = .ok (.getfield 129, 3) := by decide +kernel
theorem dX11_readPair_56 : decode cX11_readPair 56 = .ok (.bipush (-9), 2) := by decide +kernel
theorem dX11_readPair_58 : decode cX11_readPair 58 = .ok (.if_icmp .ne 16, 3) := by decide +kernel
theorem dX11_readPair_61 : decode cX11_readPair 61 = .ok (.aload_n 0, 1) := by decide +kernel
theorem dX11_readPair_62 : decode cX11_readPair 62 = .ok (.getfield 122, 3) := by decide +kernel
theorem dX11_readPair_65 : decode cX11_readPair 65 = .ok (.bipush 45, 2) := by decide +kernel
theorem dX11_readPair_67 : decode cX11_readPair 67 = .ok (.if_icmp .ne 7, 3) := by decide +kernel
theorem dX11_readPair_70 : decode cX11_readPair 70 = .ok (.iconst 1, 1) := by decide +kernel
theorem dX11_readPair_71 : decode cX11_readPair 71 = .ok (.goto 4, 3) := by decide +kernel
theorem dX11_readPair_74 : decode cX11_readPair 74 = .ok (.iconst 0, 1) := by decide +kernel
theorem dX11_readPair_75 : decode cX11_readPair 75 = .ok (.istore_n 2, 1) := by decide +kernel
theorem dX11_readPair_76 : decode cX11_readPair 76 = .ok (.iload_n 2, 1) := by decide +kernel
theorem dX11_readPair_77 : decode cX11_readPair 77 = .ok (.ifCond .eq 7, 3) := by decide +kernel
theorem dX11_readPair_80 : decode cX11_readPair 80 = .ok (.aload_n 0, 1) := by decide +kernel
theorem dX11_readPair_81 : decode cX11_readPair 81 = .ok (.invokevirtual 132, 3) := by decide +kernel
theorem dX11_readPair_84 : decode cX11_readPair 84 = .ok (.aload_n 0, 1) := by decide +kernel
theorem dX11_readPair_85 : decode cX11_readPair 85 = .ok (.getfield 119, 3) := by decide +kernel
theorem dX11_readPair_88 : decode cX11_readPair 88 = .ok (.istore_n 3, 1) := by decide +kernel
theorem dX11_readPair_89 : decode cX11_readPair 89 = .ok (.aload_n 0, 1) := by decide +kernel
theorem dX11_readPair_90 : decode cX11_readPair 90 = .ok (.aload_n 0, 1) := by decide +kernel
theorem dX11_readPair_91 : decode cX11_readPair 91 = .ok (.getfield 122, 3) := by decide +kernel
theorem dX11_readPair_94 : decode cX11_readPair 94 = .ok (.iconst 1, 1) := by decide +kernel
theorem dX11_readPair_95 : decode cX11_readPair 95 = .ok (.if_icmp .ne 24, 3) := by decide +kernel
theorem dX11_readPair_98 : decode cX11_readPair 98 = .ok (.iload_n 1, 1) := by decide +kernel
theorem dX11_readPair_99 : decode cX11_readPair 99 = .ok (.iconst 1, 1) := by decide +kernel
theorem dX11_readPair_100 : decode cX11_readPair 100 = .ok (.if_icmp .eq 15, 3) := by decide +kernel
theorem dX11_readPair_103 : decode cX11_readPair 103 = .ok (.iload_n 1, 1) := by decide +kernel
theorem dX11_readPair_104 : decode cX11_readPair 104 = .ok (.i2l, 1) := by decide +kernel
theorem dX11_readPair_105 : decode cX11_readPair 105 = .ok (.iload_n 3, 1) := by decide +kernel
theorem dX11_readPair_106 : decode cX11_readPair 106 = .ok (.i2l, 1) := by decide +kernel
theorem dX11_readPair_107 : decode cX11_readPair 107 = .ok (.invokestatic 143, 3) := by decide +kernel
theorem dX11_readPair_110 : decode cX11_readPair 110 = .ok (.lconst 1, 1) := by decide +kernel
theorem dX11_readPair_111 : decode cX11_readPair 111 = .ok (.lcmp, 1) := by decide +kernel
theorem dX11_readPair_112 : decode cX11_readPair 112 = .ok (.ifCond .ne 7, 3) := by decide +kernel
theorem dX11_readPair_115 : decode cX11_readPair 115 = .ok (.iconst 1, 1) := by decide +kernel
theorem dX11_readPair_116 : decode cX11_readPair 116 = .ok (.goto 4, 3) := by decide +kernel
theorem dX11_readPair_119 : decode cX11_readPair 119 = .ok (.iconst 0, 1) := by decide +kernel
theorem dX11_readPair_120 : decode cX11_readPair 120 = .ok (.invokevirtual 137, 3) := by decide +kernel
theorem dX11_readPair_123 : decode cX11_readPair 123 = .ok (.aload_n 0, 1) := by decide +kernel
theorem dX11_readPair_124 : decode cX11_readPair 124 = .ok (.getfield 129, 3) := by decide +kernel
theorem dX11_readPair_127 : decode cX11_readPair 127 = .ok (.bipush (-9), 2) := by decide +kernel
theorem dX11_readPair_129 : decode cX11_readPair 129 = .ok (.if_icmp .ne 18, 3) := by decide +kernel
theorem dX11_readPair_132 : decode cX11_readPair 132 = .ok (.aload_n 0, 1) := by decide +kernel
theorem dX11_readPair_133 : decode cX11_readPair 133 = .ok (.iload_n 1, 1) := by decide +kernel
theorem dX11_readPair_134 : decode cX11_readPair 134 = .ok (.iload_n 2, 1) := by decide +kernel
theorem dX11_readPair_135 : decode cX11_readPair 135 = .ok (.ifCond .eq 8, 3) := by decide +kernel
theorem dX11_readPair_138 : decode cX11_readPair 138 = .ok (.iload_n 3, 1) := by decide +kernel
theorem dX11_readPair_139 : decode cX11_readPair 139 = .ok (.ineg, 1) := by decide +kernel
theorem dX11_readPair_140 : decode cX11_readPair 140 = .ok (.goto 4, 3) := by decide +kernel
theorem dX11_readPair_143 : decode cX11_readPair 143 = .ok (.iload_n 3, 1) := by decide +kernel
theorem dX11_readPair_144 : decode cX11_readPair 144 = .ok (.invokevirtual 104, 3) := by decide +kernel
theorem dX11_readPair_147 : decode cX11_readPair 147 = .ok (.return_, 1) := by decide +kernel
theorem dX11_tells_0 : decode cX11_tells 0 = .ok (.iload_n 1, 1) := by decide +kernel
theorem dX11_tells_1 : decode cX11_tells 1 = .ok (.invokestatic 147, 3) := by decide +kernel
theorem dX11_tells_4 : decode cX11_tells 4 = .ok (.ifCond .ne 5, 3) := by decide +kernel
theorem dX11_tells_7 : decode cX11_tells 7 = .ok (.iconst (-1), 1) := by decide +kernel
theorem dX11_tells_8 : decode cX11_tells 8 = .ok (.ireturn, 1) := by decide +kernel
theorem dX11_tells_9 : decode cX11_tells 9 = .ok (.aload_n 0, 1) := by decide +kernel
theorem dX11_tells_10 : decode cX11_tells 10 = .ok (.iconst 0, 1) := by decide +kernel
theorem dX11_tells_11 : decode cX11_tells 11 = .ok (.iconst 0, 1) := by decide +kernel
theorem dX11_tells_12 : decode cX11_tells 12 = .ok (.iconst 0, 1) := by decide +kernel
theorem dX11_tells_13 : decode cX11_tells 13 = .ok (.invokevirtual 96, 3) := by decide +kernel
theorem dX11_tells_16 : decode cX11_tells 16 = .ok (.aload_n 0, 1) := by decide +kernel
theorem dX11_tells_17 : decode cX11_tells 17 = .ok (.iconst 0, 1) := by decide +kernel
theorem dX11_tells_18 : decode cX11_tells 18 = .ok (.putfield 113, 3) := by decide +kernel
theorem dX11_tells_21 : decode cX11_tells 21 = .ok (.aload_n 0, 1) := by decide +kernel
theorem dX11_tells_22 : decode cX11_tells 22 = .ok (.bipush (-9), 2) := by decide +kernel
theorem dX11_tells_24 : decode cX11_tells 24 = .ok (.putfield 129, 3) := by decide +kernel
theorem dX11_tells_27 : decode cX11_tells 27 = .ok (.iconst 0, 1) := by decide +kernel
theorem dX11_tells_28 : decode cX11_tells 28 = .ok (.istore_n 2, 1) := by decide +kernel
theorem dX11_tells_29 : decode cX11_tells 29 = .ok (.iconst 0, 1) := by decide +kernel
theorem dX11_tells_30 : decode cX11_tells 30 = .ok (.istore_n 3, 1) := by decide +kernel
theorem dX11_tells_31 : decode cX11_tells 31 = .ok (.aload_n 0, 1) := by decide +kernel
theorem dX11_tells_32 : decode cX11_tells 32 = .ok (.invokevirtual 132, 3) := by decide +kernel
theorem dX11_tells_35 : decode cX11_tells 35 = .ok (.aload_n 0, 1) := by decide +kernel
theorem dX11_tells_36 : decode cX11_tells 36 = .ok (.getfield 129, 3) := by decide +kernel
theorem dX11_tells_39 : decode cX11_tells 39 = .ok (.bipush (-9), 2) := by decide +kernel
theorem dX11_tells_41 : decode cX11_tells 41 = .ok (.if_icmp .ne 108, 3) := by decide +kernel
theorem dX11_tells_44 : decode cX11_tells 44 = .ok (.aload_n 0, 1) := by decide +kernel
theorem dX11_tells_45 : decode cX11_tells 45 = .ok (.getfield 122, 3) := by decide +kernel
theorem dX11_tells_48 : decode cX11_tells 48 = .ok (.ifCond .eq 101, 3) := by decide +kernel
theorem dX11_tells_51 : decode cX11_tells 51 = .ok (.aload_n 0, 1) := by decide +kernel
theorem dX11_tells_52 : decode cX11_tells 52 = .ok (.getfield 122, 3) := by decide +kernel
theorem dX11_tells_55 : decode cX11_tells 55 = .ok (.bipush 111, 2) := by decide +kernel
theorem dX11_tells_57 : decode cX11_tells 57 = .ok (.if_icmp .eq 12, 3) := by decide +kernel
theorem dX11_tells_60 : decode cX11_tells 60 = .ok (.aload_n 0, 1) := by decide +kernel
theorem dX11_tells_61 : decode cX11_tells 61 = .ok (.getfield 122, 3) := by decide +kernel
theorem dX11_tells_64 : decode cX11_tells 64 = .ok (.bipush 110, 2) := by decide +kernel
theorem dX11_tells_66 : decode cX11_tells 66 = .ok (.if_icmp .ne 7, 3) := by decide +kernel
theorem dX11_tells_69 : decode cX11_tells 69 = .ok (.iconst 1, 1) := by decide +kernel
theorem dX11_tells_70 : decode cX11_tells 70 = .ok (.goto 4, 3) := by decide +kernel
theorem dX11_tells_73 : decode cX11_tells 73 = .ok (.iconst 0, 1) := by decide +kernel
theorem dX11_tells_74 : decode cX11_tells 74 = .ok (.istore 4, 2) := by decide +kernel
theorem dX11_tells_76 : decode cX11_tells 76 = .ok (.iload 4, 2) := by decide +kernel
theorem dX11_tells_78 : decode cX11_tells 78 = .ok (.ifCond .eq 14, 3) := by decide +kernel
theorem dX11_tells_81 : decode cX11_tells 81 = .ok (.iload_n 2, 1) := by decide +kernel
theorem dX11_tells_82 : decode cX11_tells 82 = .ok (.ifCond .ne 10, 3) := by decide +kernel
theorem dX11_tells_85 : decode cX11_tells 85 = .ok (.aload_n 0, 1) := by decide +kernel
theorem dX11_tells_86 : decode cX11_tells 86 = .ok (.invokevirtual 151, 3) := by decide +kernel
theorem dX11_tells_89 : decode cX11_tells 89 = .ok (.goto 36, 3) := by decide +kernel
theorem dX11_tells_92 : decode cX11_tells 92 = .ok (.aload_n 0, 1) := by decide +kernel
theorem dX11_tells_93 : decode cX11_tells 93 = .ok (.getfield 122, 3) := by decide +kernel
theorem dX11_tells_96 : decode cX11_tells 96 = .ok (.bipush 102, 2) := by decide +kernel
theorem dX11_tells_98 : decode cX11_tells 98 = .ok (.if_icmp .ne 19, 3) := by decide +kernel
theorem dX11_tells_101 : decode cX11_tells 101 = .ok (.iload_n 3, 1) := by decide +kernel
theorem dX11_tells_102 : decode cX11_tells 102 = .ok (.bipush 8, 2) := by decide +kernel
theorem dX11_tells_104 : decode cX11_tells 104 = .ok (.if_icmp .ge 13, 3) := by decide +kernel
theorem dX11_tells_107 : decode cX11_tells 107 = .ok (.aload_n 0, 1) := by decide +kernel
theorem dX11_tells_108 : decode cX11_tells 108 = .ok (.invokevirtual 154, 3) := by decide +kernel
theorem dX11_tells_111 : decode cX11_tells 111 = .ok (.iinc 3 1, 3) := by decide +kernel
theorem dX11_tells_114 : decode cX11_tells 114 = .ok (.goto 11, 3) := by decide +kernel
theorem dX11_tells_117 : decode cX11_tells 117 = .ok (.aload_n 0, 1) := by decide +kernel
theorem dX11_tells_118 : decode cX11_tells 118 = .ok (.aload_n 0, 1) := by decide +kernel
theorem dX11_tells_119 : decode cX11_tells 119 = .ok (.getfield 116, 3) := by decide +kernel
theorem dX11_tells_122 : decode cX11_tells 122 = .ok (.putfield 129, 3) := by decide +kernel
theorem dX11_tells_125 : decode cX11_tells 125 = .ok (.aload_n 0, 1) := by decide +kernel
theorem dX11_tells_126 : decode cX11_tells 126 = .ok (.aload_n 0, 1) := by decide +kernel
theorem dX11_tells_127 : decode cX11_tells 127 = .ok (.getfield 122, 3) := by decide +kernel
theorem dX11_tells_130 : decode cX11_tells 130 = .ok (.bipush 59, 2) := by decide +kernel
theorem dX11_tells_132 : decode cX11_tells 132 = .ok (.if_icmp .ne 7, 3) := by decide +kernel
theorem dX11_tells_135 : decode cX11_tells 135 = .ok (.iconst 1, 1) := by decide +kernel
theorem dX11_tells_136 : decode cX11_tells 136 = .ok (.goto 4, 3) := by decide +kernel
theorem dX11_tells_139 : decode cX11_tells 139 = .ok (.iconst 0, 1) := by decide +kernel
theorem dX11_tells_140 : decode cX11_tells 140 = .ok (.invokevirtual 137, 3) := by decide +kernel
theorem dX11_tells_143 : decode cX11_tells 143 = .ok (.iinc 2 1, 3) := by decide +kernel
theorem dX11_tells_146 : decode cX11_tells 146 = .ok (.goto (-111), 3) := by decide +kernel
theorem dX11_tells_149 : decode cX11_tells 149 = .ok (.aload_n 0, 1) := by decide +kernel
theorem dX11_tells_150 : decode cX11_tells 150 = .ok (.getfield 129, 3) := by decide +kernel
theorem dX11_tells_153 : decode cX11_tells 153 = .ok (.bipush (-9), 2) := by decide +kernel
theorem dX11_tells_155 : decode cX11_tells 155 = .ok (.if_icmp .eq 11, 3) := by decide +kernel
theorem dX11_tells_158 : decode cX11_tells 158 = .ok (.bipush (-10), 2) := by decide +kernel
theorem dX11_tells_160 : decode cX11_tells 160 = .ok (.aload_n 0, 1) := by decide +kernel
theorem dX11_tells_161 : decode cX11_tells 161 = .ok (.getfield 129, 3) := by decide +kernel
theorem dX11_tells_164 : decode cX11_tells 164 = .ok (.isub, 1) := by decide +kernel
theorem dX11_tells_165 : decode cX11_tells 165 = .ok (.ireturn, 1) := by decide +kernel
theorem dX11_tells_166 : decode cX11_tells 166 = .ok (.aload_n 0, 1) := by decide +kernel
theorem dX11_tells_167 : decode cX11_tells 167 = .ok (.iconst 0, 1) := by decide +kernel
theorem dX11_tells_168 : decode cX11_tells 168 = .ok (.putfield 110, 3) := by decide +kernel
theorem dX11_tells_171 : decode cX11_tells 171 = .ok (.aload_n 0, 1) := by decide +kernel
theorem dX11_tells_172 : decode cX11_tells 172 = .ok (.iload_n 1, 1) := by decide +kernel
theorem dX11_tells_173 : decode cX11_tells 173 = .ok (.iload_n 2, 1) := by decide +kernel
theorem dX11_tells_174 : decode cX11_tells 174 = .ok (.invokevirtual 157, 3) := by decide +kernel
theorem dX11_tells_177 : decode cX11_tells 177 = .ok (.ireturn, 1) := by decide +kernel
theorem dX11_isMirrored_0 : decode cX11_isMirrored 0 = .ok (.aload_n 0, 1) := by decide +kernel
theorem dX11_isMirrored_1 : decode cX11_isMirrored 1 = .ok (.iload_n 1, 1) := by decide +kernel
theorem dX11_isMirrored_2 : decode cX11_isMirrored 2 = .ok (.iconst (-1), 1) := by decide +kernel
theorem dX11_isMirrored_3 : decode cX11_isMirrored 3 = .ok (.invokevirtual 160, 3) := by decide +kernel
theorem dX11_isMirrored_6 : decode cX11_isMirrored 6 = .ok (.aload_n 0, 1) := by decide +kernel
theorem dX11_isMirrored_7 : decode cX11_isMirrored 7 = .ok (.iload_n 2, 1) := by decide +kernel
theorem dX11_isMirrored_8 : decode cX11_isMirrored 8 = .ok (.invokevirtual 163, 3) := by decide +kernel
theorem dX11_isMirrored_11 : decode cX11_isMirrored 11 = .ok (.ireturn, 1) := by decide +kernel
theorem dX11_mirrors_0 : decode cX11_mirrors 0 = .ok (.iload_n 1, 1) := by decide +kernel
theorem dX11_mirrors_1 : decode cX11_mirrors 1 = .ok (.invokestatic 147, 3) := by decide +kernel
theorem dX11_mirrors_4 : decode cX11_mirrors 4 = .ok (.ifCond .ne 5, 3) := by decide +kernel
theorem dX11_mirrors_7 : decode cX11_mirrors 7 = .ok (.iconst (-1), 1) := by decide +kernel
theorem dX11_mirrors_8 : decode cX11_mirrors 8 = .ok (.ireturn, 1) := by decide +kernel
theorem dX11_mirrors_9 : decode cX11_mirrors 9 = .ok (.aload_n 0, 1) := by decide +kernel
theorem dX11_mirrors_10 : decode cX11_mirrors 10 = .ok (.iload_n 1, 1) := by decide +kernel
theorem dX11_mirrors_11 : decode cX11_mirrors 11 = .ok (.aload_n 0, 1) := by decide +kernel
theorem dX11_mirrors_12 : decode cX11_mirrors 12 = .ok (.iload_n 1, 1) := by decide +kernel
theorem dX11_mirrors_13 : decode cX11_mirrors 13 = .ok (.iload_n 1, 1) := by decide +kernel
theorem dX11_mirrors_14 : decode cX11_mirrors 14 = .ok (.invokevirtual 166, 3) := by decide +kernel
theorem dX11_mirrors_17 : decode cX11_mirrors 17 = .ok (.ifCond .eq 7, 3) := by decide +kernel
theorem dX11_mirrors_20 : decode cX11_mirrors 20 = .ok (.iconst 1, 1) := by decide +kernel
theorem dX11_mirrors_21 : decode cX11_mirrors 21 = .ok (.goto 4, 3) := by decide +kernel
theorem dX11_mirrors_24 : decode cX11_mirrors 24 = .ok (.iconst 0, 1) := by decide +kernel
theorem dX11_mirrors_25 : decode cX11_mirrors 25 = .ok (.invokevirtual 157, 3) := by decide +kernel
theorem dX11_mirrors_28 : decode cX11_mirrors 28 = .ok (.ireturn, 1) := by decide +kernel
theorem dX11_joins_0 : decode cX11_joins 0 = .ok (.iload_n 1, 1) := by decide +kernel
theorem dX11_joins_1 : decode cX11_joins 1 = .ok (.invokestatic 147, 3) := by decide +kernel
theorem dX11_joins_4 : decode cX11_joins 4 = .ok (.ifCond .eq 17, 3) := by decide +kernel
theorem dX11_joins_7 : decode cX11_joins 7 = .ok (.iload_n 2, 1) := by decide +kernel
theorem dX11_joins_8 : decode cX11_joins 8 = .ok (.invokestatic 147, 3) := by decide +kernel
theorem dX11_joins_11 : decode cX11_joins 11 = .ok (.ifCond .eq 10, 3) := by decide +kernel
theorem dX11_joins_14 : decode cX11_joins 14 = .ok (.iload_n 3, 1) := by decide +kernel
theorem dX11_joins_15 : decode cX11_joins 15 = .ok (.invokestatic 147, 3) := by decide +kernel
theorem dX11_joins_18 : decode cX11_joins 18 = .ok (.ifCond .ne 5, 3) := by decide +kernel
theorem dX11_joins_21 : decode cX11_joins 21 = .ok (.iconst (-1), 1) := by decide +kernel
theorem dX11_joins_22 : decode cX11_joins 22 = .ok (.ireturn, 1) := by decide +kernel
theorem dX11_joins_23 : decode cX11_joins 23 = .ok (.aload_n 0, 1) := by decide +kernel
theorem dX11_joins_24 : decode cX11_joins 24 = .ok (.getfield 7, 3) := by decide +kernel
theorem dX11_joins_27 : decode cX11_joins 27 = .ok (.bipush 16, 2) := by decide +kernel
theorem dX11_joins_29 : decode cX11_joins 29 = .ok (.iload_n 2, 1) := by decide +kernel
theorem dX11_joins_30 : decode cX11_joins 30 = .ok (.imul, 1) := by decide +kernel
theorem dX11_joins_31 : decode cX11_joins 31 = .ok (.iconst 0, 1) := by decide +kernel
theorem dX11_joins_32 : decode cX11_joins 32 = .ok (.iadd, 1) := by decide +kernel
theorem dX11_joins_33 : decode cX11_joins 33 = .ok (.iaload, 1) := by decide +kernel
theorem dX11_joins_34 : decode cX11_joins 34 = .ok (.istore 4, 2) := by decide +kernel
theorem dX11_joins_36 : decode cX11_joins 36 = .ok (.aload_n 0, 1) := by decide +kernel
theorem dX11_joins_37 : decode cX11_joins 37 = .ok (.getfield 7, 3) := by decide +kernel
theorem dX11_joins_40 : decode cX11_joins 40 = .ok (.bipush 16, 2) := by decide +kernel
theorem dX11_joins_42 : decode cX11_joins 42 = .ok (.iload_n 3, 1) := by decide +kernel
theorem dX11_joins_43 : decode cX11_joins 43 = .ok (.imul, 1) := by decide +kernel
theorem dX11_joins_44 : decode cX11_joins 44 = .ok (.iconst 0, 1) := by decide +kernel
theorem dX11_joins_45 : decode cX11_joins 45 = .ok (.iadd, 1) := by decide +kernel
theorem dX11_joins_46 : decode cX11_joins 46 = .ok (.iaload, 1) := by decide +kernel
theorem dX11_joins_47 : decode cX11_joins 47 = .ok (.istore 5, 2) := by decide +kernel
theorem dX11_joins_49 : decode cX11_joins 49 = .ok (.iload 4, 2) := by decide +kernel
theorem dX11_joins_51 : decode cX11_joins 51 = .ok (.iconst 1, 1) := by decide +kernel
theorem dX11_joins_52 : decode cX11_joins 52 = .ok (.if_icmp .eq 9, 3) := by decide +kernel
theorem dX11_joins_55 : decode cX11_joins 55 = .ok (.iload 5, 2) := by decide +kernel
theorem dX11_joins_57 : decode cX11_joins 57 = .ok (.iconst 1, 1) := by decide +kernel
theorem dX11_joins_58 : decode cX11_joins 58 = .ok (.if_icmp .ne 7, 3) := by decide +kernel
theorem dX11_joins_61 : decode cX11_joins 61 = .ok (.iconst 1, 1) := by decide +kernel
theorem dX11_joins_62 : decode cX11_joins 62 = .ok (.goto 4, 3) := by decide +kernel
theorem dX11_joins_65 : decode cX11_joins 65 = .ok (.iconst 0, 1) := by decide +kernel
theorem dX11_joins_66 : decode cX11_joins 66 = .ok (.istore 6, 2) := by decide +kernel
theorem dX11_joins_68 : decode cX11_joins 68 = .ok (.aload_n 0, 1) := by decide +kernel
theorem dX11_joins_69 : decode cX11_joins 69 = .ok (.getfield 7, 3) := by decide +kernel
theorem dX11_joins_72 : decode cX11_joins 72 = .ok (.bipush 16, 2) := by decide +kernel
theorem dX11_joins_74 : decode cX11_joins 74 = .ok (.iload_n 2, 1) := by decide +kernel
theorem dX11_joins_75 : decode cX11_joins 75 = .ok (.imul, 1) := by decide +kernel
theorem dX11_joins_76 : decode cX11_joins 76 = .ok (.iconst 1, 1) := by decide +kernel
theorem dX11_joins_77 : decode cX11_joins 77 = .ok (.iadd, 1) := by decide +kernel
theorem dX11_joins_78 : decode cX11_joins 78 = .ok (.iaload, 1) := by decide +kernel
theorem dX11_joins_79 : decode cX11_joins 79 = .ok (.iload 4, 2) := by decide +kernel
theorem dX11_joins_81 : decode cX11_joins 81 = .ok (.iload 6, 2) := by decide +kernel
theorem dX11_joins_83 : decode cX11_joins 83 = .ok (.if_icmp .ge 7, 3) := by decide +kernel
theorem dX11_joins_86 : decode cX11_joins 86 = .ok (.iconst 2, 1) := by decide +kernel
theorem dX11_joins_87 : decode cX11_joins 87 = .ok (.goto 4, 3) := by decide +kernel
theorem dX11_joins_90 : decode cX11_joins 90 = .ok (.iconst 1, 1) := by decide +kernel
theorem dX11_joins_91 : decode cX11_joins 91 = .ok (.imul, 1) := by decide +kernel
theorem dX11_joins_92 : decode cX11_joins 92 = .ok (.aload_n 0, 1) := by decide +kernel
theorem dX11_joins_93 : decode cX11_joins 93 = .ok (.getfield 7, 3) := by decide +kernel
theorem dX11_joins_96 : decode cX11_joins 96 = .ok (.bipush 16, 2) := by decide +kernel
theorem dX11_joins_98 : decode cX11_joins 98 = .ok (.iload_n 3, 1) := by decide +kernel
theorem dX11_joins_99 : decode cX11_joins 99 = .ok (.imul, 1) := by decide +kernel
theorem dX11_joins_100 : decode cX11_joins 100 = .ok (.iconst 1, 1) := by decide +kernel
theorem dX11_joins_101 : decode cX11_joins 101 = .ok (.iadd, 1) := by decide +kernel
theorem dX11_joins_102 : decode cX11_joins 102 = .ok (.iaload, 1) := by decide +kernel
theorem dX11_joins_103 : decode cX11_joins 103 = .ok (.iload 5, 2) := by decide +kernel
theorem dX11_joins_105 : decode cX11_joins 105 = .ok (.iload 6, 2) := by decide +kernel
theorem dX11_joins_107 : decode cX11_joins 107 = .ok (.if_icmp .ge 7, 3) := by decide +kernel
theorem dX11_joins_110 : decode cX11_joins 110 = .ok (.iconst 2, 1) := by decide +kernel
theorem dX11_joins_111 : decode cX11_joins 111 = .ok (.goto 4, 3) := by decide +kernel
theorem dX11_joins_114 : decode cX11_joins 114 = .ok (.iconst 1, 1) := by decide +kernel
theorem dX11_joins_115 : decode cX11_joins 115 = .ok (.imul, 1) := by decide +kernel
theorem dX11_joins_116 : decode cX11_joins 116 = .ok (.iadd, 1) := by decide +kernel
theorem dX11_joins_117 : decode cX11_joins 117 = .ok (.istore 7, 2) := by decide +kernel
theorem dX11_joins_119 : decode cX11_joins 119 = .ok (.aload_n 0, 1) := by decide +kernel
theorem dX11_joins_120 : decode cX11_joins 120 = .ok (.iload 6, 2) := by decide +kernel
theorem dX11_joins_122 : decode cX11_joins 122 = .ok (.iload 7, 2) := by decide +kernel
theorem dX11_joins_124 : decode cX11_joins 124 = .ok (.aload_n 0, 1) := by decide +kernel
theorem dX11_joins_125 : decode cX11_joins 125 = .ok (.getfield 7, 3) := by decide +kernel
theorem dX11_joins_128 : decode cX11_joins 128 = .ok (.bipush 16, 2) := by decide +kernel
theorem dX11_joins_130 : decode cX11_joins 130 = .ok (.iload_n 2, 1) := by decide +kernel
theorem dX11_joins_131 : decode cX11_joins 131 = .ok (.imul, 1) := by decide +kernel
theorem dX11_joins_132 : decode cX11_joins 132 = .ok (.iconst 2, 1) := by decide +kernel
theorem dX11_joins_133 : decode cX11_joins 133 = .ok (.iadd, 1) := by decide +kernel
theorem dX11_joins_134 : decode cX11_joins 134 = .ok (.iaload, 1) := by decide +kernel
theorem dX11_joins_135 : decode cX11_joins 135 = .ok (.aload_n 0, 1) := by decide +kernel
theorem dX11_joins_136 : decode cX11_joins 136 = .ok (.getfield 7, 3) := by decide +kernel
theorem dX11_joins_139 : decode cX11_joins 139 = .ok (.bipush 16, 2) := by decide +kernel
theorem dX11_joins_141 : decode cX11_joins 141 = .ok (.iload_n 3, 1) := by decide +kernel
theorem dX11_joins_142 : decode cX11_joins 142 = .ok (.imul, 1) := by decide +kernel
theorem dX11_joins_143 : decode cX11_joins 143 = .ok (.iconst 2, 1) := by decide +kernel
theorem dX11_joins_144 : decode cX11_joins 144 = .ok (.iadd, 1) := by decide +kernel
theorem dX11_joins_145 : decode cX11_joins 145 = .ok (.iaload, 1) := by decide +kernel
theorem dX11_joins_146 : decode cX11_joins 146 = .ok (.iadd, 1) := by decide +kernel
theorem dX11_joins_147 : decode cX11_joins 147 = .ok (.invokevirtual 96, 3) := by decide +kernel
theorem dX11_joins_150 : decode cX11_joins 150 = .ok (.iconst 0, 1) := by decide +kernel
theorem dX11_joins_151 : decode cX11_joins 151 = .ok (.istore 8, 2) := by decide +kernel
theorem dX11_joins_153 : decode cX11_joins 153 = .ok (.iload 8, 2) := by decide +kernel
theorem dX11_joins_155 : decode cX11_joins 155 = .ok (.aload_n 0, 1) := by decide +kernel
theorem dX11_joins_156 : decode cX11_joins 156 = .ok (.iload_n 2, 1) := by decide +kernel
theorem dX11_joins_157 : decode cX11_joins 157 = .ok (.invokevirtual 100, 3) := by decide +kernel
theorem dX11_joins_160 : decode cX11_joins 160 = .ok (.if_icmp .ge 27, 3) := by decide +kernel
theorem dX11_joins_163 : decode cX11_joins 163 = .ok (.aload_n 0, 1) := by decide +kernel
theorem dX11_joins_164 : decode cX11_joins 164 = .ok (.aload_n 0, 1) := by decide +kernel
theorem dX11_joins_165 : decode cX11_joins 165 = .ok (.iload_n 2, 1) := by decide +kernel
theorem dX11_joins_166 : decode cX11_joins 166 = .ok (.iload 8, 2) := by decide +kernel
theorem dX11_joins_168 : decode cX11_joins 168 = .ok (.invokevirtual 90, 3) := by decide +kernel
theorem dX11_joins_171 : decode cX11_joins 171 = .ok (.aload_n 0, 1) := by decide +kernel
theorem dX11_joins_172 : decode cX11_joins 172 = .ok (.iload_n 2, 1) := by decide +kernel
theorem dX11_joins_173 : decode cX11_joins 173 = .ok (.iload 8, 2) := by decide +kernel
theorem dX11_joins_175 : decode cX11_joins 175 = .ok (.invokevirtual 93, 3) := by decide +kernel
theorem dX11_joins_178 : decode cX11_joins 178 = .ok (.invokevirtual 104, 3) := by decide +kernel
theorem dX11_joins_181 : decode cX11_joins 181 = .ok (.iinc 8 1, 3) := by decide +kernel
theorem dX11_joins_184 : decode cX11_joins 184 = .ok (.goto (-31), 3) := by decide +kernel
theorem dX11_joins_187 : decode cX11_joins 187 = .ok (.iconst 0, 1) := by decide +kernel
theorem dX11_joins_188 : decode cX11_joins 188 = .ok (.istore 8, 2) := by decide +kernel
theorem dX11_joins_190 : decode cX11_joins 190 = .ok (.iload 8, 2) := by decide +kernel
theorem dX11_joins_192 : decode cX11_joins 192 = .ok (.aload_n 0, 1) := by decide +kernel
theorem dX11_joins_193 : decode cX11_joins 193 = .ok (.iload_n 3, 1) := by decide +kernel
theorem dX11_joins_194 : decode cX11_joins 194 = .ok (.invokevirtual 100, 3) := by decide +kernel
theorem dX11_joins_197 : decode cX11_joins 197 = .ok (.if_icmp .ge 27, 3) := by decide +kernel
theorem dX11_joins_200 : decode cX11_joins 200 = .ok (.aload_n 0, 1) := by decide +kernel
theorem dX11_joins_201 : decode cX11_joins 201 = .ok (.aload_n 0, 1) := by decide +kernel
theorem dX11_joins_202 : decode cX11_joins 202 = .ok (.iload_n 3, 1) := by decide +kernel
theorem dX11_joins_203 : decode cX11_joins 203 = .ok (.iload 8, 2) := by decide +kernel
theorem dX11_joins_205 : decode cX11_joins 205 = .ok (.invokevirtual 90, 3) := by decide +kernel
theorem dX11_joins_208 : decode cX11_joins 208 = .ok (.aload_n 0, 1) := by decide +kernel
theorem dX11_joins_209 : decode cX11_joins 209 = .ok (.iload_n 3, 1) := by decide +kernel
theorem dX11_joins_210 : decode cX11_joins 210 = .ok (.iload 8, 2) := by decide +kernel
theorem dX11_joins_212 : decode cX11_joins 212 = .ok (.invokevirtual 93, 3) := by decide +kernel
theorem dX11_joins_215 : decode cX11_joins 215 = .ok (.invokevirtual 104, 3) := by decide +kernel
theorem dX11_joins_218 : decode cX11_joins 218 = .ok (.iinc 8 1, 3) := by decide +kernel
theorem dX11_joins_221 : decode cX11_joins 221 = .ok (.goto (-31), 3) := by decide +kernel
theorem dX11_joins_224 : decode cX11_joins 224 = .ok (.aload_n 0, 1) := by decide +kernel
theorem dX11_joins_225 : decode cX11_joins 225 = .ok (.iload_n 1, 1) := by decide +kernel
theorem dX11_joins_226 : decode cX11_joins 226 = .ok (.aload_n 0, 1) := by decide +kernel
theorem dX11_joins_227 : decode cX11_joins 227 = .ok (.getfield 76, 3) := by decide +kernel
theorem dX11_joins_230 : decode cX11_joins 230 = .ok (.invokevirtual 157, 3) := by decide +kernel
theorem dX11_joins_233 : decode cX11_joins 233 = .ok (.ireturn, 1) := by decide +kernel
theorem dX11_fills_0 : decode cX11_fills 0 = .ok (.iload_n 1, 1) := by decide +kernel
theorem dX11_fills_1 : decode cX11_fills 1 = .ok (.invokestatic 147, 3) := by decide +kernel
theorem dX11_fills_4 : decode cX11_fills 4 = .ok (.ifCond .eq 41, 3) := by decide +kernel
theorem dX11_fills_7 : decode cX11_fills 7 = .ok (.iload_n 2, 1) := by decide +kernel
theorem dX11_fills_8 : decode cX11_fills 8 = .ok (.i2l, 1) := by decide +kernel
theorem dX11_fills_9 : decode cX11_fills 9 = .ok (.lconst 1, 1) := by decide +kernel
theorem dX11_fills_10 : decode cX11_fills 10 = .ok (.ldc2_w 141, 3) := by decide +kernel
theorem dX11_fills_13 : decode cX11_fills 13 = .ok (.invokestatic 63, 3) := by decide +kernel
theorem dX11_fills_16 : decode cX11_fills 16 = .ok (.ifCond .eq 29, 3) := by decide +kernel
theorem dX11_fills_19 : decode cX11_fills 19 = .ok (.iload_n 3, 1) := by decide +kernel
theorem dX11_fills_20 : decode cX11_fills 20 = .ok (.i2l, 1) := by decide +kernel
theorem dX11_fills_21 : decode cX11_fills 21 = .ok (.ldc2_w 170, 3) := by decide +kernel
theorem dX11_fills_24 : decode cX11_fills 24 = .ok (.ldc2_w 172, 3) := by decide +kernel
theorem dX11_fills_27 : decode cX11_fills 27 = .ok (.invokestatic 63, 3) := by decide +kernel
theorem dX11_fills_30 : decode cX11_fills 30 = .ok (.ifCond .eq 15, 3) := by decide +kernel
theorem dX11_fills_33 : decode cX11_fills 33 = .ok (.iload_n 2, 1) := by decide +kernel
theorem dX11_fills_34 : decode cX11_fills 34 = .ok (.i2l, 1) := by decide +kernel
theorem dX11_fills_35 : decode cX11_fills 35 = .ok (.iload_n 3, 1) := by decide +kernel
theorem dX11_fills_36 : decode cX11_fills 36 = .ok (.i2l, 1) := by decide +kernel
theorem dX11_fills_37 : decode cX11_fills 37 = .ok (.invokestatic 143, 3) := by decide +kernel
theorem dX11_fills_40 : decode cX11_fills 40 = .ok (.lconst 1, 1) := by decide +kernel
theorem dX11_fills_41 : decode cX11_fills 41 = .ok (.lcmp, 1) := by decide +kernel
theorem dX11_fills_42 : decode cX11_fills 42 = .ok (.ifCond .eq 5, 3) := by decide +kernel
theorem dX11_fills_45 : decode cX11_fills 45 = .ok (.iconst (-1), 1) := by decide +kernel
theorem dX11_fills_46 : decode cX11_fills 46 = .ok (.ireturn, 1) := by decide +kernel
theorem dX11_fills_47 : decode cX11_fills 47 = .ok (.aload_n 0, 1) := by decide +kernel
theorem dX11_fills_48 : decode cX11_fills 48 = .ok (.iload_n 1, 1) := by decide +kernel
theorem dX11_fills_49 : decode cX11_fills 49 = .ok (.iconst 1, 1) := by decide +kernel
theorem dX11_fills_50 : decode cX11_fills 50 = .ok (.invokevirtual 160, 3) := by decide +kernel
theorem dX11_fills_53 : decode cX11_fills 53 = .ok (.aload_n 0, 1) := by decide +kernel
theorem dX11_fills_54 : decode cX11_fills 54 = .ok (.iload_n 2, 1) := by decide +kernel
theorem dX11_fills_55 : decode cX11_fills 55 = .ok (.iload_n 3, 1) := by decide +kernel
theorem dX11_fills_56 : decode cX11_fills 56 = .ok (.invokevirtual 104, 3) := by decide +kernel
theorem dX11_fills_59 : decode cX11_fills 59 = .ok (.aload_n 0, 1) := by decide +kernel
theorem dX11_fills_60 : decode cX11_fills 60 = .ok (.iload_n 1, 1) := by decide +kernel
theorem dX11_fills_61 : decode cX11_fills 61 = .ok (.aload_n 0, 1) := by decide +kernel
theorem dX11_fills_62 : decode cX11_fills 62 = .ok (.getfield 76, 3) := by decide +kernel
theorem dX11_fills_65 : decode cX11_fills 65 = .ok (.invokevirtual 157, 3) := by decide +kernel
theorem dX11_fills_68 : decode cX11_fills 68 = .ok (.ireturn, 1) := by decide +kernel
theorem dX11_drills_0 : decode cX11_drills 0 = .ok (.iload_n 1, 1) := by decide +kernel
theorem dX11_drills_1 : decode cX11_drills 1 = .ok (.invokestatic 147, 3) := by decide +kernel
theorem dX11_drills_4 : decode cX11_drills 4 = .ok (.ifCond .eq 20, 3) := by decide +kernel
theorem dX11_drills_7 : decode cX11_drills 7 = .ok (.iload_n 2, 1) := by decide +kernel
theorem dX11_drills_8 : decode cX11_drills 8 = .ok (.i2l, 1) := by decide +kernel
theorem dX11_drills_9 : decode cX11_drills 9 = .ok (.lconst 0, 1) := by decide +kernel
theorem dX11_drills_10 : decode cX11_drills 10 = .ok (.aload_n 0, 1) := by decide +kernel
theorem dX11_drills_11 : decode cX11_drills 11 = .ok (.iload_n 1, 1) := by decide +kernel
theorem dX11_drills_12 : decode cX11_drills 12 = .ok (.invokevirtual 100, 3) := by decide +kernel
theorem dX11_drills_15 : decode cX11_drills 15 = .ok (.iconst 1, 1) := by decide +kernel
theorem dX11_drills_16 : decode cX11_drills 16 = .ok (.isub, 1) := by decide +kernel
theorem dX11_drills_17 : decode cX11_drills 17 = .ok (.i2l, 1) := by decide +kernel
theorem dX11_drills_18 : decode cX11_drills 18 = .ok (.invokestatic 63, 3) := by decide +kernel
theorem dX11_drills_21 : decode cX11_drills 21 = .ok (.ifCond .ne 5, 3) := by decide +kernel
theorem dX11_drills_24 : decode cX11_drills 24 = .ok (.iconst (-1), 1) := by decide +kernel
theorem dX11_drills_25 : decode cX11_drills 25 = .ok (.ireturn, 1) := by decide +kernel
theorem dX11_drills_26 : decode cX11_drills 26 = .ok (.aload_n 0, 1) := by decide +kernel
theorem dX11_drills_27 : decode cX11_drills 27 = .ok (.aload_n 0, 1) := by decide +kernel
theorem dX11_drills_28 : decode cX11_drills 28 = .ok (.getfield 7, 3) := by decide +kernel
theorem dX11_drills_31 : decode cX11_drills 31 = .ok (.bipush 16, 2) := by decide +kernel
theorem dX11_drills_33 : decode cX11_drills 33 = .ok (.iload_n 1, 1) := by decide +kernel
theorem dX11_drills_34 : decode cX11_drills 34 = .ok (.imul, 1) := by decide +kernel
theorem dX11_drills_35 : decode cX11_drills 35 = .ok (.iconst 0, 1) := by decide +kernel
theorem dX11_drills_36 : decode cX11_drills 36 = .ok (.iadd, 1) := by decide +kernel
theorem dX11_drills_37 : decode cX11_drills 37 = .ok (.iaload, 1) := by decide +kernel
theorem dX11_drills_38 : decode cX11_drills 38 = .ok (.aload_n 0, 1) := by decide +kernel
theorem dX11_drills_39 : decode cX11_drills 39 = .ok (.getfield 7, 3) := by decide +kernel
theorem dX11_drills_42 : decode cX11_drills 42 = .ok (.bipush 16, 2) := by decide +kernel
theorem dX11_drills_44 : decode cX11_drills 44 = .ok (.iload_n 1, 1) := by decide +kernel
theorem dX11_drills_45 : decode cX11_drills 45 = .ok (.imul, 1) := by decide +kernel
theorem dX11_drills_46 : decode cX11_drills 46 = .ok (.iconst 1, 1) := by decide +kernel
theorem dX11_drills_47 : decode cX11_drills 47 = .ok (.iadd, 1) := by decide +kernel
theorem dX11_drills_48 : decode cX11_drills 48 = .ok (.iaload, 1) := by decide +kernel
theorem dX11_drills_49 : decode cX11_drills 49 = .ok (.aload_n 0, 1) := by decide +kernel
theorem dX11_drills_50 : decode cX11_drills 50 = .ok (.getfield 7, 3) := by decide +kernel
theorem dX11_drills_53 : decode cX11_drills 53 = .ok (.bipush 16, 2) := by decide +kernel
theorem dX11_drills_55 : decode cX11_drills 55 = .ok (.iload_n 1, 1) := by decide +kernel
theorem dX11_drills_56 : decode cX11_drills 56 = .ok (.imul, 1) := by decide +kernel
theorem dX11_drills_57 : decode cX11_drills 57 = .ok (.iconst 2, 1) := by decide +kernel
theorem dX11_drills_58 : decode cX11_drills 58 = .ok (.iadd, 1) := by decide +kernel
theorem dX11_drills_59 : decode cX11_drills 59 = .ok (.iaload, 1) := by decide +kernel
theorem dX11_drills_60 : decode cX11_drills 60 = .ok (.invokevirtual 96, 3) := by decide +kernel
theorem dX11_drills_63 : decode cX11_drills 63 = .ok (.iconst 0, 1) := by decide +kernel
theorem dX11_drills_64 : decode cX11_drills 64 = .ok (.istore_n 3, 1) := by decide +kernel
theorem dX11_drills_65 : decode cX11_drills 65 = .ok (.iload_n 3, 1) := by decide +kernel
theorem dX11_drills_66 : decode cX11_drills 66 = .ok (.aload_n 0, 1) := by decide +kernel
theorem dX11_drills_67 : decode cX11_drills 67 = .ok (.iload_n 1, 1) := by decide +kernel
theorem dX11_drills_68 : decode cX11_drills 68 = .ok (.invokevirtual 100, 3) := by decide +kernel
theorem dX11_drills_71 : decode cX11_drills 71 = .ok (.if_icmp .ge 30, 3) := by decide +kernel
theorem dX11_drills_74 : decode cX11_drills 74 = .ok (.iload_n 3, 1) := by decide +kernel
theorem dX11_drills_75 : decode cX11_drills 75 = .ok (.iload_n 2, 1) := by decide +kernel
theorem dX11_drills_76 : decode cX11_drills 76 = .ok (.if_icmp .eq 19, 3) := by decide +kernel
theorem dX11_drills_79 : decode cX11_drills 79 = .ok (.aload_n 0, 1) := by decide +kernel
theorem dX11_drills_80 : decode cX11_drills 80 = .ok (.aload_n 0, 1) := by decide +kernel
theorem dX11_drills_81 : decode cX11_drills 81 = .ok (.iload_n 1, 1) := by decide +kernel
theorem dX11_drills_82 : decode cX11_drills 82 = .ok (.iload_n 3, 1) := by decide +kernel
theorem dX11_drills_83 : decode cX11_drills 83 = .ok (.invokevirtual 90, 3) := by decide +kernel
theorem dX11_drills_86 : decode cX11_drills 86 = .ok (.aload_n 0, 1) := by decide +kernel
theorem dX11_drills_87 : decode cX11_drills 87 = .ok (.iload_n 1, 1) := by decide +kernel
theorem dX11_drills_88 : decode cX11_drills 88 = .ok (.iload_n 3, 1) := by decide +kernel
theorem dX11_drills_89 : decode cX11_drills 89 = .ok (.invokevirtual 93, 3) := by decide +kernel
theorem dX11_drills_92 : decode cX11_drills 92 = .ok (.invokevirtual 104, 3) := by decide +kernel
theorem dX11_drills_95 : decode cX11_drills 95 = .ok (.iinc 3 1, 3) := by decide +kernel
theorem dX11_drills_98 : decode cX11_drills 98 = .ok (.goto (-33), 3) := by decide +kernel
theorem dX11_drills_101 : decode cX11_drills 101 = .ok (.aload_n 0, 1) := by decide +kernel
theorem dX11_drills_102 : decode cX11_drills 102 = .ok (.iload_n 1, 1) := by decide +kernel
theorem dX11_drills_103 : decode cX11_drills 103 = .ok (.aload_n 0, 1) := by decide +kernel
theorem dX11_drills_104 : decode cX11_drills 104 = .ok (.getfield 76, 3) := by decide +kernel
theorem dX11_drills_107 : decode cX11_drills 107 = .ok (.invokevirtual 157, 3) := by decide +kernel
theorem dX11_drills_110 : decode cX11_drills 110 = .ok (.ireturn, 1) := by decide +kernel
theorem dX11_isFree_0 : decode cX11_isFree 0 = .ok (.iconst 1, 1) := by decide +kernel
theorem dX11_isFree_1 : decode cX11_isFree 1 = .ok (.istore_n 3, 1) := by decide +kernel
theorem dX11_isFree_2 : decode cX11_isFree 2 = .ok (.iconst 0, 1) := by decide +kernel
theorem dX11_isFree_3 : decode cX11_isFree 3 = .ok (.istore 4, 2) := by decide +kernel
theorem dX11_isFree_5 : decode cX11_isFree 5 = .ok (.iload 4, 2) := by decide +kernel
theorem dX11_isFree_7 : decode cX11_isFree 7 = .ok (.aload_n 0, 1) := by decide +kernel
theorem dX11_isFree_8 : decode cX11_isFree 8 = .ok (.iload_n 1, 1) := by decide +kernel
theorem dX11_isFree_9 : decode cX11_isFree 9 = .ok (.invokevirtual 100, 3) := by decide +kernel
theorem dX11_isFree_12 : decode cX11_isFree 12 = .ok (.if_icmp .ge 37, 3) := by decide +kernel
theorem dX11_isFree_15 : decode cX11_isFree 15 = .ok (.iload_n 3, 1) := by decide +kernel
theorem dX11_isFree_16 : decode cX11_isFree 16 = .ok (.ifCond .eq 25, 3) := by decide +kernel
theorem dX11_isFree_19 : decode cX11_isFree 19 = .ok (.aload_n 0, 1) := by decide +kernel
theorem dX11_isFree_20 : decode cX11_isFree 20 = .ok (.iload_n 1, 1) := by decide +kernel
theorem dX11_isFree_21 : decode cX11_isFree 21 = .ok (.iload 4, 2) := by decide +kernel
theorem dX11_isFree_23 : decode cX11_isFree 23 = .ok (.invokevirtual 90, 3) := by decide +kernel
theorem dX11_isFree_26 : decode cX11_isFree 26 = .ok (.i2l, 1) := by decide +kernel
theorem dX11_isFree_27 : decode cX11_isFree 27 = .ok (.iload_n 2, 1) := by decide +kernel
theorem dX11_isFree_28 : decode cX11_isFree 28 = .ok (.i2l, 1) := by decide +kernel
theorem dX11_isFree_29 : decode cX11_isFree 29 = .ok (.invokestatic 143, 3) := by decide +kernel
theorem dX11_isFree_32 : decode cX11_isFree 32 = .ok (.lconst 1, 1) := by decide +kernel
theorem dX11_isFree_33 : decode cX11_isFree 33 = .ok (.lcmp, 1) := by decide +kernel
theorem dX11_isFree_34 : decode cX11_isFree 34 = .ok (.ifCond .ne 7, 3) := by decide +kernel
theorem dX11_isFree_37 : decode cX11_isFree 37 = .ok (.iconst 1, 1) := by decide +kernel
theorem dX11_isFree_38 : decode cX11_isFree 38 = .ok (.goto 4, 3) := by decide +kernel
theorem dX11_isFree_41 : decode cX11_isFree 41 = .ok (.iconst 0, 1) := by decide +kernel
theorem dX11_isFree_42 : decode cX11_isFree 42 = .ok (.istore_n 3, 1) := by decide +kernel
theorem dX11_isFree_43 : decode cX11_isFree 43 = .ok (.iinc 4 1, 3) := by decide +kernel
theorem dX11_isFree_46 : decode cX11_isFree 46 = .ok (.goto (-41), 3) := by decide +kernel
theorem dX11_isFree_49 : decode cX11_isFree 49 = .ok (.iload_n 3, 1) := by decide +kernel
theorem dX11_isFree_50 : decode cX11_isFree 50 = .ok (.ireturn, 1) := by decide +kernel
theorem dX11_turnsOn_0 : decode cX11_turnsOn 0 = .ok (.iload_n 1, 1) := by decide +kernel
theorem dX11_turnsOn_1 : decode cX11_turnsOn 1 = .ok (.invokestatic 147, 3) := by decide +kernel
theorem dX11_turnsOn_4 : decode cX11_turnsOn 4 = .ok (.ifCond .eq 17, 3) := by decide +kernel
theorem dX11_turnsOn_7 : decode cX11_turnsOn 7 = .ok (.iload_n 2, 1) := by decide +kernel
theorem dX11_turnsOn_8 : decode cX11_turnsOn 8 = .ok (.i2l, 1) := by decide +kernel
theorem dX11_turnsOn_9 : decode cX11_turnsOn 9 = .ok (.ldc2_w 174, 3) := by decide +kernel
theorem dX11_turnsOn_12 : decode cX11_turnsOn 12 = .ok (.ldc2_w 176, 3) := by decide +kernel
theorem dX11_turnsOn_15 : decode cX11_turnsOn 15 = .ok (.invokestatic 63, 3) := by decide +kernel
theorem dX11_turnsOn_18 : decode cX11_turnsOn 18 = .ok (.ifCond .ne 5, 3) := by decide +kernel
theorem dX11_turnsOn_21 : decode cX11_turnsOn 21 = .ok (.iconst (-1), 1) := by decide +kernel
theorem dX11_turnsOn_22 : decode cX11_turnsOn 22 = .ok (.ireturn, 1) := by decide +kernel
theorem dX11_turnsOn_23 : decode cX11_turnsOn 23 = .ok (.aload_n 0, 1) := by decide +kernel
theorem dX11_turnsOn_24 : decode cX11_turnsOn 24 = .ok (.iload_n 1, 1) := by decide +kernel
theorem dX11_turnsOn_25 : decode cX11_turnsOn 25 = .ok (.iload_n 2, 1) := by decide +kernel
theorem dX11_turnsOn_26 : decode cX11_turnsOn 26 = .ok (.invokevirtual 178, 3) := by decide +kernel
theorem dX11_turnsOn_29 : decode cX11_turnsOn 29 = .ok (.ifCond .ne 6, 3) := by decide +kernel
theorem dX11_turnsOn_32 : decode cX11_turnsOn 32 = .ok (.bipush (-2), 2) := by decide +kernel
theorem dX11_turnsOn_34 : decode cX11_turnsOn 34 = .ok (.ireturn, 1) := by decide +kernel
theorem dX11_turnsOn_35 : decode cX11_turnsOn 35 = .ok (.aload_n 0, 1) := by decide +kernel
theorem dX11_turnsOn_36 : decode cX11_turnsOn 36 = .ok (.iload_n 1, 1) := by decide +kernel
theorem dX11_turnsOn_37 : decode cX11_turnsOn 37 = .ok (.iload_n 2, 1) := by decide +kernel
theorem dX11_turnsOn_38 : decode cX11_turnsOn 38 = .ok (.invokevirtual 160, 3) := by decide +kernel
theorem dX11_turnsOn_41 : decode cX11_turnsOn 41 = .ok (.aload_n 0, 1) := by decide +kernel
theorem dX11_turnsOn_42 : decode cX11_turnsOn 42 = .ok (.iload_n 1, 1) := by decide +kernel
theorem dX11_turnsOn_43 : decode cX11_turnsOn 43 = .ok (.iconst 1, 1) := by decide +kernel
theorem dX11_turnsOn_44 : decode cX11_turnsOn 44 = .ok (.invokevirtual 157, 3) := by decide +kernel
theorem dX11_turnsOn_47 : decode cX11_turnsOn 47 = .ok (.ireturn, 1) := by decide +kernel
theorem dX11_unwraps_0 : decode cX11_unwraps 0 = .ok (.iload_n 1, 1) := by decide +kernel
theorem dX11_unwraps_1 : decode cX11_unwraps 1 = .ok (.invokestatic 147, 3) := by decide +kernel
theorem dX11_unwraps_4 : decode cX11_unwraps 4 = .ok (.ifCond .eq 17, 3) := by decide +kernel
theorem dX11_unwraps_7 : decode cX11_unwraps 7 = .ok (.iload_n 2, 1) := by decide +kernel
theorem dX11_unwraps_8 : decode cX11_unwraps 8 = .ok (.i2l, 1) := by decide +kernel
theorem dX11_unwraps_9 : decode cX11_unwraps 9 = .ok (.ldc2_w 174, 3) := by decide +kernel
theorem dX11_unwraps_12 : decode cX11_unwraps 12 = .ok (.ldc2_w 176, 3) := by decide +kernel
theorem dX11_unwraps_15 : decode cX11_unwraps 15 = .ok (.invokestatic 63, 3) := by decide +kernel
theorem dX11_unwraps_18 : decode cX11_unwraps 18 = .ok (.ifCond .ne 5, 3) := by decide +kernel
theorem dX11_unwraps_21 : decode cX11_unwraps 21 = .ok (.iconst (-1), 1) := by decide +kernel
theorem dX11_unwraps_22 : decode cX11_unwraps 22 = .ok (.ireturn, 1) := by decide +kernel
theorem dX11_unwraps_23 : decode cX11_unwraps 23 = .ok (.aload_n 0, 1) := by decide +kernel
theorem dX11_unwraps_24 : decode cX11_unwraps 24 = .ok (.iload_n 1, 1) := by decide +kernel
theorem dX11_unwraps_25 : decode cX11_unwraps 25 = .ok (.iload_n 2, 1) := by decide +kernel
theorem dX11_unwraps_26 : decode cX11_unwraps 26 = .ok (.invokevirtual 178, 3) := by decide +kernel
theorem dX11_unwraps_29 : decode cX11_unwraps 29 = .ok (.ifCond .ne 6, 3) := by decide +kernel
theorem dX11_unwraps_32 : decode cX11_unwraps 32 = .ok (.bipush (-2), 2) := by decide +kernel
theorem dX11_unwraps_34 : decode cX11_unwraps 34 = .ok (.ireturn, 1) := by decide +kernel
theorem dX11_unwraps_35 : decode cX11_unwraps 35 = .ok (.aload_n 0, 1) := by decide +kernel
theorem dX11_unwraps_36 : decode cX11_unwraps 36 = .ok (.getfield 7, 3) := by decide +kernel
theorem dX11_unwraps_39 : decode cX11_unwraps 39 = .ok (.bipush 16, 2) := by decide +kernel
theorem dX11_unwraps_41 : decode cX11_unwraps 41 = .ok (.iload_n 1, 1) := by decide +kernel
theorem dX11_unwraps_42 : decode cX11_unwraps 42 = .ok (.imul, 1) := by decide +kernel
theorem dX11_unwraps_43 : decode cX11_unwraps 43 = .ok (.iconst 2, 1) := by decide +kernel
theorem dX11_unwraps_44 : decode cX11_unwraps 44 = .ok (.iadd, 1) := by decide +kernel
theorem dX11_unwraps_45 : decode cX11_unwraps 45 = .ok (.iaload, 1) := by decide +kernel
theorem dX11_unwraps_46 : decode cX11_unwraps 46 = .ok (.istore_n 3, 1) := by decide +kernel
theorem dX11_unwraps_47 : decode cX11_unwraps 47 = .ok (.aload_n 0, 1) := by decide +kernel
theorem dX11_unwraps_48 : decode cX11_unwraps 48 = .ok (.aload_n 0, 1) := by decide +kernel
theorem dX11_unwraps_49 : decode cX11_unwraps 49 = .ok (.getfield 7, 3) := by decide +kernel
theorem dX11_unwraps_52 : decode cX11_unwraps 52 = .ok (.bipush 16, 2) := by decide +kernel
theorem dX11_unwraps_54 : decode cX11_unwraps 54 = .ok (.iload_n 1, 1) := by decide +kernel
theorem dX11_unwraps_55 : decode cX11_unwraps 55 = .ok (.imul, 1) := by decide +kernel
theorem dX11_unwraps_56 : decode cX11_unwraps 56 = .ok (.iconst 0, 1) := by decide +kernel
theorem dX11_unwraps_57 : decode cX11_unwraps 57 = .ok (.iadd, 1) := by decide +kernel
theorem dX11_unwraps_58 : decode cX11_unwraps 58 = .ok (.iaload, 1) := by decide +kernel
theorem dX11_unwraps_59 : decode cX11_unwraps 59 = .ok (.aload_n 0, 1) := by decide +kernel
theorem dX11_unwraps_60 : decode cX11_unwraps 60 = .ok (.getfield 7, 3) := by decide +kernel
theorem dX11_unwraps_63 : decode cX11_unwraps 63 = .ok (.bipush 16, 2) := by decide +kernel
theorem dX11_unwraps_65 : decode cX11_unwraps 65 = .ok (.iload_n 1, 1) := by decide +kernel
theorem dX11_unwraps_66 : decode cX11_unwraps 66 = .ok (.imul, 1) := by decide +kernel
theorem dX11_unwraps_67 : decode cX11_unwraps 67 = .ok (.iconst 1, 1) := by decide +kernel
theorem dX11_unwraps_68 : decode cX11_unwraps 68 = .ok (.iadd, 1) := by decide +kernel
theorem dX11_unwraps_69 : decode cX11_unwraps 69 = .ok (.iaload, 1) := by decide +kernel
theorem dX11_unwraps_70 : decode cX11_unwraps 70 = .ok (.iconst 0, 1) := by decide +kernel
theorem dX11_unwraps_71 : decode cX11_unwraps 71 = .ok (.invokevirtual 96, 3) := by decide +kernel
theorem dX11_unwraps_74 : decode cX11_unwraps 74 = .ok (.iconst 0, 1) := by decide +kernel
theorem dX11_unwraps_75 : decode cX11_unwraps 75 = .ok (.istore 4, 2) := by decide +kernel
theorem dX11_unwraps_77 : decode cX11_unwraps 77 = .ok (.iload 4, 2) := by decide +kernel
theorem dX11_unwraps_79 : decode cX11_unwraps 79 = .ok (.aload_n 0, 1) := by decide +kernel
theorem dX11_unwraps_80 : decode cX11_unwraps 80 = .ok (.iload_n 1, 1) := by decide +kernel
theorem dX11_unwraps_81 : decode cX11_unwraps 81 = .ok (.invokevirtual 100, 3) := by decide +kernel
theorem dX11_unwraps_84 : decode cX11_unwraps 84 = .ok (.if_icmp .ge 68, 3) := by decide +kernel
theorem dX11_unwraps_87 : decode cX11_unwraps 87 = .ok (.iconst 1, 1) := by decide +kernel
theorem dX11_unwraps_88 : decode cX11_unwraps 88 = .ok (.istore 5, 2) := by decide +kernel
theorem dX11_unwraps_90 : decode cX11_unwraps 90 = .ok (.iload_n 2, 1) := by decide +kernel
theorem dX11_unwraps_91 : decode cX11_unwraps 91 = .ok (.iload 5, 2) := by decide +kernel
theorem dX11_unwraps_93 : decode cX11_unwraps 93 = .ok (.imul, 1) := by decide +kernel
theorem dX11_unwraps_94 : decode cX11_unwraps 94 = .ok (.aload_n 0, 1) := by decide +kernel
theorem dX11_unwraps_95 : decode cX11_unwraps 95 = .ok (.iload_n 1, 1) := by decide +kernel
theorem dX11_unwraps_96 : decode cX11_unwraps 96 = .ok (.iload 4, 2) := by decide +kernel
theorem dX11_unwraps_98 : decode cX11_unwraps 98 = .ok (.invokevirtual 90, 3) := by decide +kernel
theorem dX11_unwraps_101 : decode cX11_unwraps 101 = .ok (.irem, 1) := by decide +kernel
theorem dX11_unwraps_102 : decode cX11_unwraps 102 = .ok (.aload_n 0, 1) := by decide +kernel
theorem dX11_unwraps_103 : decode cX11_unwraps 103 = .ok (.iload_n 1, 1) := by decide +kernel
theorem dX11_unwraps_104 : decode cX11_unwraps 104 = .ok (.iload 4, 2) := by decide +kernel
theorem dX11_unwraps_106 : decode cX11_unwraps 106 = .ok (.invokevirtual 93, 3) := by decide +kernel
theorem dX11_unwraps_109 : decode cX11_unwraps 109 = .ok (.if_icmp .eq 9, 3) := by decide +kernel
theorem dX11_unwraps_112 : decode cX11_unwraps 112 = .ok (.iinc 5 1, 3) := by decide +kernel
theorem dX11_unwraps_115 : decode cX11_unwraps 115 = .ok (.goto (-25), 3) := by decide +kernel
theorem dX11_unwraps_118 : decode cX11_unwraps 118 = .ok (.aload_n 0, 1) := by decide +kernel
theorem dX11_unwraps_119 : decode cX11_unwraps 119 = .ok (.aload_n 0, 1) := by decide +kernel
theorem dX11_unwraps_120 : decode cX11_unwraps 120 = .ok (.iload_n 1, 1) := by decide +kernel
theorem dX11_unwraps_121 : decode cX11_unwraps 121 = .ok (.iload 4, 2) := by decide +kernel
theorem dX11_unwraps_123 : decode cX11_unwraps 123 = .ok (.invokevirtual 90, 3) := by decide +kernel
theorem dX11_unwraps_126 : decode cX11_unwraps 126 = .ok (.iload 5, 2) := by decide +kernel
theorem dX11_unwraps_128 : decode cX11_unwraps 128 = .ok (.invokevirtual 104, 3) := by decide +kernel
theorem dX11_unwraps_131 : decode cX11_unwraps 131 = .ok (.iload_n 3, 1) := by decide +kernel
theorem dX11_unwraps_132 : decode cX11_unwraps 132 = .ok (.iload_n 2, 1) := by decide +kernel
theorem dX11_unwraps_133 : decode cX11_unwraps 133 = .ok (.iload 5, 2) := by decide +kernel
theorem dX11_unwraps_135 : decode cX11_unwraps 135 = .ok (.imul, 1) := by decide +kernel
theorem dX11_unwraps_136 : decode cX11_unwraps 136 = .ok (.aload_n 0, 1) := by decide +kernel
theorem dX11_unwraps_137 : decode cX11_unwraps 137 = .ok (.iload_n 1, 1) := by decide +kernel
theorem dX11_unwraps_138 : decode cX11_unwraps 138 = .ok (.iload 4, 2) := by decide +kernel
theorem dX11_unwraps_140 : decode cX11_unwraps 140 = .ok (.invokevirtual 90, 3) := by decide +kernel
theorem dX11_unwraps_143 : decode cX11_unwraps 143 = .ok (.idiv, 1) := by decide +kernel
theorem dX11_unwraps_144 : decode cX11_unwraps 144 = .ok (.isub, 1) := by decide +kernel
theorem dX11_unwraps_145 : decode cX11_unwraps 145 = .ok (.istore_n 3, 1) := by decide +kernel
theorem dX11_unwraps_146 : decode cX11_unwraps 146 = .ok (.iinc 4 1, 3) := by decide +kernel
theorem dX11_unwraps_149 : decode cX11_unwraps 149 = .ok (.goto (-72), 3) := by decide +kernel
theorem dX11_unwraps_152 : decode cX11_unwraps 152 = .ok (.iload_n 3, 1) := by decide +kernel
theorem dX11_unwraps_153 : decode cX11_unwraps 153 = .ok (.iload_n 2, 1) := by decide +kernel
theorem dX11_unwraps_154 : decode cX11_unwraps 154 = .ok (.irem, 1) := by decide +kernel
theorem dX11_unwraps_155 : decode cX11_unwraps 155 = .ok (.ifCond .eq 6, 3) := by decide +kernel
theorem dX11_unwraps_158 : decode cX11_unwraps 158 = .ok (.bipush (-2), 2) := by decide +kernel
theorem dX11_unwraps_160 : decode cX11_unwraps 160 = .ok (.ireturn, 1) := by decide +kernel
theorem dX11_unwraps_161 : decode cX11_unwraps 161 = .ok (.aload_n 0, 1) := by decide +kernel
theorem dX11_unwraps_162 : decode cX11_unwraps 162 = .ok (.iload_n 3, 1) := by decide +kernel
theorem dX11_unwraps_163 : decode cX11_unwraps 163 = .ok (.iload_n 2, 1) := by decide +kernel
theorem dX11_unwraps_164 : decode cX11_unwraps 164 = .ok (.idiv, 1) := by decide +kernel
theorem dX11_unwraps_165 : decode cX11_unwraps 165 = .ok (.putfield 73, 3) := by decide +kernel
theorem dX11_unwraps_168 : decode cX11_unwraps 168 = .ok (.aload_n 0, 1) := by decide +kernel
theorem dX11_unwraps_169 : decode cX11_unwraps 169 = .ok (.iload_n 1, 1) := by decide +kernel
theorem dX11_unwraps_170 : decode cX11_unwraps 170 = .ok (.iconst 1, 1) := by decide +kernel
theorem dX11_unwraps_171 : decode cX11_unwraps 171 = .ok (.invokevirtual 157, 3) := by decide +kernel
theorem dX11_unwraps_174 : decode cX11_unwraps 174 = .ok (.ireturn, 1) := by decide +kernel
theorem dX11_unrolls_0 : decode cX11_unrolls 0 = .ok (.iload_n 1, 1) := by decide +kernel
theorem dX11_unrolls_1 : decode cX11_unrolls 1 = .ok (.invokestatic 147, 3) := by decide +kernel
theorem dX11_unrolls_4 : decode cX11_unrolls 4 = .ok (.ifCond .eq 17, 3) := by decide +kernel
theorem dX11_unrolls_7 : decode cX11_unrolls 7 = .ok (.iload_n 2, 1) := by decide +kernel
theorem dX11_unrolls_8 : decode cX11_unrolls 8 = .ok (.i2l, 1) := by decide +kernel
theorem dX11_unrolls_9 : decode cX11_unrolls 9 = .ok (.ldc2_w 174, 3) := by decide +kernel
theorem dX11_unrolls_12 : decode cX11_unrolls 12 = .ok (.ldc2_w 181, 3) := by decide +kernel
theorem dX11_unrolls_15 : decode cX11_unrolls 15 = .ok (.invokestatic 63, 3) := by decide +kernel
theorem dX11_unrolls_18 : decode cX11_unrolls 18 = .ok (.ifCond .ne 5, 3) := by decide +kernel
theorem dX11_unrolls_21 : decode cX11_unrolls 21 = .ok (.iconst (-1), 1) := by decide +kernel
theorem dX11_unrolls_22 : decode cX11_unrolls 22 = .ok (.ireturn, 1) := by decide +kernel
theorem dX11_unrolls_23 : decode cX11_unrolls 23 = .ok (.aload_n 0, 1) := by decide +kernel
theorem dX11_unrolls_24 : decode cX11_unrolls 24 = .ok (.getfield 7, 3) := by decide +kernel
theorem dX11_unrolls_27 : decode cX11_unrolls 27 = .ok (.bipush 16, 2) := by decide +kernel
theorem dX11_unrolls_29 : decode cX11_unrolls 29 = .ok (.iload_n 1, 1) := by decide +kernel
theorem dX11_unrolls_30 : decode cX11_unrolls 30 = .ok (.imul, 1) := by decide +kernel
theorem dX11_unrolls_31 : decode cX11_unrolls 31 = .ok (.iconst 0, 1) := by decide +kernel
theorem dX11_unrolls_32 : decode cX11_unrolls 32 = .ok (.iadd, 1) := by decide +kernel
theorem dX11_unrolls_33 : decode cX11_unrolls 33 = .ok (.iaload, 1) := by decide +kernel
theorem dX11_unrolls_34 : decode cX11_unrolls 34 = .ok (.istore_n 3, 1) := by decide +kernel
theorem dX11_unrolls_35 : decode cX11_unrolls 35 = .ok (.aload_n 0, 1) := by decide +kernel
theorem dX11_unrolls_36 : decode cX11_unrolls 36 = .ok (.getfield 7, 3) := by decide +kernel
theorem dX11_unrolls_39 : decode cX11_unrolls 39 = .ok (.bipush 16, 2) := by decide +kernel
theorem dX11_unrolls_41 : decode cX11_unrolls 41 = .ok (.iload_n 1, 1) := by decide +kernel
theorem dX11_unrolls_42 : decode cX11_unrolls 42 = .ok (.imul, 1) := by decide +kernel
theorem dX11_unrolls_43 : decode cX11_unrolls 43 = .ok (.iconst 1, 1) := by decide +kernel
theorem dX11_unrolls_44 : decode cX11_unrolls 44 = .ok (.iadd, 1) := by decide +kernel
theorem dX11_unrolls_45 : decode cX11_unrolls 45 = .ok (.iaload, 1) := by decide +kernel
theorem dX11_unrolls_46 : decode cX11_unrolls 46 = .ok (.istore 4, 2) := by decide +kernel
theorem dX11_unrolls_48 : decode cX11_unrolls 48 = .ok (.iload 4, 2) := by decide +kernel
theorem dX11_unrolls_50 : decode cX11_unrolls 50 = .ok (.iload_n 3, 1) := by decide +kernel
theorem dX11_unrolls_51 : decode cX11_unrolls 51 = .ok (.if_icmp .gt 6, 3) := by decide +kernel
theorem dX11_unrolls_54 : decode cX11_unrolls 54 = .ok (.bipush (-2), 2) := by decide +kernel
theorem dX11_unrolls_56 : decode cX11_unrolls 56 = .ok (.ireturn, 1) := by decide +kernel
theorem dX11_unrolls_57 : decode cX11_unrolls 57 = .ok (.aload_n 0, 1) := by decide +kernel
theorem dX11_unrolls_58 : decode cX11_unrolls 58 = .ok (.iload_n 3, 1) := by decide +kernel
theorem dX11_unrolls_59 : decode cX11_unrolls 59 = .ok (.iload_n 2, 1) := by decide +kernel
theorem dX11_unrolls_60 : decode cX11_unrolls 60 = .ok (.iload 4, 2) := by decide +kernel
theorem dX11_unrolls_62 : decode cX11_unrolls 62 = .ok (.iconst 1, 1) := by decide +kernel
theorem dX11_unrolls_63 : decode cX11_unrolls 63 = .ok (.isub, 1) := by decide +kernel
theorem dX11_unrolls_64 : decode cX11_unrolls 64 = .ok (.iload_n 3, 1) := by decide +kernel
theorem dX11_unrolls_65 : decode cX11_unrolls 65 = .ok (.isub, 1) := by decide +kernel
theorem dX11_unrolls_66 : decode cX11_unrolls 66 = .ok (.imul, 1) := by decide +kernel
theorem dX11_unrolls_67 : decode cX11_unrolls 67 = .ok (.iconst 1, 1) := by decide +kernel
theorem dX11_unrolls_68 : decode cX11_unrolls 68 = .ok (.iadd, 1) := by decide +kernel
theorem dX11_unrolls_69 : decode cX11_unrolls 69 = .ok (.iload_n 3, 1) := by decide +kernel
theorem dX11_unrolls_70 : decode cX11_unrolls 70 = .ok (.iadd, 1) := by decide +kernel
theorem dX11_unrolls_71 : decode cX11_unrolls 71 = .ok (.iload_n 2, 1) := by decide +kernel
theorem dX11_unrolls_72 : decode cX11_unrolls 72 = .ok (.aload_n 0, 1) := by decide +kernel
theorem dX11_unrolls_73 : decode cX11_unrolls 73 = .ok (.getfield 7, 3) := by decide +kernel
theorem dX11_unrolls_76 : decode cX11_unrolls 76 = .ok (.bipush 16, 2) := by decide +kernel
theorem dX11_unrolls_78 : decode cX11_unrolls 78 = .ok (.iload_n 1, 1) := by decide +kernel
theorem dX11_unrolls_79 : decode cX11_unrolls 79 = .ok (.imul, 1) := by decide +kernel
theorem dX11_unrolls_80 : decode cX11_unrolls 80 = .ok (.iconst 2, 1) := by decide +kernel
theorem dX11_unrolls_81 : decode cX11_unrolls 81 = .ok (.iadd, 1) := by decide +kernel
theorem dX11_unrolls_82 : decode cX11_unrolls 82 = .ok (.iaload, 1) := by decide +kernel
theorem dX11_unrolls_83 : decode cX11_unrolls 83 = .ok (.imul, 1) := by decide +kernel
theorem dX11_unrolls_84 : decode cX11_unrolls 84 = .ok (.invokevirtual 96, 3) := by decide +kernel
theorem dX11_unrolls_87 : decode cX11_unrolls 87 = .ok (.iconst 0, 1) := by decide +kernel
theorem dX11_unrolls_88 : decode cX11_unrolls 88 = .ok (.istore 5, 2) := by decide +kernel
theorem dX11_unrolls_90 : decode cX11_unrolls 90 = .ok (.iload 5, 2) := by decide +kernel
theorem dX11_unrolls_92 : decode cX11_unrolls 92 = .ok (.iload_n 2, 1) := by decide +kernel
theorem dX11_unrolls_93 : decode cX11_unrolls 93 = .ok (.aload_n 0, 1) := by decide +kernel
theorem dX11_unrolls_94 : decode cX11_unrolls 94 = .ok (.iload_n 1, 1) := by decide +kernel
theorem dX11_unrolls_95 : decode cX11_unrolls 95 = .ok (.invokevirtual 100, 3) := by decide +kernel
theorem dX11_unrolls_98 : decode cX11_unrolls 98 = .ok (.imul, 1) := by decide +kernel
theorem dX11_unrolls_99 : decode cX11_unrolls 99 = .ok (.if_icmp .ge 31, 3) := by decide +kernel
theorem dX11_unrolls_102 : decode cX11_unrolls 102 = .ok (.aload_n 0, 1) := by decide +kernel
theorem dX11_unrolls_103 : decode cX11_unrolls 103 = .ok (.aload_n 0, 1) := by decide +kernel
theorem dX11_unrolls_104 : decode cX11_unrolls 104 = .ok (.iload_n 1, 1) := by decide +kernel
theorem dX11_unrolls_105 : decode cX11_unrolls 105 = .ok (.iload 5, 2) := by decide +kernel
theorem dX11_unrolls_107 : decode cX11_unrolls 107 = .ok (.iload_n 2, 1) := by decide +kernel
theorem dX11_unrolls_108 : decode cX11_unrolls 108 = .ok (.idiv, 1) := by decide +kernel
theorem dX11_unrolls_109 : decode cX11_unrolls 109 = .ok (.invokevirtual 90, 3) := by decide +kernel
theorem dX11_unrolls_112 : decode cX11_unrolls 112 = .ok (.aload_n 0, 1) := by decide +kernel
theorem dX11_unrolls_113 : decode cX11_unrolls 113 = .ok (.iload_n 1, 1) := by decide +kernel
theorem dX11_unrolls_114 : decode cX11_unrolls 114 = .ok (.iload 5, 2) := by decide +kernel
theorem dX11_unrolls_116 : decode cX11_unrolls 116 = .ok (.iload_n 2, 1) := by decide +kernel
theorem dX11_unrolls_117 : decode cX11_unrolls 117 = .ok (.idiv, 1) := by decide +kernel
theorem dX11_unrolls_118 : decode cX11_unrolls 118 = .ok (.invokevirtual 93, 3) := by decide +kernel
theorem dX11_unrolls_121 : decode cX11_unrolls 121 = .ok (.invokevirtual 104, 3) := by decide +kernel
theorem dX11_unrolls_124 : decode cX11_unrolls 124 = .ok (.iinc 5 1, 3) := by decide +kernel
theorem dX11_unrolls_127 : decode cX11_unrolls 127 = .ok (.goto (-37), 3) := by decide +kernel
theorem dX11_unrolls_130 : decode cX11_unrolls 130 = .ok (.aload_n 0, 1) := by decide +kernel
theorem dX11_unrolls_131 : decode cX11_unrolls 131 = .ok (.iload_n 1, 1) := by decide +kernel
theorem dX11_unrolls_132 : decode cX11_unrolls 132 = .ok (.aload_n 0, 1) := by decide +kernel
theorem dX11_unrolls_133 : decode cX11_unrolls 133 = .ok (.getfield 76, 3) := by decide +kernel
theorem dX11_unrolls_136 : decode cX11_unrolls 136 = .ok (.invokevirtual 157, 3) := by decide +kernel
theorem dX11_unrolls_139 : decode cX11_unrolls 139 = .ok (.ireturn, 1) := by decide +kernel
theorem dX11_undo_0 : decode cX11_undo 0 = .ok (.aload_n 0, 1) := by decide +kernel
theorem dX11_undo_1 : decode cX11_undo 1 = .ok (.getfield 57, 3) := by decide +kernel
theorem dX11_undo_4 : decode cX11_undo 4 = .ok (.ifCond .ne 6, 3) := by decide +kernel
theorem dX11_undo_7 : decode cX11_undo 7 = .ok (.bipush (-2), 2) := by decide +kernel
theorem dX11_undo_9 : decode cX11_undo 9 = .ok (.ireturn, 1) := by decide +kernel
theorem dX11_undo_10 : decode cX11_undo 10 = .ok (.aload_n 0, 1) := by decide +kernel
theorem dX11_undo_11 : decode cX11_undo 11 = .ok (.dup, 1) := by decide +kernel
theorem dX11_undo_12 : decode cX11_undo 12 = .ok (.getfield 57, 3) := by decide +kernel
theorem dX11_undo_15 : decode cX11_undo 15 = .ok (.iconst 1, 1) := by decide +kernel
theorem dX11_undo_16 : decode cX11_undo 16 = .ok (.isub, 1) := by decide +kernel
theorem dX11_undo_17 : decode cX11_undo 17 = .ok (.putfield 57, 3) := by decide +kernel
theorem dX11_undo_20 : decode cX11_undo 20 = .ok (.iconst 0, 1) := by decide +kernel
theorem dX11_undo_21 : decode cX11_undo 21 = .ok (.istore_n 1, 1) := by decide +kernel
theorem dX11_undo_22 : decode cX11_undo 22 = .ok (.iload_n 1, 1) := by decide +kernel
theorem dX11_undo_23 : decode cX11_undo 23 = .ok (.bipush 96, 2) := by decide +kernel
theorem dX11_undo_25 : decode cX11_undo 25 = .ok (.if_icmp .ge 29, 3) := by decide +kernel
theorem dX11_undo_28 : decode cX11_undo 28 = .ok (.aload_n 0, 1) := by decide +kernel
theorem dX11_undo_29 : decode cX11_undo 29 = .ok (.getfield 7, 3) := by decide +kernel
theorem dX11_undo_32 : decode cX11_undo 32 = .ok (.iload_n 1, 1) := by decide +kernel
theorem dX11_undo_33 : decode cX11_undo 33 = .ok (.aload_n 0, 1) := by decide +kernel
theorem dX11_undo_34 : decode cX11_undo 34 = .ok (.getfield 13, 3) := by decide +kernel
theorem dX11_undo_37 : decode cX11_undo 37 = .ok (.bipush 96, 2) := by decide +kernel
theorem dX11_undo_39 : decode cX11_undo 39 = .ok (.aload_n 0, 1) := by decide +kernel
theorem dX11_undo_40 : decode cX11_undo 40 = .ok (.getfield 57, 3) := by decide +kernel
theorem dX11_undo_43 : decode cX11_undo 43 = .ok (.imul, 1) := by decide +kernel
theorem dX11_undo_44 : decode cX11_undo 44 = .ok (.iload_n 1, 1) := by decide +kernel
theorem dX11_undo_45 : decode cX11_undo 45 = .ok (.iadd, 1) := by decide +kernel
theorem dX11_undo_46 : decode cX11_undo 46 = .ok (.iaload, 1) := by decide +kernel
theorem dX11_undo_47 : decode cX11_undo 47 = .ok (.iastore, 1) := by decide +kernel
theorem dX11_undo_48 : decode cX11_undo 48 = .ok (.iinc 1 1, 3) := by decide +kernel
theorem dX11_undo_51 : decode cX11_undo 51 = .ok (.goto (-29), 3) := by decide +kernel
theorem dX11_undo_54 : decode cX11_undo 54 = .ok (.aload_n 0, 1) := by decide +kernel
theorem dX11_undo_55 : decode cX11_undo 55 = .ok (.getfield 57, 3) := by decide +kernel
theorem dX11_undo_58 : decode cX11_undo 58 = .ok (.ireturn, 1) := by decide +kernel
theorem dX11_least_0 : decode cX11_least 0 = .ok (.aload_n 0, 1) := by decide +kernel
theorem dX11_least_1 : decode cX11_least 1 = .ok (.getfield 183, 3) := by decide +kernel
theorem dX11_least_4 : decode cX11_least 4 = .ok (.aload_n 0, 1) := by decide +kernel
theorem dX11_least_5 : decode cX11_least 5 = .ok (.getfield 187, 3) := by decide +kernel
theorem dX11_least_8 : decode cX11_least 8 = .ok (.invokestatic 143, 3) := by decide +kernel
theorem dX11_least_11 : decode cX11_least 11 = .ok (.lstore_n 1, 1) := by decide +kernel
theorem dX11_least_12 : decode cX11_least 12 = .ok (.aload_n 0, 1) := by decide +kernel
theorem dX11_least_13 : decode cX11_least 13 = .ok (.dup, 1) := by decide +kernel
theorem dX11_least_14 : decode cX11_least 14 = .ok (.getfield 183, 3) := by decide +kernel
theorem dX11_least_17 : decode cX11_least 17 = .ok (.lload_n 1, 1) := by decide +kernel
theorem dX11_least_18 : decode cX11_least 18 = .ok (.ldiv, 1) := by decide +kernel
theorem dX11_least_19 : decode cX11_least 19 = .ok (.putfield 183, 3) := by decide +kernel
theorem dX11_least_22 : decode cX11_least 22 = .ok (.aload_n 0, 1) := by decide +kernel
theorem dX11_least_23 : decode cX11_least 23 = .ok (.dup, 1) := by decide +kernel
theorem dX11_least_24 : decode cX11_least 24 = .ok (.getfield 187, 3) := by decide +kernel
theorem dX11_least_27 : decode cX11_least 27 = .ok (.lload_n 1, 1) := by decide +kernel
theorem dX11_least_28 : decode cX11_least 28 = .ok (.ldiv, 1) := by decide +kernel
theorem dX11_least_29 : decode cX11_least 29 = .ok (.putfield 187, 3) := by decide +kernel
theorem dX11_least_32 : decode cX11_least 32 = .ok (.return_, 1) := by decide +kernel
theorem dX11_findEuler_0 : decode cX11_findEuler 0 = .ok (.aload_n 0, 1) := by decide +kernel
theorem dX11_findEuler_1 : decode cX11_findEuler 1 = .ok (.aload_n 0, 1) := by decide +kernel
theorem dX11_findEuler_2 : decode cX11_findEuler 2 = .ok (.getfield 7, 3) := by decide +kernel
theorem dX11_findEuler_5 : decode cX11_findEuler 5 = .ok (.bipush 16, 2) := by decide +kernel
theorem dX11_findEuler_7 : decode cX11_findEuler 7 = .ok (.iload_n 1, 1) := by decide +kernel
theorem dX11_findEuler_8 : decode cX11_findEuler 8 = .ok (.imul, 1) := by decide +kernel
theorem dX11_findEuler_9 : decode cX11_findEuler 9 = .ok (.iconst 2, 1) := by decide +kernel
theorem dX11_findEuler_10 : decode cX11_findEuler 10 = .ok (.iadd, 1) := by decide +kernel
theorem dX11_findEuler_11 : decode cX11_findEuler 11 = .ok (.iaload, 1) := by decide +kernel
theorem dX11_findEuler_12 : decode cX11_findEuler 12 = .ok (.ineg, 1) := by decide +kernel
theorem dX11_findEuler_13 : decode cX11_findEuler 13 = .ok (.i2l, 1) := by decide +kernel
theorem dX11_findEuler_14 : decode cX11_findEuler 14 = .ok (.putfield 183, 3) := by decide +kernel
theorem dX11_findEuler_17 : decode cX11_findEuler 17 = .ok (.aload_n 0, 1) := by decide +kernel
theorem dX11_findEuler_18 : decode cX11_findEuler 18 = .ok (.lconst 1, 1) := by decide +kernel
theorem dX11_findEuler_19 : decode cX11_findEuler 19 = .ok (.putfield 187, 3) := by decide +kernel
theorem dX11_findEuler_22 : decode cX11_findEuler 22 = .ok (.iconst 0, 1) := by decide +kernel
theorem dX11_findEuler_23 : decode cX11_findEuler 23 = .ok (.istore_n 2, 1) := by decide +kernel
theorem dX11_findEuler_24 : decode cX11_findEuler 24 = .ok (.iload_n 2, 1) := by decide +kernel
theorem dX11_findEuler_25 : decode cX11_findEuler 25 = .ok (.aload_n 0, 1) := by decide +kernel
theorem dX11_findEuler_26 : decode cX11_findEuler 26 = .ok (.iload_n 1, 1) := by decide +kernel
theorem dX11_findEuler_27 : decode cX11_findEuler 27 = .ok (.invokevirtual 100, 3) := by decide +kernel
theorem dX11_findEuler_30 : decode cX11_findEuler 30 = .ok (.if_icmp .ge 58, 3) := by decide +kernel
theorem dX11_findEuler_33 : decode cX11_findEuler 33 = .ok (.aload_n 0, 1) := by decide +kernel
theorem dX11_findEuler_34 : decode cX11_findEuler 34 = .ok (.aload_n 0, 1) := by decide +kernel
theorem dX11_findEuler_35 : decode cX11_findEuler 35 = .ok (.getfield 183, 3) := by decide +kernel
theorem dX11_findEuler_38 : decode cX11_findEuler 38 = .ok (.aload_n 0, 1) := by decide +kernel
theorem dX11_findEuler_39 : decode cX11_findEuler 39 = .ok (.iload_n 1, 1) := by decide +kernel
theorem dX11_findEuler_40 : decode cX11_findEuler 40 = .ok (.iload_n 2, 1) := by decide +kernel
theorem dX11_findEuler_41 : decode cX11_findEuler 41 = .ok (.invokevirtual 90, 3) := by decide +kernel
theorem dX11_findEuler_44 : decode cX11_findEuler 44 = .ok (.i2l, 1) := by decide +kernel
theorem dX11_findEuler_45 : decode cX11_findEuler 45 = .ok (.lmul, 1) := by decide +kernel
theorem dX11_findEuler_46 : decode cX11_findEuler 46 = .ok (.aload_n 0, 1) := by decide +kernel
theorem dX11_findEuler_47 : decode cX11_findEuler 47 = .ok (.getfield 187, 3) := by decide +kernel
theorem dX11_findEuler_50 : decode cX11_findEuler 50 = .ok (.aload_n 0, 1) := by decide +kernel
theorem dX11_findEuler_51 : decode cX11_findEuler 51 = .ok (.iload_n 1, 1) := by decide +kernel
theorem dX11_findEuler_52 : decode cX11_findEuler 52 = .ok (.iload_n 2, 1) := by decide +kernel
theorem dX11_findEuler_53 : decode cX11_findEuler 53 = .ok (.invokevirtual 93, 3) := by decide +kernel
theorem dX11_findEuler_56 : decode cX11_findEuler 56 = .ok (.i2l, 1) := by decide +kernel
theorem dX11_findEuler_57 : decode cX11_findEuler 57 = .ok (.lmul, 1) := by decide +kernel
theorem dX11_findEuler_58 : decode cX11_findEuler 58 = .ok (.lsub, 1) := by decide +kernel
theorem dX11_findEuler_59 : decode cX11_findEuler 59 = .ok (.putfield 183, 3) := by decide +kernel
theorem dX11_findEuler_62 : decode cX11_findEuler 62 = .ok (.aload_n 0, 1) := by decide +kernel
theorem dX11_findEuler_63 : decode cX11_findEuler 63 = .ok (.dup, 1) := by decide +kernel
theorem dX11_findEuler_64 : decode cX11_findEuler 64 = .ok (.getfield 187, 3) := by decide +kernel
theorem dX11_findEuler_67 : decode cX11_findEuler 67 = .ok (.aload_n 0, 1) := by decide +kernel
theorem dX11_findEuler_68 : decode cX11_findEuler 68 = .ok (.iload_n 1, 1) := by decide +kernel
theorem dX11_findEuler_69 : decode cX11_findEuler 69 = .ok (.iload_n 2, 1) := by decide +kernel
theorem dX11_findEuler_70 : decode cX11_findEuler 70 = .ok (.invokevirtual 90, 3) := by decide +kernel
theorem dX11_findEuler_73 : decode cX11_findEuler 73 = .ok (.i2l, 1) := by decide +kernel
theorem dX11_findEuler_74 : decode cX11_findEuler 74 = .ok (.lmul, 1) := by decide +kernel
theorem dX11_findEuler_75 : decode cX11_findEuler 75 = .ok (.putfield 187, 3) := by decide +kernel
theorem dX11_findEuler_78 : decode cX11_findEuler 78 = .ok (.aload_n 0, 1) := by decide +kernel
theorem dX11_findEuler_79 : decode cX11_findEuler 79 = .ok (.invokevirtual 190, 3) := by decide +kernel
theorem dX11_findEuler_82 : decode cX11_findEuler 82 = .ok (.iinc 2 1, 3) := by decide +kernel
theorem dX11_findEuler_85 : decode cX11_findEuler 85 = .ok (.goto (-61), 3) := by decide +kernel
theorem dX11_findEuler_88 : decode cX11_findEuler 88 = .ok (.return_, 1) := by decide +kernel
theorem dX11_findOver_0 : decode cX11_findOver 0 = .ok (.aload_n 0, 1) := by decide +kernel
theorem dX11_findOver_1 : decode cX11_findOver 1 = .ok (.getfield 7, 3) := by decide +kernel
theorem dX11_findOver_4 : decode cX11_findOver 4 = .ok (.bipush 16, 2) := by decide +kernel
theorem dX11_findOver_6 : decode cX11_findOver 6 = .ok (.iload_n 1, 1) := by decide +kernel
theorem dX11_findOver_7 : decode cX11_findOver 7 = .ok (.imul, 1) := by decide +kernel
theorem dX11_findOver_8 : decode cX11_findOver 8 = .ok (.iconst 1, 1) := by decide +kernel
theorem dX11_findOver_9 : decode cX11_findOver 9 = .ok (.iadd, 1) := by decide +kernel
theorem dX11_findOver_10 : decode cX11_findOver 10 = .ok (.iaload, 1) := by decide +kernel
theorem dX11_findOver_11 : decode cX11_findOver 11 = .ok (.istore_n 2, 1) := by decide +kernel
theorem dX11_findOver_12 : decode cX11_findOver 12 = .ok (.aload_n 0, 1) := by decide +kernel
theorem dX11_findOver_13 : decode cX11_findOver 13 = .ok (.aload_n 0, 1) := by decide +kernel
theorem dX11_findOver_14 : decode cX11_findOver 14 = .ok (.getfield 7, 3) := by decide +kernel
theorem dX11_findOver_17 : decode cX11_findOver 17 = .ok (.bipush 16, 2) := by decide +kernel
theorem dX11_findOver_19 : decode cX11_findOver 19 = .ok (.iload_n 1, 1) := by decide +kernel
theorem dX11_findOver_20 : decode cX11_findOver 20 = .ok (.imul, 1) := by decide +kernel
theorem dX11_findOver_21 : decode cX11_findOver 21 = .ok (.iconst 0, 1) := by decide +kernel
theorem dX11_findOver_22 : decode cX11_findOver 22 = .ok (.iadd, 1) := by decide +kernel
theorem dX11_findOver_23 : decode cX11_findOver 23 = .ok (.iaload, 1) := by decide +kernel
theorem dX11_findOver_24 : decode cX11_findOver 24 = .ok (.ifCond .ne 12, 3) := by decide +kernel
theorem dX11_findOver_27 : decode cX11_findOver 27 = .ok (.iconst 2, 1) := by decide +kernel
theorem dX11_findOver_28 : decode cX11_findOver 28 = .ok (.iconst 2, 1) := by decide +kernel
theorem dX11_findOver_29 : decode cX11_findOver 29 = .ok (.iload_n 2, 1) := by decide +kernel
theorem dX11_findOver_30 : decode cX11_findOver 30 = .ok (.imul, 1) := by decide +kernel
theorem dX11_findOver_31 : decode cX11_findOver 31 = .ok (.isub, 1) := by decide +kernel
theorem dX11_findOver_32 : decode cX11_findOver 32 = .ok (.i2l, 1) := by decide +kernel
theorem dX11_findOver_33 : decode cX11_findOver 33 = .ok (.goto 7, 3) := by decide +kernel
theorem dX11_findOver_36 : decode cX11_findOver 36 = .ok (.iconst 2, 1) := by decide +kernel
theorem dX11_findOver_37 : decode cX11_findOver 37 = .ok (.iload_n 2, 1) := by decide +kernel
theorem dX11_findOver_38 : decode cX11_findOver 38 = .ok (.isub, 1) := by decide +kernel
theorem dX11_findOver_39 : decode cX11_findOver 39 = .ok (.i2l, 1) := by decide +kernel
theorem dX11_findOver_40 : decode cX11_findOver 40 = .ok (.putfield 183, 3) := by decide +kernel
theorem dX11_findOver_43 : decode cX11_findOver 43 = .ok (.aload_n 0, 1) := by decide +kernel
theorem dX11_findOver_44 : decode cX11_findOver 44 = .ok (.lconst 1, 1) := by decide +kernel
theorem dX11_findOver_45 : decode cX11_findOver 45 = .ok (.putfield 187, 3) := by decide +kernel
theorem dX11_findOver_48 : decode cX11_findOver 48 = .ok (.iconst 0, 1) := by decide +kernel
theorem dX11_findOver_49 : decode cX11_findOver 49 = .ok (.istore_n 3, 1) := by decide +kernel
theorem dX11_findOver_50 : decode cX11_findOver 50 = .ok (.iload_n 3, 1) := by decide +kernel
theorem dX11_findOver_51 : decode cX11_findOver 51 = .ok (.aload_n 0, 1) := by decide +kernel
theorem dX11_findOver_52 : decode cX11_findOver 52 = .ok (.iload_n 1, 1) := by decide +kernel
theorem dX11_findOver_53 : decode cX11_findOver 53 = .ok (.invokevirtual 100, 3) := by decide +kernel
theorem dX11_findOver_56 : decode cX11_findOver 56 = .ok (.if_icmp .ge 60, 3) := by decide +kernel
theorem dX11_findOver_59 : decode cX11_findOver 59 = .ok (.aload_n 0, 1) := by decide +kernel
theorem dX11_findOver_60 : decode cX11_findOver 60 = .ok (.aload_n 0, 1) := by decide +kernel
theorem dX11_findOver_61 : decode cX11_findOver 61 = .ok (.getfield 183, 3) := by decide +kernel
theorem dX11_findOver_64 : decode cX11_findOver 64 = .ok (.aload_n 0, 1) := by decide +kernel
theorem dX11_findOver_65 : decode cX11_findOver 65 = .ok (.iload_n 1, 1) := by decide +kernel
theorem dX11_findOver_66 : decode cX11_findOver 66 = .ok (.iload_n 3, 1) := by decide +kernel
theorem dX11_findOver_67 : decode cX11_findOver 67 = .ok (.invokevirtual 90, 3) := by decide +kernel
theorem dX11_findOver_70 : decode cX11_findOver 70 = .ok (.i2l, 1) := by decide +kernel
theorem dX11_findOver_71 : decode cX11_findOver 71 = .ok (.lmul, 1) := by decide +kernel
theorem dX11_findOver_72 : decode cX11_findOver 72 = .ok (.aload_n 0, 1) := by decide +kernel
theorem dX11_findOver_73 : decode cX11_findOver 73 = .ok (.getfield 187, 3) := by decide +kernel
theorem dX11_findOver_76 : decode cX11_findOver 76 = .ok (.aload_n 0, 1) := by decide +kernel
theorem dX11_findOver_77 : decode cX11_findOver 77 = .ok (.iload_n 1, 1) := by decide +kernel
theorem dX11_findOver_78 : decode cX11_findOver 78 = .ok (.iload_n 3, 1) := by decide +kernel
theorem dX11_findOver_79 : decode cX11_findOver 79 = .ok (.invokevirtual 90, 3) := by decide +kernel
theorem dX11_findOver_82 : decode cX11_findOver 82 = .ok (.iconst 1, 1) := by decide +kernel
theorem dX11_findOver_83 : decode cX11_findOver 83 = .ok (.isub, 1) := by decide +kernel
theorem dX11_findOver_84 : decode cX11_findOver 84 = .ok (.i2l, 1) := by decide +kernel
theorem dX11_findOver_85 : decode cX11_findOver 85 = .ok (.lmul, 1) := by decide +kernel
theorem dX11_findOver_86 : decode cX11_findOver 86 = .ok (.lsub, 1) := by decide +kernel
theorem dX11_findOver_87 : decode cX11_findOver 87 = .ok (.putfield 183, 3) := by decide +kernel
theorem dX11_findOver_90 : decode cX11_findOver 90 = .ok (.aload_n 0, 1) := by decide +kernel
theorem dX11_findOver_91 : decode cX11_findOver 91 = .ok (.dup, 1) := by decide +kernel
theorem dX11_findOver_92 : decode cX11_findOver 92 = .ok (.getfield 187, 3) := by decide +kernel
theorem dX11_findOver_95 : decode cX11_findOver 95 = .ok (.aload_n 0, 1) := by decide +kernel
theorem dX11_findOver_96 : decode cX11_findOver 96 = .ok (.iload_n 1, 1) := by decide +kernel
theorem dX11_findOver_97 : decode cX11_findOver 97 = .ok (.iload_n 3, 1) := by decide +kernel
theorem dX11_findOver_98 : decode cX11_findOver 98 = .ok (.invokevirtual 90, 3) := by decide +kernel
theorem dX11_findOver_101 : decode cX11_findOver 101 = .ok (.i2l, 1) := by decide +kernel
theorem dX11_findOver_102 : decode cX11_findOver 102 = .ok (.lmul, 1) := by decide +kernel
theorem dX11_findOver_103 : decode cX11_findOver 103 = .ok (.putfield 187, 3) := by decide +kernel
theorem dX11_findOver_106 : decode cX11_findOver 106 = .ok (.aload_n 0, 1) := by decide +kernel
theorem dX11_findOver_107 : decode cX11_findOver 107 = .ok (.invokevirtual 190, 3) := by decide +kernel
theorem dX11_findOver_110 : decode cX11_findOver 110 = .ok (.iinc 3 1, 3) := by decide +kernel
theorem dX11_findOver_113 : decode cX11_findOver 113 = .ok (.goto (-63), 3) := by decide +kernel
theorem dX11_findOver_116 : decode cX11_findOver 116 = .ok (.return_, 1) := by decide +kernel
theorem dX11_euler_0 : decode cX11_euler 0 = .ok (.iload_n 1, 1) := by decide +kernel
theorem dX11_euler_1 : decode cX11_euler 1 = .ok (.invokestatic 147, 3) := by decide +kernel
theorem dX11_euler_4 : decode cX11_euler 4 = .ok (.ifCond .eq 13, 3) := by decide +kernel
theorem dX11_euler_7 : decode cX11_euler 7 = .ok (.iload_n 2, 1) := by decide +kernel
theorem dX11_euler_8 : decode cX11_euler 8 = .ok (.i2l, 1) := by decide +kernel
theorem dX11_euler_9 : decode cX11_euler 9 = .ok (.lconst 0, 1) := by decide +kernel
theorem dX11_euler_10 : decode cX11_euler 10 = .ok (.lconst 1, 1) := by decide +kernel
theorem dX11_euler_11 : decode cX11_euler 11 = .ok (.invokestatic 63, 3) := by decide +kernel
theorem dX11_euler_14 : decode cX11_euler 14 = .ok (.ifCond .ne 7, 3) := by decide +kernel
theorem dX11_euler_17 : decode cX11_euler 17 = .ok (.ldc2_w 193, 3) := by decide +kernel
theorem dX11_euler_20 : decode cX11_euler 20 = .ok (.lreturn, 1) := by decide +kernel
theorem dX11_euler_21 : decode cX11_euler 21 = .ok (.aload_n 0, 1) := by decide +kernel
theorem dX11_euler_22 : decode cX11_euler 22 = .ok (.iload_n 1, 1) := by decide +kernel
theorem dX11_euler_23 : decode cX11_euler 23 = .ok (.invokevirtual 195, 3) := by decide +kernel
theorem dX11_euler_26 : decode cX11_euler 26 = .ok (.iload_n 2, 1) := by decide +kernel
theorem dX11_euler_27 : decode cX11_euler 27 = .ok (.ifCond .ne 10, 3) := by decide +kernel
theorem dX11_euler_30 : decode cX11_euler 30 = .ok (.aload_n 0, 1) := by decide +kernel
theorem dX11_euler_31 : decode cX11_euler 31 = .ok (.getfield 183, 3) := by decide +kernel
theorem dX11_euler_34 : decode cX11_euler 34 = .ok (.goto 7, 3) := by decide +kernel
theorem dX11_euler_37 : decode cX11_euler 37 = .ok (.aload_n 0, 1) := by decide +kernel
theorem dX11_euler_38 : decode cX11_euler 38 = .ok (.getfield 187, 3) := by decide +kernel
theorem dX11_euler_41 : decode cX11_euler 41 = .ok (.lreturn, 1) := by decide +kernel
theorem dX11_over_0 : decode cX11_over 0 = .ok (.iload_n 1, 1) := by decide +kernel
theorem dX11_over_1 : decode cX11_over 1 = .ok (.invokestatic 147, 3) := by decide +kernel
theorem dX11_over_4 : decode cX11_over 4 = .ok (.ifCond .eq 13, 3) := by decide +kernel
theorem dX11_over_7 : decode cX11_over 7 = .ok (.iload_n 2, 1) := by decide +kernel
theorem dX11_over_8 : decode cX11_over 8 = .ok (.i2l, 1) := by decide +kernel
theorem dX11_over_9 : decode cX11_over 9 = .ok (.lconst 0, 1) := by decide +kernel
theorem dX11_over_10 : decode cX11_over 10 = .ok (.lconst 1, 1) := by decide +kernel
theorem dX11_over_11 : decode cX11_over 11 = .ok (.invokestatic 63, 3) := by decide +kernel
theorem dX11_over_14 : decode cX11_over 14 = .ok (.ifCond .ne 7, 3) := by decide +kernel
theorem dX11_over_17 : decode cX11_over 17 = .ok (.ldc2_w 193, 3) := by decide +kernel
theorem dX11_over_20 : decode cX11_over 20 = .ok (.lreturn, 1) := by decide +kernel
theorem dX11_over_21 : decode cX11_over 21 = .ok (.aload_n 0, 1) := by decide +kernel
theorem dX11_over_22 : decode cX11_over 22 = .ok (.iload_n 1, 1) := by decide +kernel
theorem dX11_over_23 : decode cX11_over 23 = .ok (.invokevirtual 199, 3) := by decide +kernel
theorem dX11_over_26 : decode cX11_over 26 = .ok (.iload_n 2, 1) := by decide +kernel
theorem dX11_over_27 : decode cX11_over 27 = .ok (.ifCond .ne 10, 3) := by decide +kernel
theorem dX11_over_30 : decode cX11_over 30 = .ok (.aload_n 0, 1) := by decide +kernel
theorem dX11_over_31 : decode cX11_over 31 = .ok (.getfield 183, 3) := by decide +kernel
theorem dX11_over_34 : decode cX11_over 34 = .ok (.goto 7, 3) := by decide +kernel
theorem dX11_over_37 : decode cX11_over 37 = .ok (.aload_n 0, 1) := by decide +kernel
theorem dX11_over_38 : decode cX11_over 38 = .ok (.getfield 187, 3) := by decide +kernel
theorem dX11_over_41 : decode cX11_over 41 = .ok (.lreturn, 1) := by decide +kernel
theorem dX11_isFlat_0 : decode cX11_isFlat 0 = .ok (.aload_n 0, 1) := by decide +kernel
theorem dX11_isFlat_1 : decode cX11_isFlat 1 = .ok (.iload_n 1, 1) := by decide +kernel
theorem dX11_isFlat_2 : decode cX11_isFlat 2 = .ok (.invokevirtual 195, 3) := by decide +kernel
theorem dX11_isFlat_5 : decode cX11_isFlat 5 = .ok (.aload_n 0, 1) := by decide +kernel
theorem dX11_isFlat_6 : decode cX11_isFlat 6 = .ok (.getfield 183, 3) := by decide +kernel
theorem dX11_isFlat_9 : decode cX11_isFlat 9 = .ok (.lconst 0, 1) := by decide +kernel
theorem dX11_isFlat_10 : decode cX11_isFlat 10 = .ok (.lcmp, 1) := by decide +kernel
theorem dX11_isFlat_11 : decode cX11_isFlat 11 = .ok (.ifCond .ne 7, 3) := by decide +kernel
theorem dX11_isFlat_14 : decode cX11_isFlat 14 = .ok (.iconst 1, 1) := by decide +kernel
theorem dX11_isFlat_15 : decode cX11_isFlat 15 = .ok (.goto 4, 3) := by decide +kernel
theorem dX11_isFlat_18 : decode cX11_isFlat 18 = .ok (.iconst 0, 1) := by decide +kernel
theorem dX11_isFlat_19 : decode cX11_isFlat 19 = .ok (.ireturn, 1) := by decide +kernel
theorem dX11_geometry_0 : decode cX11_geometry 0 = .ok (.aload_n 0, 1) := by decide +kernel
theorem dX11_geometry_1 : decode cX11_geometry 1 = .ok (.iload_n 1, 1) := by decide +kernel
theorem dX11_geometry_2 : decode cX11_geometry 2 = .ok (.invokevirtual 202, 3) := by decide +kernel
theorem dX11_geometry_5 : decode cX11_geometry 5 = .ok (.ifCond .eq 7, 3) := by decide +kernel
theorem dX11_geometry_8 : decode cX11_geometry 8 = .ok (.iconst 0, 1) := by decide +kernel
theorem dX11_geometry_9 : decode cX11_geometry 9 = .ok (.goto 4, 3) := by decide +kernel
theorem dX11_geometry_12 : decode cX11_geometry 12 = .ok (.iconst 3, 1) := by decide +kernel
theorem dX11_geometry_13 : decode cX11_geometry 13 = .ok (.istore_n 2, 1) := by decide +kernel
theorem dX11_geometry_14 : decode cX11_geometry 14 = .ok (.aload_n 0, 1) := by decide +kernel
theorem dX11_geometry_15 : decode cX11_geometry 15 = .ok (.iload_n 1, 1) := by decide +kernel
theorem dX11_geometry_16 : decode cX11_geometry 16 = .ok (.invokevirtual 199, 3) := by decide +kernel
theorem dX11_geometry_19 : decode cX11_geometry 19 = .ok (.iload_n 2, 1) := by decide +kernel
theorem dX11_geometry_20 : decode cX11_geometry 20 = .ok (.aload_n 0, 1) := by decide +kernel
theorem dX11_geometry_21 : decode cX11_geometry 21 = .ok (.getfield 183, 3) := by decide +kernel
theorem dX11_geometry_24 : decode cX11_geometry 24 = .ok (.lconst 0, 1) := by decide +kernel
theorem dX11_geometry_25 : decode cX11_geometry 25 = .ok (.lcmp, 1) := by decide +kernel
theorem dX11_geometry_26 : decode cX11_geometry 26 = .ok (.ifCond .le 7, 3) := by decide +kernel
theorem dX11_geometry_29 : decode cX11_geometry 29 = .ok (.iconst 0, 1) := by decide +kernel
theorem dX11_geometry_30 : decode cX11_geometry 30 = .ok (.goto 17, 3) := by decide +kernel
theorem dX11_geometry_33 : decode cX11_geometry 33 = .ok (.aload_n 0, 1) := by decide +kernel
theorem dX11_geometry_34 : decode cX11_geometry 34 = .ok (.getfield 183, 3) := by decide +kernel
theorem dX11_geometry_37 : decode cX11_geometry 37 = .ok (.lconst 0, 1) := by decide +kernel
theorem dX11_geometry_38 : decode cX11_geometry 38 = .ok (.lcmp, 1) := by decide +kernel
theorem dX11_geometry_39 : decode cX11_geometry 39 = .ok (.ifCond .ne 7, 3) := by decide +kernel
theorem dX11_geometry_42 : decode cX11_geometry 42 = .ok (.iconst 1, 1) := by decide +kernel
theorem dX11_geometry_43 : decode cX11_geometry 43 = .ok (.goto 4, 3) := by decide +kernel
theorem dX11_geometry_46 : decode cX11_geometry 46 = .ok (.iconst 2, 1) := by decide +kernel
theorem dX11_geometry_47 : decode cX11_geometry 47 = .ok (.iadd, 1) := by decide +kernel
theorem dX11_geometry_48 : decode cX11_geometry 48 = .ok (.ireturn, 1) := by decide +kernel
theorem dX11_rank_0 : decode cX11_rank 0 = .ok (.aload_n 0, 1) := by decide +kernel
theorem dX11_rank_1 : decode cX11_rank 1 = .ok (.getfield 7, 3) := by decide +kernel
theorem dX11_rank_4 : decode cX11_rank 4 = .ok (.bipush 16, 2) := by decide +kernel
theorem dX11_rank_6 : decode cX11_rank 6 = .ok (.iload_n 1, 1) := by decide +kernel
theorem dX11_rank_7 : decode cX11_rank 7 = .ok (.imul, 1) := by decide +kernel
theorem dX11_rank_8 : decode cX11_rank 8 = .ok (.iconst 1, 1) := by decide +kernel
theorem dX11_rank_9 : decode cX11_rank 9 = .ok (.iadd, 1) := by decide +kernel
theorem dX11_rank_10 : decode cX11_rank 10 = .ok (.iaload, 1) := by decide +kernel
theorem dX11_rank_11 : decode cX11_rank 11 = .ok (.istore_n 2, 1) := by decide +kernel
theorem dX11_rank_12 : decode cX11_rank 12 = .ok (.aload_n 0, 1) := by decide +kernel
theorem dX11_rank_13 : decode cX11_rank 13 = .ok (.getfield 7, 3) := by decide +kernel
theorem dX11_rank_16 : decode cX11_rank 16 = .ok (.bipush 16, 2) := by decide +kernel
theorem dX11_rank_18 : decode cX11_rank 18 = .ok (.iload_n 1, 1) := by decide +kernel
theorem dX11_rank_19 : decode cX11_rank 19 = .ok (.imul, 1) := by decide +kernel
theorem dX11_rank_20 : decode cX11_rank 20 = .ok (.iconst 0, 1) := by decide +kernel
theorem dX11_rank_21 : decode cX11_rank 21 = .ok (.iadd, 1) := by decide +kernel
theorem dX11_rank_22 : decode cX11_rank 22 = .ok (.iaload, 1) := by decide +kernel
theorem dX11_rank_23 : decode cX11_rank 23 = .ok (.iconst 1, 1) := by decide +kernel
theorem dX11_rank_24 : decode cX11_rank 24 = .ok (.if_icmp .ne 9, 3) := by decide +kernel
theorem dX11_rank_27 : decode cX11_rank 27 = .ok (.iload_n 2, 1) := by decide +kernel
theorem dX11_rank_28 : decode cX11_rank 28 = .ok (.iconst 1, 1) := by decide +kernel
theorem dX11_rank_29 : decode cX11_rank 29 = .ok (.isub, 1) := by decide +kernel
theorem dX11_rank_30 : decode cX11_rank 30 = .ok (.goto 20, 3) := by decide +kernel
theorem dX11_rank_33 : decode cX11_rank 33 = .ok (.iconst 2, 1) := by decide +kernel
theorem dX11_rank_34 : decode cX11_rank 34 = .ok (.iload_n 2, 1) := by decide +kernel
theorem dX11_rank_35 : decode cX11_rank 35 = .ok (.imul, 1) := by decide +kernel
theorem dX11_rank_36 : decode cX11_rank 36 = .ok (.aload_n 0, 1) := by decide +kernel
theorem dX11_rank_37 : decode cX11_rank 37 = .ok (.iload_n 1, 1) := by decide +kernel
theorem dX11_rank_38 : decode cX11_rank 38 = .ok (.invokevirtual 202, 3) := by decide +kernel
theorem dX11_rank_41 : decode cX11_rank 41 = .ok (.ifCond .eq 7, 3) := by decide +kernel
theorem dX11_rank_44 : decode cX11_rank 44 = .ok (.iconst 1, 1) := by decide +kernel
theorem dX11_rank_45 : decode cX11_rank 45 = .ok (.goto 4, 3) := by decide +kernel
theorem dX11_rank_48 : decode cX11_rank 48 = .ok (.iconst 0, 1) := by decide +kernel
theorem dX11_rank_49 : decode cX11_rank 49 = .ok (.iadd, 1) := by decide +kernel
theorem dX11_rank_50 : decode cX11_rank 50 = .ok (.ireturn, 1) := by decide +kernel
theorem dX11_sortRows_0 : decode cX11_sortRows 0 = .ok (.iconst 0, 1) := by decide +kernel
theorem dX11_sortRows_1 : decode cX11_sortRows 1 = .ok (.istore_n 2, 1) := by decide +kernel
theorem dX11_sortRows_2 : decode cX11_sortRows 2 = .ok (.iload_n 2, 1) := by decide +kernel
theorem dX11_sortRows_3 : decode cX11_sortRows 3 = .ok (.iload_n 1, 1) := by decide +kernel
theorem dX11_sortRows_4 : decode cX11_sortRows 4 = .ok (.if_icmp .ge 71, 3) := by decide +kernel
theorem dX11_sortRows_7 : decode cX11_sortRows 7 = .ok (.iload_n 2, 1) := by decide +kernel
theorem dX11_sortRows_8 : decode cX11_sortRows 8 = .ok (.iconst 1, 1) := by decide +kernel
theorem dX11_sortRows_9 : decode cX11_sortRows 9 = .ok (.iadd, 1) := by decide +kernel
theorem dX11_sortRows_10 : decode cX11_sortRows 10 = .ok (.istore_n 3, 1) := by decide +kernel
theorem dX11_sortRows_11 : decode cX11_sortRows 11 = .ok (.iload_n 3, 1) := by decide +kernel
theorem dX11_sortRows_12 : decode cX11_sortRows 12 = .ok (.iload_n 1, 1) := by decide +kernel
theorem dX11_sortRows_13 : decode cX11_sortRows 13 = .ok (.if_icmp .ge 56, 3) := by decide +kernel
theorem dX11_sortRows_16 : decode cX11_sortRows 16 = .ok (.aload_n 0, 1) := by decide +kernel
theorem dX11_sortRows_17 : decode cX11_sortRows 17 = .ok (.getfield 32, 3) := by decide +kernel
theorem dX11_sortRows_20 : decode cX11_sortRows 20 = .ok (.iload_n 2, 1) := by decide +kernel
theorem dX11_sortRows_21 : decode cX11_sortRows 21 = .ok (.laload, 1) := by decide +kernel
theorem dX11_sortRows_22 : decode cX11_sortRows 22 = .ok (.aload_n 0, 1) := by decide +kernel
theorem dX11_sortRows_23 : decode cX11_sortRows 23 = .ok (.getfield 32, 3) := by decide +kernel
theorem dX11_sortRows_26 : decode cX11_sortRows 26 = .ok (.iload_n 3, 1) := by decide +kernel
theorem dX11_sortRows_27 : decode cX11_sortRows 27 = .ok (.laload, 1) := by decide +kernel
theorem dX11_sortRows_28 : decode cX11_sortRows 28 = .ok (.invokestatic 143, 3) := by decide +kernel
theorem dX11_sortRows_31 : decode cX11_sortRows 31 = .ok (.lstore 4, 2) := by decide +kernel
theorem dX11_sortRows_33 : decode cX11_sortRows 33 = .ok (.aload_n 0, 1) := by decide +kernel
theorem dX11_sortRows_34 : decode cX11_sortRows 34 = .ok (.getfield 32, 3) := by decide +kernel
theorem dX11_sortRows_37 : decode cX11_sortRows 37 = .ok (.iload_n 3, 1) := by decide +kernel
theorem dX11_sortRows_38 : decode cX11_sortRows 38 = .ok (.aload_n 0, 1) := by decide +kernel
theorem dX11_sortRows_39 : decode cX11_sortRows 39 = .ok (.getfield 32, 3) := by decide +kernel
theorem dX11_sortRows_42 : decode cX11_sortRows 42 = .ok (.iload_n 2, 1) := by decide +kernel
theorem dX11_sortRows_43 : decode cX11_sortRows 43 = .ok (.laload, 1) := by decide +kernel
theorem dX11_sortRows_44 : decode cX11_sortRows 44 = .ok (.lload 4, 2) := by decide +kernel
theorem dX11_sortRows_46 : decode cX11_sortRows 46 = .ok (.ldiv, 1) := by decide +kernel
theorem dX11_sortRows_47 : decode cX11_sortRows 47 = .ok (.aload_n 0, 1) := by decide +kernel
theorem dX11_sortRows_48 : decode cX11_sortRows 48 = .ok (.getfield 32, 3) := by decide +kernel
theorem dX11_sortRows_51 : decode cX11_sortRows 51 = .ok (.iload_n 3, 1) := by decide +kernel
theorem dX11_sortRows_52 : decode cX11_sortRows 52 = .ok (.laload, 1) := by decide +kernel
theorem dX11_sortRows_53 : decode cX11_sortRows 53 = .ok (.lmul, 1) := by decide +kernel
theorem dX11_sortRows_54 : decode cX11_sortRows 54 = .ok (.lastore, 1) := by decide +kernel
theorem dX11_sortRows_55 : decode cX11_sortRows 55 = .ok (.aload_n 0, 1) := by decide +kernel
theorem dX11_sortRows_56 : decode cX11_sortRows 56 = .ok (.getfield 32, 3) := by decide +kernel
theorem dX11_sortRows_59 : decode cX11_sortRows 59 = .ok (.iload_n 2, 1) := by decide +kernel
theorem dX11_sortRows_60 : decode cX11_sortRows 60 = .ok (.lload 4, 2) := by decide +kernel
theorem dX11_sortRows_62 : decode cX11_sortRows 62 = .ok (.lastore, 1) := by decide +kernel
theorem dX11_sortRows_63 : decode cX11_sortRows 63 = .ok (.iinc 3 1, 3) := by decide +kernel
theorem dX11_sortRows_66 : decode cX11_sortRows 66 = .ok (.goto (-55), 3) := by decide +kernel
theorem dX11_sortRows_69 : decode cX11_sortRows 69 = .ok (.iinc 2 1, 3) := by decide +kernel
theorem dX11_sortRows_72 : decode cX11_sortRows 72 = .ok (.goto (-70), 3) := by decide +kernel
theorem dX11_sortRows_75 : decode cX11_sortRows 75 = .ok (.return_, 1) := by decide +kernel
theorem dX11_findRows_0 : decode cX11_findRows 0 = .ok (.aload_n 0, 1) := by decide +kernel
theorem dX11_findRows_1 : decode cX11_findRows 1 = .ok (.iload_n 1, 1) := by decide +kernel
theorem dX11_findRows_2 : decode cX11_findRows 2 = .ok (.invokevirtual 100, 3) := by decide +kernel
theorem dX11_findRows_5 : decode cX11_findRows 5 = .ok (.istore_n 2, 1) := by decide +kernel
theorem dX11_findRows_6 : decode cX11_findRows 6 = .ok (.iconst 0, 1) := by decide +kernel
theorem dX11_findRows_7 : decode cX11_findRows 7 = .ok (.istore_n 3, 1) := by decide +kernel
theorem dX11_findRows_8 : decode cX11_findRows 8 = .ok (.iload_n 3, 1) := by decide +kernel
theorem dX11_findRows_9 : decode cX11_findRows 9 = .ok (.bipush 8, 2) := by decide +kernel
theorem dX11_findRows_11 : decode cX11_findRows 11 = .ok (.if_icmp .ge 16, 3) := by decide +kernel
theorem dX11_findRows_14 : decode cX11_findRows 14 = .ok (.aload_n 0, 1) := by decide +kernel
theorem dX11_findRows_15 : decode cX11_findRows 15 = .ok (.getfield 32, 3) := by decide +kernel
theorem dX11_findRows_18 : decode cX11_findRows 18 = .ok (.iload_n 3, 1) := by decide +kernel
theorem dX11_findRows_19 : decode cX11_findRows 19 = .ok (.lconst 1, 1) := by decide +kernel
theorem dX11_findRows_20 : decode cX11_findRows 20 = .ok (.lastore, 1) := by decide +kernel
theorem dX11_findRows_21 : decode cX11_findRows 21 = .ok (.iinc 3 1, 3) := by decide +kernel
theorem dX11_findRows_24 : decode cX11_findRows 24 = .ok (.goto (-16), 3) := by decide +kernel
theorem dX11_findRows_27 : decode cX11_findRows 27 = .ok (.aload_n 0, 1) := by decide +kernel
theorem dX11_findRows_28 : decode cX11_findRows 28 = .ok (.getfield 7, 3) := by decide +kernel
theorem dX11_findRows_31 : decode cX11_findRows 31 = .ok (.bipush 16, 2) := by decide +kernel
theorem dX11_findRows_33 : decode cX11_findRows 33 = .ok (.iload_n 1, 1) := by decide +kernel
theorem dX11_findRows_34 : decode cX11_findRows 34 = .ok (.imul, 1) := by decide +kernel
theorem dX11_findRows_35 : decode cX11_findRows 35 = .ok (.iconst 0, 1) := by decide +kernel
theorem dX11_findRows_36 : decode cX11_findRows 36 = .ok (.iadd, 1) := by decide +kernel
theorem dX11_findRows_37 : decode cX11_findRows 37 = .ok (.iaload, 1) := by decide +kernel
theorem dX11_findRows_38 : decode cX11_findRows 38 = .ok (.ifCond .ne 200, 3) := by decide +kernel
theorem dX11_findRows_41 : decode cX11_findRows 41 = .ok (.iconst 0, 1) := by decide +kernel
theorem dX11_findRows_42 : decode cX11_findRows 42 = .ok (.istore_n 3, 1) := by decide +kernel
theorem dX11_findRows_43 : decode cX11_findRows 43 = .ok (.iload_n 3, 1) := by decide +kernel
theorem dX11_findRows_44 : decode cX11_findRows 44 = .ok (.iload_n 2, 1) := by decide +kernel
theorem dX11_findRows_45 : decode cX11_findRows 45 = .ok (.if_icmp .ge 22, 3) := by decide +kernel
theorem dX11_findRows_48 : decode cX11_findRows 48 = .ok (.aload_n 0, 1) := by decide +kernel
theorem dX11_findRows_49 : decode cX11_findRows 49 = .ok (.getfield 32, 3) := by decide +kernel
theorem dX11_findRows_52 : decode cX11_findRows 52 = .ok (.iload_n 3, 1) := by decide +kernel
theorem dX11_findRows_53 : decode cX11_findRows 53 = .ok (.aload_n 0, 1) := by decide +kernel
theorem dX11_findRows_54 : decode cX11_findRows 54 = .ok (.iload_n 1, 1) := by decide +kernel
theorem dX11_findRows_55 : decode cX11_findRows 55 = .ok (.iload_n 3, 1) := by decide +kernel
theorem dX11_findRows_56 : decode cX11_findRows 56 = .ok (.invokevirtual 90, 3) := by decide +kernel
theorem dX11_findRows_59 : decode cX11_findRows 59 = .ok (.i2l, 1) := by decide +kernel
theorem dX11_findRows_60 : decode cX11_findRows 60 = .ok (.lastore, 1) := by decide +kernel
theorem dX11_findRows_61 : decode cX11_findRows 61 = .ok (.iinc 3 1, 3) := by decide +kernel
theorem dX11_findRows_64 : decode cX11_findRows 64 = .ok (.goto (-21), 3) := by decide +kernel
theorem dX11_findRows_67 : decode cX11_findRows 67 = .ok (.aload_n 0, 1) := by decide +kernel
theorem dX11_findRows_68 : decode cX11_findRows 68 = .ok (.iload_n 2, 1) := by decide +kernel
theorem dX11_findRows_69 : decode cX11_findRows 69 = .ok (.invokevirtual 205, 3) := by decide +kernel
theorem dX11_findRows_72 : decode cX11_findRows 72 = .ok (.aload_n 0, 1) := by decide +kernel
theorem dX11_findRows_73 : decode cX11_findRows 73 = .ok (.getfield 7, 3) := by decide +kernel
theorem dX11_findRows_76 : decode cX11_findRows 76 = .ok (.bipush 16, 2) := by decide +kernel
theorem dX11_findRows_78 : decode cX11_findRows 78 = .ok (.iload_n 1, 1) := by decide +kernel
theorem dX11_findRows_79 : decode cX11_findRows 79 = .ok (.imul, 1) := by decide +kernel
theorem dX11_findRows_80 : decode cX11_findRows 80 = .ok (.iconst 2, 1) := by decide +kernel
theorem dX11_findRows_81 : decode cX11_findRows 81 = .ok (.iadd, 1) := by decide +kernel
theorem dX11_findRows_82 : decode cX11_findRows 82 = .ok (.iaload, 1) := by decide +kernel
theorem dX11_findRows_83 : decode cX11_findRows 83 = .ok (.i2l, 1) := by decide +kernel
theorem dX11_findRows_84 : decode cX11_findRows 84 = .ok (.lstore_n 3, 1) := by decide +kernel
end
section
theorem dX11_findRows_85 : decode cX11_findRows 85 = .ok (.lconst 1, 1) := by decide +kernel
theorem dX11_findRows_86 : decode cX11_findRows 86 = .ok (.lstore 5, 2) := by decide +kernel
theorem dX11_findRows_88 : decode cX11_findRows 88 = .ok (.iconst 0, 1) := by decide +kernel
theorem dX11_findRows_89 : decode cX11_findRows 89 = .ok (.istore 7, 2) := by decide +kernel
theorem dX11_findRows_91 : decode cX11_findRows 91 = .ok (.iload 7, 2) := by decide +kernel
theorem dX11_findRows_93 : decode cX11_findRows 93 = .ok (.iload_n 2, 1) := by decide +kernel
theorem dX11_findRows_94 : decode cX11_findRows 94 = .ok (.if_icmp .ge 45, 3) := by decide +kernel
theorem dX11_findRows_97 : decode cX11_findRows 97 = .ok (.lload_n 3, 1) := by decide +kernel
theorem dX11_findRows_98 : decode cX11_findRows 98 = .ok (.aload_n 0, 1) := by decide +kernel
theorem dX11_findRows_99 : decode cX11_findRows 99 = .ok (.iload_n 1, 1) := by decide +kernel
theorem dX11_findRows_100 : decode cX11_findRows 100 = .ok (.iload 7, 2) := by decide +kernel
theorem dX11_findRows_102 : decode cX11_findRows 102 = .ok (.invokevirtual 90, 3) := by decide +kernel
theorem dX11_findRows_105 : decode cX11_findRows 105 = .ok (.i2l, 1) := by decide +kernel
theorem dX11_findRows_106 : decode cX11_findRows 106 = .ok (.lmul, 1) := by decide +kernel
theorem dX11_findRows_107 : decode cX11_findRows 107 = .ok (.lload 5, 2) := by decide +kernel
theorem dX11_findRows_109 : decode cX11_findRows 109 = .ok (.aload_n 0, 1) := by decide +kernel
theorem dX11_findRows_110 : decode cX11_findRows 110 = .ok (.iload_n 1, 1) := by decide +kernel
theorem dX11_findRows_111 : decode cX11_findRows 111 = .ok (.iload 7, 2) := by decide +kernel
theorem dX11_findRows_113 : decode cX11_findRows 113 = .ok (.invokevirtual 93, 3) := by decide +kernel
theorem dX11_findRows_116 : decode cX11_findRows 116 = .ok (.i2l, 1) := by decide +kernel
theorem dX11_findRows_117 : decode cX11_findRows 117 = .ok (.lmul, 1) := by decide +kernel
theorem dX11_findRows_118 : decode cX11_findRows 118 = .ok (.ladd, 1) := by decide +kernel
theorem dX11_findRows_119 : decode cX11_findRows 119 = .ok (.lstore_n 3, 1) := by decide +kernel
theorem dX11_findRows_120 : decode cX11_findRows 120 = .ok (.lload 5, 2) := by decide +kernel
theorem dX11_findRows_122 : decode cX11_findRows 122 = .ok (.aload_n 0, 1) := by decide +kernel
theorem dX11_findRows_123 : decode cX11_findRows 123 = .ok (.iload_n 1, 1) := by decide +kernel
theorem dX11_findRows_124 : decode cX11_findRows 124 = .ok (.iload 7, 2) := by decide +kernel
theorem dX11_findRows_126 : decode cX11_findRows 126 = .ok (.invokevirtual 90, 3) := by decide +kernel
theorem dX11_findRows_129 : decode cX11_findRows 129 = .ok (.i2l, 1) := by decide +kernel
theorem dX11_findRows_130 : decode cX11_findRows 130 = .ok (.lmul, 1) := by decide +kernel
theorem dX11_findRows_131 : decode cX11_findRows 131 = .ok (.lstore 5, 2) := by decide +kernel
theorem dX11_findRows_133 : decode cX11_findRows 133 = .ok (.iinc 7 1, 3) := by decide +kernel
theorem dX11_findRows_136 : decode cX11_findRows 136 = .ok (.goto (-45), 3) := by decide +kernel
theorem dX11_findRows_139 : decode cX11_findRows 139 = .ok (.lload_n 3, 1) := by decide +kernel
theorem dX11_findRows_140 : decode cX11_findRows 140 = .ok (.lconst 0, 1) := by decide +kernel
theorem dX11_findRows_141 : decode cX11_findRows 141 = .ok (.lcmp, 1) := by decide +kernel
theorem dX11_findRows_142 : decode cX11_findRows 142 = .ok (.ifCond .ge 8, 3) := by decide +kernel
theorem dX11_findRows_145 : decode cX11_findRows 145 = .ok (.lload_n 3, 1) := by decide +kernel
theorem dX11_findRows_146 : decode cX11_findRows 146 = .ok (.lneg, 1) := by decide +kernel
theorem dX11_findRows_147 : decode cX11_findRows 147 = .ok (.goto 4, 3) := by decide +kernel
theorem dX11_findRows_150 : decode cX11_findRows 150 = .ok (.lload_n 3, 1) := by decide +kernel
theorem dX11_findRows_151 : decode cX11_findRows 151 = .ok (.lstore_n 3, 1) := by decide +kernel
theorem dX11_findRows_152 : decode cX11_findRows 152 = .ok (.iload_n 2, 1) := by decide +kernel
theorem dX11_findRows_153 : decode cX11_findRows 153 = .ok (.iconst 2, 1) := by decide +kernel
theorem dX11_findRows_154 : decode cX11_findRows 154 = .ok (.if_icmp .ge 7, 3) := by decide +kernel
theorem dX11_findRows_157 : decode cX11_findRows 157 = .ok (.iconst 0, 1) := by decide +kernel
theorem dX11_findRows_158 : decode cX11_findRows 158 = .ok (.goto 6, 3) := by decide +kernel
theorem dX11_findRows_161 : decode cX11_findRows 161 = .ok (.iload_n 2, 1) := by decide +kernel
theorem dX11_findRows_162 : decode cX11_findRows 162 = .ok (.iconst 2, 1) := by decide +kernel
theorem dX11_findRows_163 : decode cX11_findRows 163 = .ok (.isub, 1) := by decide +kernel
theorem dX11_findRows_164 : decode cX11_findRows 164 = .ok (.istore 7, 2) := by decide +kernel
theorem dX11_findRows_166 : decode cX11_findRows 166 = .ok (.iconst 0, 1) := by decide +kernel
theorem dX11_findRows_167 : decode cX11_findRows 167 = .ok (.istore 8, 2) := by decide +kernel
theorem dX11_findRows_169 : decode cX11_findRows 169 = .ok (.iload 8, 2) := by decide +kernel
theorem dX11_findRows_171 : decode cX11_findRows 171 = .ok (.iload 7, 2) := by decide +kernel
theorem dX11_findRows_173 : decode cX11_findRows 173 = .ok (.if_icmp .ge 19, 3) := by decide +kernel
theorem dX11_findRows_176 : decode cX11_findRows 176 = .ok (.lload_n 3, 1) := by decide +kernel
theorem dX11_findRows_177 : decode cX11_findRows 177 = .ok (.aload_n 0, 1) := by decide +kernel
theorem dX11_findRows_178 : decode cX11_findRows 178 = .ok (.getfield 32, 3) := by decide +kernel
theorem dX11_findRows_181 : decode cX11_findRows 181 = .ok (.iload 8, 2) := by decide +kernel
theorem dX11_findRows_183 : decode cX11_findRows 183 = .ok (.laload, 1) := by decide +kernel
theorem dX11_findRows_184 : decode cX11_findRows 184 = .ok (.ldiv, 1) := by decide +kernel
theorem dX11_findRows_185 : decode cX11_findRows 185 = .ok (.lstore_n 3, 1) := by decide +kernel
theorem dX11_findRows_186 : decode cX11_findRows 186 = .ok (.iinc 8 1, 3) := by decide +kernel
theorem dX11_findRows_189 : decode cX11_findRows 189 = .ok (.goto (-20), 3) := by decide +kernel
theorem dX11_findRows_192 : decode cX11_findRows 192 = .ok (.iload 7, 2) := by decide +kernel
theorem dX11_findRows_194 : decode cX11_findRows 194 = .ok (.istore 8, 2) := by decide +kernel
theorem dX11_findRows_196 : decode cX11_findRows 196 = .ok (.iload 8, 2) := by decide +kernel
theorem dX11_findRows_198 : decode cX11_findRows 198 = .ok (.bipush 8, 2) := by decide +kernel
theorem dX11_findRows_200 : decode cX11_findRows 200 = .ok (.if_icmp .ge 17, 3) := by decide +kernel
theorem dX11_findRows_203 : decode cX11_findRows 203 = .ok (.aload_n 0, 1) := by decide +kernel
theorem dX11_findRows_204 : decode cX11_findRows 204 = .ok (.getfield 32, 3) := by decide +kernel
theorem dX11_findRows_207 : decode cX11_findRows 207 = .ok (.iload 8, 2) := by decide +kernel
theorem dX11_findRows_209 : decode cX11_findRows 209 = .ok (.lconst 1, 1) := by decide +kernel
theorem dX11_findRows_210 : decode cX11_findRows 210 = .ok (.lastore, 1) := by decide +kernel
theorem dX11_findRows_211 : decode cX11_findRows 211 = .ok (.iinc 8 1, 3) := by decide +kernel
theorem dX11_findRows_214 : decode cX11_findRows 214 = .ok (.goto (-18), 3) := by decide +kernel
theorem dX11_findRows_217 : decode cX11_findRows 217 = .ok (.aload_n 0, 1) := by decide +kernel
theorem dX11_findRows_218 : decode cX11_findRows 218 = .ok (.getfield 32, 3) := by decide +kernel
theorem dX11_findRows_221 : decode cX11_findRows 221 = .ok (.iload 7, 2) := by decide +kernel
theorem dX11_findRows_223 : decode cX11_findRows 223 = .ok (.lload_n 3, 1) := by decide +kernel
theorem dX11_findRows_224 : decode cX11_findRows 224 = .ok (.lconst 0, 1) := by decide +kernel
theorem dX11_findRows_225 : decode cX11_findRows 225 = .ok (.lcmp, 1) := by decide +kernel
theorem dX11_findRows_226 : decode cX11_findRows 226 = .ok (.ifCond .ne 7, 3) := by decide +kernel
theorem dX11_findRows_229 : decode cX11_findRows 229 = .ok (.lconst 1, 1) := by decide +kernel
theorem dX11_findRows_230 : decode cX11_findRows 230 = .ok (.goto 4, 3) := by decide +kernel
theorem dX11_findRows_233 : decode cX11_findRows 233 = .ok (.lload_n 3, 1) := by decide +kernel
theorem dX11_findRows_234 : decode cX11_findRows 234 = .ok (.lastore, 1) := by decide +kernel
theorem dX11_findRows_235 : decode cX11_findRows 235 = .ok (.goto 181, 3) := by decide +kernel
theorem dX11_findRows_238 : decode cX11_findRows 238 = .ok (.iconst 0, 1) := by decide +kernel
theorem dX11_findRows_239 : decode cX11_findRows 239 = .ok (.istore_n 3, 1) := by decide +kernel
theorem dX11_findRows_240 : decode cX11_findRows 240 = .ok (.iload_n 3, 1) := by decide +kernel
theorem dX11_findRows_241 : decode cX11_findRows 241 = .ok (.iload_n 2, 1) := by decide +kernel
theorem dX11_findRows_242 : decode cX11_findRows 242 = .ok (.if_icmp .ge 47, 3) := by decide +kernel
theorem dX11_findRows_245 : decode cX11_findRows 245 = .ok (.aload_n 0, 1) := by decide +kernel
theorem dX11_findRows_246 : decode cX11_findRows 246 = .ok (.iload_n 1, 1) := by decide +kernel
theorem dX11_findRows_247 : decode cX11_findRows 247 = .ok (.iload_n 3, 1) := by decide +kernel
theorem dX11_findRows_248 : decode cX11_findRows 248 = .ok (.invokevirtual 90, 3) := by decide +kernel
theorem dX11_findRows_251 : decode cX11_findRows 251 = .ok (.istore 4, 2) := by decide +kernel
theorem dX11_findRows_253 : decode cX11_findRows 253 = .ok (.iload 4, 2) := by decide +kernel
theorem dX11_findRows_255 : decode cX11_findRows 255 = .ok (.iconst 2, 1) := by decide +kernel
theorem dX11_findRows_256 : decode cX11_findRows 256 = .ok (.irem, 1) := by decide +kernel
theorem dX11_findRows_257 : decode cX11_findRows 257 = .ok (.ifCond .ne 12, 3) := by decide +kernel
theorem dX11_findRows_260 : decode cX11_findRows 260 = .ok (.iload 4, 2) := by decide +kernel
theorem dX11_findRows_262 : decode cX11_findRows 262 = .ok (.iconst 2, 1) := by decide +kernel
theorem dX11_findRows_263 : decode cX11_findRows 263 = .ok (.idiv, 1) := by decide +kernel
theorem dX11_findRows_264 : decode cX11_findRows 264 = .ok (.istore 4, 2) := by decide +kernel
theorem dX11_findRows_266 : decode cX11_findRows 266 = .ok (.goto (-13), 3) := by decide +kernel
theorem dX11_findRows_269 : decode cX11_findRows 269 = .ok (.aload_n 0, 1) := by decide +kernel
theorem dX11_findRows_270 : decode cX11_findRows 270 = .ok (.getfield 32, 3) := by decide +kernel
theorem dX11_findRows_273 : decode cX11_findRows 273 = .ok (.bipush 8, 2) := by decide +kernel
theorem dX11_findRows_275 : decode cX11_findRows 275 = .ok (.iload_n 2, 1) := by decide +kernel
theorem dX11_findRows_276 : decode cX11_findRows 276 = .ok (.isub, 1) := by decide +kernel
theorem dX11_findRows_277 : decode cX11_findRows 277 = .ok (.iload_n 3, 1) := by decide +kernel
theorem dX11_findRows_278 : decode cX11_findRows 278 = .ok (.iadd, 1) := by decide +kernel
theorem dX11_findRows_279 : decode cX11_findRows 279 = .ok (.iload 4, 2) := by decide +kernel
theorem dX11_findRows_281 : decode cX11_findRows 281 = .ok (.i2l, 1) := by decide +kernel
theorem dX11_findRows_282 : decode cX11_findRows 282 = .ok (.lastore, 1) := by decide +kernel
theorem dX11_findRows_283 : decode cX11_findRows 283 = .ok (.iinc 3 1, 3) := by decide +kernel
theorem dX11_findRows_286 : decode cX11_findRows 286 = .ok (.goto (-46), 3) := by decide +kernel
theorem dX11_findRows_289 : decode cX11_findRows 289 = .ok (.bipush 8, 2) := by decide +kernel
theorem dX11_findRows_291 : decode cX11_findRows 291 = .ok (.iload_n 2, 1) := by decide +kernel
theorem dX11_findRows_292 : decode cX11_findRows 292 = .ok (.isub, 1) := by decide +kernel
theorem dX11_findRows_293 : decode cX11_findRows 293 = .ok (.istore_n 3, 1) := by decide +kernel
theorem dX11_findRows_294 : decode cX11_findRows 294 = .ok (.iload_n 3, 1) := by decide +kernel
theorem dX11_findRows_295 : decode cX11_findRows 295 = .ok (.bipush 8, 2) := by decide +kernel
theorem dX11_findRows_297 : decode cX11_findRows 297 = .ok (.if_icmp .ge 77, 3) := by decide +kernel
theorem dX11_findRows_300 : decode cX11_findRows 300 = .ok (.iload_n 3, 1) := by decide +kernel
theorem dX11_findRows_301 : decode cX11_findRows 301 = .ok (.iconst 1, 1) := by decide +kernel
theorem dX11_findRows_302 : decode cX11_findRows 302 = .ok (.iadd, 1) := by decide +kernel
theorem dX11_findRows_303 : decode cX11_findRows 303 = .ok (.istore 4, 2) := by decide +kernel
theorem dX11_findRows_305 : decode cX11_findRows 305 = .ok (.iload 4, 2) := by decide +kernel
theorem dX11_findRows_307 : decode cX11_findRows 307 = .ok (.bipush 8, 2) := by decide +kernel
theorem dX11_findRows_309 : decode cX11_findRows 309 = .ok (.if_icmp .ge 59, 3) := by decide +kernel
theorem dX11_findRows_312 : decode cX11_findRows 312 = .ok (.aload_n 0, 1) := by decide +kernel
theorem dX11_findRows_313 : decode cX11_findRows 313 = .ok (.getfield 32, 3) := by decide +kernel
theorem dX11_findRows_316 : decode cX11_findRows 316 = .ok (.iload_n 3, 1) := by decide +kernel
theorem dX11_findRows_317 : decode cX11_findRows 317 = .ok (.laload, 1) := by decide +kernel
theorem dX11_findRows_318 : decode cX11_findRows 318 = .ok (.aload_n 0, 1) := by decide +kernel
theorem dX11_findRows_319 : decode cX11_findRows 319 = .ok (.getfield 32, 3) := by decide +kernel
theorem dX11_findRows_322 : decode cX11_findRows 322 = .ok (.iload 4, 2) := by decide +kernel
theorem dX11_findRows_324 : decode cX11_findRows 324 = .ok (.laload, 1) := by decide +kernel
theorem dX11_findRows_325 : decode cX11_findRows 325 = .ok (.invokestatic 143, 3) := by decide +kernel
theorem dX11_findRows_328 : decode cX11_findRows 328 = .ok (.lstore 5, 2) := by decide +kernel
theorem dX11_findRows_330 : decode cX11_findRows 330 = .ok (.aload_n 0, 1) := by decide +kernel
theorem dX11_findRows_331 : decode cX11_findRows 331 = .ok (.getfield 32, 3) := by decide +kernel
theorem dX11_findRows_334 : decode cX11_findRows 334 = .ok (.iload 4, 2) := by decide +kernel
theorem dX11_findRows_336 : decode cX11_findRows 336 = .ok (.aload_n 0, 1) := by decide +kernel
theorem dX11_findRows_337 : decode cX11_findRows 337 = .ok (.getfield 32, 3) := by decide +kernel
theorem dX11_findRows_340 : decode cX11_findRows 340 = .ok (.iload_n 3, 1) := by decide +kernel
theorem dX11_findRows_341 : decode cX11_findRows 341 = .ok (.laload, 1) := by decide +kernel
theorem dX11_findRows_342 : decode cX11_findRows 342 = .ok (.lload 5, 2) := by decide +kernel
theorem dX11_findRows_344 : decode cX11_findRows 344 = .ok (.ldiv, 1) := by decide +kernel
theorem dX11_findRows_345 : decode cX11_findRows 345 = .ok (.aload_n 0, 1) := by decide +kernel
theorem dX11_findRows_346 : decode cX11_findRows 346 = .ok (.getfield 32, 3) := by decide +kernel
theorem dX11_findRows_349 : decode cX11_findRows 349 = .ok (.iload 4, 2) := by decide +kernel
theorem dX11_findRows_351 : decode cX11_findRows 351 = .ok (.laload, 1) := by decide +kernel
theorem dX11_findRows_352 : decode cX11_findRows 352 = .ok (.lmul, 1) := by decide +kernel
theorem dX11_findRows_353 : decode cX11_findRows 353 = .ok (.lastore, 1) := by decide +kernel
theorem dX11_findRows_354 : decode cX11_findRows 354 = .ok (.aload_n 0, 1) := by decide +kernel
theorem dX11_findRows_355 : decode cX11_findRows 355 = .ok (.getfield 32, 3) := by decide +kernel
theorem dX11_findRows_358 : decode cX11_findRows 358 = .ok (.iload_n 3, 1) := by decide +kernel
theorem dX11_findRows_359 : decode cX11_findRows 359 = .ok (.lload 5, 2) := by decide +kernel
theorem dX11_findRows_361 : decode cX11_findRows 361 = .ok (.lastore, 1) := by decide +kernel
theorem dX11_findRows_362 : decode cX11_findRows 362 = .ok (.iinc 4 1, 3) := by decide +kernel
theorem dX11_findRows_365 : decode cX11_findRows 365 = .ok (.goto (-60), 3) := by decide +kernel
theorem dX11_findRows_368 : decode cX11_findRows 368 = .ok (.iinc 3 1, 3) := by decide +kernel
theorem dX11_findRows_371 : decode cX11_findRows 371 = .ok (.goto (-77), 3) := by decide +kernel
theorem dX11_findRows_374 : decode cX11_findRows 374 = .ok (.aload_n 0, 1) := by decide +kernel
theorem dX11_findRows_375 : decode cX11_findRows 375 = .ok (.iload_n 1, 1) := by decide +kernel
theorem dX11_findRows_376 : decode cX11_findRows 376 = .ok (.invokevirtual 208, 3) := by decide +kernel
theorem dX11_findRows_379 : decode cX11_findRows 379 = .ok (.iconst 0, 1) := by decide +kernel
theorem dX11_findRows_380 : decode cX11_findRows 380 = .ok (.istore_n 3, 1) := by decide +kernel
theorem dX11_findRows_381 : decode cX11_findRows 381 = .ok (.iload_n 3, 1) := by decide +kernel
theorem dX11_findRows_382 : decode cX11_findRows 382 = .ok (.iload_n 2, 1) := by decide +kernel
theorem dX11_findRows_383 : decode cX11_findRows 383 = .ok (.iconst 2, 1) := by decide +kernel
theorem dX11_findRows_384 : decode cX11_findRows 384 = .ok (.iadd, 1) := by decide +kernel
theorem dX11_findRows_385 : decode cX11_findRows 385 = .ok (.if_icmp .ge 31, 3) := by decide +kernel
theorem dX11_findRows_388 : decode cX11_findRows 388 = .ok (.aload_n 0, 1) := by decide +kernel
theorem dX11_findRows_389 : decode cX11_findRows 389 = .ok (.getfield 32, 3) := by decide +kernel
theorem dX11_findRows_392 : decode cX11_findRows 392 = .ok (.bipush 6, 2) := by decide +kernel
theorem dX11_findRows_394 : decode cX11_findRows 394 = .ok (.iload_n 2, 1) := by decide +kernel
theorem dX11_findRows_395 : decode cX11_findRows 395 = .ok (.isub, 1) := by decide +kernel
theorem dX11_findRows_396 : decode cX11_findRows 396 = .ok (.iload_n 3, 1) := by decide +kernel
theorem dX11_findRows_397 : decode cX11_findRows 397 = .ok (.iadd, 1) := by decide +kernel
theorem dX11_findRows_398 : decode cX11_findRows 398 = .ok (.dup2, 1) := by decide +kernel
theorem dX11_findRows_399 : decode cX11_findRows 399 = .ok (.laload, 1) := by decide +kernel
theorem dX11_findRows_400 : decode cX11_findRows 400 = .ok (.lconst 1, 1) := by decide +kernel
theorem dX11_findRows_401 : decode cX11_findRows 401 = .ok (.aload_n 0, 1) := by decide +kernel
theorem dX11_findRows_402 : decode cX11_findRows 402 = .ok (.getfield 39, 3) := by decide +kernel
theorem dX11_findRows_405 : decode cX11_findRows 405 = .ok (.iload_n 3, 1) := by decide +kernel
theorem dX11_findRows_406 : decode cX11_findRows 406 = .ok (.iaload, 1) := by decide +kernel
theorem dX11_findRows_407 : decode cX11_findRows 407 = .ok (.lshl, 1) := by decide +kernel
theorem dX11_findRows_408 : decode cX11_findRows 408 = .ok (.lmul, 1) := by decide +kernel
theorem dX11_findRows_409 : decode cX11_findRows 409 = .ok (.lastore, 1) := by decide +kernel
theorem dX11_findRows_410 : decode cX11_findRows 410 = .ok (.iinc 3 1, 3) := by decide +kernel
theorem dX11_findRows_413 : decode cX11_findRows 413 = .ok (.goto (-32), 3) := by decide +kernel
theorem dX11_findRows_416 : decode cX11_findRows 416 = .ok (.aload_n 0, 1) := by decide +kernel
theorem dX11_findRows_417 : decode cX11_findRows 417 = .ok (.invokevirtual 211, 3) := by decide +kernel
theorem dX11_findRows_420 : decode cX11_findRows 420 = .ok (.return_, 1) := by decide +kernel
theorem dX11_dropOnes_0 : decode cX11_dropOnes 0 = .ok (.aload_n 0, 1) := by decide +kernel
theorem dX11_dropOnes_1 : decode cX11_dropOnes 1 = .ok (.iconst 0, 1) := by decide +kernel
theorem dX11_dropOnes_2 : decode cX11_dropOnes 2 = .ok (.putfield 214, 3) := by decide +kernel
theorem dX11_dropOnes_5 : decode cX11_dropOnes 5 = .ok (.iconst 0, 1) := by decide +kernel
theorem dX11_dropOnes_6 : decode cX11_dropOnes 6 = .ok (.istore_n 1, 1) := by decide +kernel
theorem dX11_dropOnes_7 : decode cX11_dropOnes 7 = .ok (.iload_n 1, 1) := by decide +kernel
theorem dX11_dropOnes_8 : decode cX11_dropOnes 8 = .ok (.bipush 8, 2) := by decide +kernel
theorem dX11_dropOnes_10 : decode cX11_dropOnes 10 = .ok (.if_icmp .ge 45, 3) := by decide +kernel
theorem dX11_dropOnes_13 : decode cX11_dropOnes 13 = .ok (.aload_n 0, 1) := by decide +kernel
theorem dX11_dropOnes_14 : decode cX11_dropOnes 14 = .ok (.getfield 32, 3) := by decide +kernel
theorem dX11_dropOnes_17 : decode cX11_dropOnes 17 = .ok (.iload_n 1, 1) := by decide +kernel
theorem dX11_dropOnes_18 : decode cX11_dropOnes 18 = .ok (.laload, 1) := by decide +kernel
theorem dX11_dropOnes_19 : decode cX11_dropOnes 19 = .ok (.lconst 1, 1) := by decide +kernel
theorem dX11_dropOnes_20 : decode cX11_dropOnes 20 = .ok (.lcmp, 1) := by decide +kernel
theorem dX11_dropOnes_21 : decode cX11_dropOnes 21 = .ok (.ifCond .le 28, 3) := by decide +kernel
theorem dX11_dropOnes_24 : decode cX11_dropOnes 24 = .ok (.aload_n 0, 1) := by decide +kernel
theorem dX11_dropOnes_25 : decode cX11_dropOnes 25 = .ok (.getfield 32, 3) := by decide +kernel
theorem dX11_dropOnes_28 : decode cX11_dropOnes 28 = .ok (.aload_n 0, 1) := by decide +kernel
theorem dX11_dropOnes_29 : decode cX11_dropOnes 29 = .ok (.getfield 214, 3) := by decide +kernel
theorem dX11_dropOnes_32 : decode cX11_dropOnes 32 = .ok (.aload_n 0, 1) := by decide +kernel
theorem dX11_dropOnes_33 : decode cX11_dropOnes 33 = .ok (.getfield 32, 3) := by decide +kernel
theorem dX11_dropOnes_36 : decode cX11_dropOnes 36 = .ok (.iload_n 1, 1) := by decide +kernel
theorem dX11_dropOnes_37 : decode cX11_dropOnes 37 = .ok (.laload, 1) := by decide +kernel
theorem dX11_dropOnes_38 : decode cX11_dropOnes 38 = .ok (.lastore, 1) := by decide +kernel
theorem dX11_dropOnes_39 : decode cX11_dropOnes 39 = .ok (.aload_n 0, 1) := by decide +kernel
theorem dX11_dropOnes_40 : decode cX11_dropOnes 40 = .ok (.dup, 1) := by decide +kernel
theorem dX11_dropOnes_41 : decode cX11_dropOnes 41 = .ok (.getfield 214, 3) := by decide +kernel
theorem dX11_dropOnes_44 : decode cX11_dropOnes 44 = .ok (.iconst 1, 1) := by decide +kernel
theorem dX11_dropOnes_45 : decode cX11_dropOnes 45 = .ok (.iadd, 1) := by decide +kernel
theorem dX11_dropOnes_46 : decode cX11_dropOnes 46 = .ok (.putfield 214, 3) := by decide +kernel
theorem dX11_dropOnes_49 : decode cX11_dropOnes 49 = .ok (.iinc 1 1, 3) := by decide +kernel
theorem dX11_dropOnes_52 : decode cX11_dropOnes 52 = .ok (.goto (-45), 3) := by decide +kernel
theorem dX11_dropOnes_55 : decode cX11_dropOnes 55 = .ok (.return_, 1) := by decide +kernel
theorem dX11_twosOf_0 : decode cX11_twosOf 0 = .ok (.iconst 0, 1) := by decide +kernel
theorem dX11_twosOf_1 : decode cX11_twosOf 1 = .ok (.istore_n 1, 1) := by decide +kernel
theorem dX11_twosOf_2 : decode cX11_twosOf 2 = .ok (.iload_n 1, 1) := by decide +kernel
theorem dX11_twosOf_3 : decode cX11_twosOf 3 = .ok (.bipush 8, 2) := by decide +kernel
theorem dX11_twosOf_5 : decode cX11_twosOf 5 = .ok (.if_icmp .ge 17, 3) := by decide +kernel
theorem dX11_twosOf_8 : decode cX11_twosOf 8 = .ok (.iload_n 0, 1) := by decide +kernel
theorem dX11_twosOf_9 : decode cX11_twosOf 9 = .ok (.iload_n 1, 1) := by decide +kernel
theorem dX11_twosOf_10 : decode cX11_twosOf 10 = .ok (.ishr, 1) := by decide +kernel
theorem dX11_twosOf_11 : decode cX11_twosOf 11 = .ok (.iconst 1, 1) := by decide +kernel
theorem dX11_twosOf_12 : decode cX11_twosOf 12 = .ok (.iand, 1) := by decide +kernel
theorem dX11_twosOf_13 : decode cX11_twosOf 13 = .ok (.ifCond .ne 9, 3) := by decide +kernel
theorem dX11_twosOf_16 : decode cX11_twosOf 16 = .ok (.iinc 1 1, 3) := by decide +kernel
theorem dX11_twosOf_19 : decode cX11_twosOf 19 = .ok (.goto (-17), 3) := by decide +kernel
theorem dX11_twosOf_22 : decode cX11_twosOf 22 = .ok (.iload_n 1, 1) := by decide +kernel
theorem dX11_twosOf_23 : decode cX11_twosOf 23 = .ok (.ireturn, 1) := by decide +kernel
theorem dX11_inverse_0 : decode cX11_inverse 0 = .ok (.iconst 1, 1) := by decide +kernel
theorem dX11_inverse_1 : decode cX11_inverse 1 = .ok (.istore_n 1, 1) := by decide +kernel
theorem dX11_inverse_2 : decode cX11_inverse 2 = .ok (.iload_n 1, 1) := by decide +kernel
theorem dX11_inverse_3 : decode cX11_inverse 3 = .ok (.iload_n 0, 1) := by decide +kernel
theorem dX11_inverse_4 : decode cX11_inverse 4 = .ok (.imul, 1) := by decide +kernel
theorem dX11_inverse_5 : decode cX11_inverse 5 = .ok (.sipush 256, 3) := by decide +kernel
theorem dX11_inverse_8 : decode cX11_inverse 8 = .ok (.irem, 1) := by decide +kernel
theorem dX11_inverse_9 : decode cX11_inverse 9 = .ok (.iconst 1, 1) := by decide +kernel
theorem dX11_inverse_10 : decode cX11_inverse 10 = .ok (.if_icmp .eq 9, 3) := by decide +kernel
theorem dX11_inverse_13 : decode cX11_inverse 13 = .ok (.iinc 1 2, 3) := by decide +kernel
theorem dX11_inverse_16 : decode cX11_inverse 16 = .ok (.goto (-14), 3) := by decide +kernel
theorem dX11_inverse_19 : decode cX11_inverse 19 = .ok (.iload_n 1, 1) := by decide +kernel
theorem dX11_inverse_20 : decode cX11_inverse 20 = .ok (.ireturn, 1) := by decide +kernel
theorem dX11_findTwos_0 : decode cX11_findTwos 0 = .ok (.aload_n 0, 1) := by decide +kernel
theorem dX11_findTwos_1 : decode cX11_findTwos 1 = .ok (.iload_n 1, 1) := by decide +kernel
theorem dX11_findTwos_2 : decode cX11_findTwos 2 = .ok (.invokevirtual 100, 3) := by decide +kernel
theorem dX11_findTwos_5 : decode cX11_findTwos 5 = .ok (.istore_n 2, 1) := by decide +kernel
theorem dX11_findTwos_6 : decode cX11_findTwos 6 = .ok (.iload_n 2, 1) := by decide +kernel
theorem dX11_findTwos_7 : decode cX11_findTwos 7 = .ok (.iconst 2, 1) := by decide +kernel
theorem dX11_findTwos_8 : decode cX11_findTwos 8 = .ok (.iadd, 1) := by decide +kernel
theorem dX11_findTwos_9 : decode cX11_findTwos 9 = .ok (.istore_n 3, 1) := by decide +kernel
theorem dX11_findTwos_10 : decode cX11_findTwos 10 = .ok (.iconst 0, 1) := by decide +kernel
theorem dX11_findTwos_11 : decode cX11_findTwos 11 = .ok (.istore 4, 2) := by decide +kernel
theorem dX11_findTwos_13 : decode cX11_findTwos 13 = .ok (.iload 4, 2) := by decide +kernel
theorem dX11_findTwos_15 : decode cX11_findTwos 15 = .ok (.bipush 64, 2) := by decide +kernel
theorem dX11_findTwos_17 : decode cX11_findTwos 17 = .ok (.if_icmp .ge 17, 3) := by decide +kernel
theorem dX11_findTwos_20 : decode cX11_findTwos 20 = .ok (.aload_n 0, 1) := by decide +kernel
theorem dX11_findTwos_21 : decode cX11_findTwos 21 = .ok (.getfield 36, 3) := by decide +kernel
theorem dX11_findTwos_24 : decode cX11_findTwos 24 = .ok (.iload 4, 2) := by decide +kernel
theorem dX11_findTwos_26 : decode cX11_findTwos 26 = .ok (.iconst 0, 1) := by decide +kernel
theorem dX11_findTwos_27 : decode cX11_findTwos 27 = .ok (.iastore, 1) := by decide +kernel
theorem dX11_findTwos_28 : decode cX11_findTwos 28 = .ok (.iinc 4 1, 3) := by decide +kernel
theorem dX11_findTwos_31 : decode cX11_findTwos 31 = .ok (.goto (-18), 3) := by decide +kernel
theorem dX11_findTwos_34 : decode cX11_findTwos 34 = .ok (.aload_n 0, 1) := by decide +kernel
theorem dX11_findTwos_35 : decode cX11_findTwos 35 = .ok (.getfield 36, 3) := by decide +kernel
theorem dX11_findTwos_38 : decode cX11_findTwos 38 = .ok (.iconst 0, 1) := by decide +kernel
theorem dX11_findTwos_39 : decode cX11_findTwos 39 = .ok (.iconst 2, 1) := by decide +kernel
theorem dX11_findTwos_40 : decode cX11_findTwos 40 = .ok (.iastore, 1) := by decide +kernel
theorem dX11_findTwos_41 : decode cX11_findTwos 41 = .ok (.iconst 0, 1) := by decide +kernel
theorem dX11_findTwos_42 : decode cX11_findTwos 42 = .ok (.istore 4, 2) := by decide +kernel
theorem dX11_findTwos_44 : decode cX11_findTwos 44 = .ok (.iload 4, 2) := by decide +kernel
theorem dX11_findTwos_46 : decode cX11_findTwos 46 = .ok (.iload_n 2, 1) := by decide +kernel
theorem dX11_findTwos_47 : decode cX11_findTwos 47 = .ok (.if_icmp .ge 69, 3) := by decide +kernel
theorem dX11_findTwos_50 : decode cX11_findTwos 50 = .ok (.aload_n 0, 1) := by decide +kernel
theorem dX11_findTwos_51 : decode cX11_findTwos 51 = .ok (.getfield 36, 3) := by decide +kernel
theorem dX11_findTwos_54 : decode cX11_findTwos 54 = .ok (.bipush 8, 2) := by decide +kernel
theorem dX11_findTwos_56 : decode cX11_findTwos 56 = .ok (.iload 4, 2) := by decide +kernel
theorem dX11_findTwos_58 : decode cX11_findTwos 58 = .ok (.iconst 1, 1) := by decide +kernel
theorem dX11_findTwos_59 : decode cX11_findTwos 59 = .ok (.iadd, 1) := by decide +kernel
theorem dX11_findTwos_60 : decode cX11_findTwos 60 = .ok (.imul, 1) := by decide +kernel
theorem dX11_findTwos_61 : decode cX11_findTwos 61 = .ok (.aload_n 0, 1) := by decide +kernel
theorem dX11_findTwos_62 : decode cX11_findTwos 62 = .ok (.iload_n 1, 1) := by decide +kernel
theorem dX11_findTwos_63 : decode cX11_findTwos 63 = .ok (.iload 4, 2) := by decide +kernel
theorem dX11_findTwos_65 : decode cX11_findTwos 65 = .ok (.invokevirtual 93, 3) := by decide +kernel
theorem dX11_findTwos_68 : decode cX11_findTwos 68 = .ok (.iastore, 1) := by decide +kernel
theorem dX11_findTwos_69 : decode cX11_findTwos 69 = .ok (.aload_n 0, 1) := by decide +kernel
theorem dX11_findTwos_70 : decode cX11_findTwos 70 = .ok (.getfield 36, 3) := by decide +kernel
theorem dX11_findTwos_73 : decode cX11_findTwos 73 = .ok (.bipush 8, 2) := by decide +kernel
theorem dX11_findTwos_75 : decode cX11_findTwos 75 = .ok (.iload 4, 2) := by decide +kernel
theorem dX11_findTwos_77 : decode cX11_findTwos 77 = .ok (.iconst 1, 1) := by decide +kernel
theorem dX11_findTwos_78 : decode cX11_findTwos 78 = .ok (.iadd, 1) := by decide +kernel
theorem dX11_findTwos_79 : decode cX11_findTwos 79 = .ok (.imul, 1) := by decide +kernel
theorem dX11_findTwos_80 : decode cX11_findTwos 80 = .ok (.iload 4, 2) := by decide +kernel
theorem dX11_findTwos_82 : decode cX11_findTwos 82 = .ok (.iadd, 1) := by decide +kernel
theorem dX11_findTwos_83 : decode cX11_findTwos 83 = .ok (.iconst 1, 1) := by decide +kernel
theorem dX11_findTwos_84 : decode cX11_findTwos 84 = .ok (.iadd, 1) := by decide +kernel
theorem dX11_findTwos_85 : decode cX11_findTwos 85 = .ok (.aload_n 0, 1) := by decide +kernel
theorem dX11_findTwos_86 : decode cX11_findTwos 86 = .ok (.iload_n 1, 1) := by decide +kernel
theorem dX11_findTwos_87 : decode cX11_findTwos 87 = .ok (.iload 4, 2) := by decide +kernel
theorem dX11_findTwos_89 : decode cX11_findTwos 89 = .ok (.invokevirtual 90, 3) := by decide +kernel
theorem dX11_findTwos_92 : decode cX11_findTwos 92 = .ok (.iastore, 1) := by decide +kernel
theorem dX11_findTwos_93 : decode cX11_findTwos 93 = .ok (.aload_n 0, 1) := by decide +kernel
theorem dX11_findTwos_94 : decode cX11_findTwos 94 = .ok (.getfield 36, 3) := by decide +kernel
theorem dX11_findTwos_97 : decode cX11_findTwos 97 = .ok (.bipush 8, 2) := by decide +kernel
theorem dX11_findTwos_99 : decode cX11_findTwos 99 = .ok (.iload_n 3, 1) := by decide +kernel
theorem dX11_findTwos_100 : decode cX11_findTwos 100 = .ok (.iconst 1, 1) := by decide +kernel
theorem dX11_findTwos_101 : decode cX11_findTwos 101 = .ok (.isub, 1) := by decide +kernel
theorem dX11_findTwos_102 : decode cX11_findTwos 102 = .ok (.imul, 1) := by decide +kernel
theorem dX11_findTwos_103 : decode cX11_findTwos 103 = .ok (.iload 4, 2) := by decide +kernel
theorem dX11_findTwos_105 : decode cX11_findTwos 105 = .ok (.iadd, 1) := by decide +kernel
theorem dX11_findTwos_106 : decode cX11_findTwos 106 = .ok (.iconst 1, 1) := by decide +kernel
theorem dX11_findTwos_107 : decode cX11_findTwos 107 = .ok (.iadd, 1) := by decide +kernel
theorem dX11_findTwos_108 : decode cX11_findTwos 108 = .ok (.iconst 1, 1) := by decide +kernel
theorem dX11_findTwos_109 : decode cX11_findTwos 109 = .ok (.iastore, 1) := by decide +kernel
theorem dX11_findTwos_110 : decode cX11_findTwos 110 = .ok (.iinc 4 1, 3) := by decide +kernel
theorem dX11_findTwos_113 : decode cX11_findTwos 113 = .ok (.goto (-69), 3) := by decide +kernel
theorem dX11_findTwos_116 : decode cX11_findTwos 116 = .ok (.aload_n 0, 1) := by decide +kernel
theorem dX11_findTwos_117 : decode cX11_findTwos 117 = .ok (.getfield 36, 3) := by decide +kernel
theorem dX11_findTwos_120 : decode cX11_findTwos 120 = .ok (.bipush 8, 2) := by decide +kernel
theorem dX11_findTwos_122 : decode cX11_findTwos 122 = .ok (.iload_n 3, 1) := by decide +kernel
theorem dX11_findTwos_123 : decode cX11_findTwos 123 = .ok (.iconst 1, 1) := by decide +kernel
theorem dX11_findTwos_124 : decode cX11_findTwos 124 = .ok (.isub, 1) := by decide +kernel
theorem dX11_findTwos_125 : decode cX11_findTwos 125 = .ok (.imul, 1) := by decide +kernel
theorem dX11_findTwos_126 : decode cX11_findTwos 126 = .ok (.aload_n 0, 1) := by decide +kernel
theorem dX11_findTwos_127 : decode cX11_findTwos 127 = .ok (.getfield 7, 3) := by decide +kernel
theorem dX11_findTwos_130 : decode cX11_findTwos 130 = .ok (.bipush 16, 2) := by decide +kernel
theorem dX11_findTwos_132 : decode cX11_findTwos 132 = .ok (.iload_n 1, 1) := by decide +kernel
theorem dX11_findTwos_133 : decode cX11_findTwos 133 = .ok (.imul, 1) := by decide +kernel
theorem dX11_findTwos_134 : decode cX11_findTwos 134 = .ok (.iconst 2, 1) := by decide +kernel
theorem dX11_findTwos_135 : decode cX11_findTwos 135 = .ok (.iadd, 1) := by decide +kernel
theorem dX11_findTwos_136 : decode cX11_findTwos 136 = .ok (.iaload, 1) := by decide +kernel
theorem dX11_findTwos_137 : decode cX11_findTwos 137 = .ok (.ineg, 1) := by decide +kernel
theorem dX11_findTwos_138 : decode cX11_findTwos 138 = .ok (.sipush 256, 3) := by decide +kernel
theorem dX11_findTwos_141 : decode cX11_findTwos 141 = .ok (.invokestatic 79, 3) := by decide +kernel
theorem dX11_findTwos_144 : decode cX11_findTwos 144 = .ok (.iastore, 1) := by decide +kernel
theorem dX11_findTwos_145 : decode cX11_findTwos 145 = .ok (.aload_n 0, 1) := by decide +kernel
theorem dX11_findTwos_146 : decode cX11_findTwos 146 = .ok (.getfield 36, 3) := by decide +kernel
theorem dX11_findTwos_149 : decode cX11_findTwos 149 = .ok (.bipush 8, 2) := by decide +kernel
theorem dX11_findTwos_151 : decode cX11_findTwos 151 = .ok (.iload_n 3, 1) := by decide +kernel
theorem dX11_findTwos_152 : decode cX11_findTwos 152 = .ok (.iconst 1, 1) := by decide +kernel
theorem dX11_findTwos_153 : decode cX11_findTwos 153 = .ok (.isub, 1) := by decide +kernel
theorem dX11_findTwos_154 : decode cX11_findTwos 154 = .ok (.imul, 1) := by decide +kernel
theorem dX11_findTwos_155 : decode cX11_findTwos 155 = .ok (.iload_n 3, 1) := by decide +kernel
theorem dX11_findTwos_156 : decode cX11_findTwos 156 = .ok (.iadd, 1) := by decide +kernel
theorem dX11_findTwos_157 : decode cX11_findTwos 157 = .ok (.iconst 1, 1) := by decide +kernel
theorem dX11_findTwos_158 : decode cX11_findTwos 158 = .ok (.isub, 1) := by decide +kernel
theorem dX11_findTwos_159 : decode cX11_findTwos 159 = .ok (.iconst 2, 1) := by decide +kernel
theorem dX11_findTwos_160 : decode cX11_findTwos 160 = .ok (.iastore, 1) := by decide +kernel
theorem dX11_findTwos_161 : decode cX11_findTwos 161 = .ok (.iconst 0, 1) := by decide +kernel
theorem dX11_findTwos_162 : decode cX11_findTwos 162 = .ok (.istore 4, 2) := by decide +kernel
theorem dX11_findTwos_164 : decode cX11_findTwos 164 = .ok (.iload 4, 2) := by decide +kernel
theorem dX11_findTwos_166 : decode cX11_findTwos 166 = .ok (.iload_n 3, 1) := by decide +kernel
theorem dX11_findTwos_167 : decode cX11_findTwos 167 = .ok (.if_icmp .ge 23, 3) := by decide +kernel
theorem dX11_findTwos_170 : decode cX11_findTwos 170 = .ok (.aload_n 0, 1) := by decide +kernel
theorem dX11_findTwos_171 : decode cX11_findTwos 171 = .ok (.getfield 39, 3) := by decide +kernel
theorem dX11_findTwos_174 : decode cX11_findTwos 174 = .ok (.iload 4, 2) := by decide +kernel
theorem dX11_findTwos_176 : decode cX11_findTwos 176 = .ok (.aload_n 0, 1) := by decide +kernel
theorem dX11_findTwos_177 : decode cX11_findTwos 177 = .ok (.iload 4, 2) := by decide +kernel
theorem dX11_findTwos_179 : decode cX11_findTwos 179 = .ok (.iload_n 3, 1) := by decide +kernel
theorem dX11_findTwos_180 : decode cX11_findTwos 180 = .ok (.invokevirtual 217, 3) := by decide +kernel
theorem dX11_findTwos_183 : decode cX11_findTwos 183 = .ok (.iastore, 1) := by decide +kernel
theorem dX11_findTwos_184 : decode cX11_findTwos 184 = .ok (.iinc 4 1, 3) := by decide +kernel
theorem dX11_findTwos_187 : decode cX11_findTwos 187 = .ok (.goto (-23), 3) := by decide +kernel
theorem dX11_findTwos_190 : decode cX11_findTwos 190 = .ok (.return_, 1) := by decide +kernel
theorem dX11_clears_0 : decode cX11_clears 0 = .ok (.bipush 9, 2) := by decide +kernel
theorem dX11_clears_2 : decode cX11_clears 2 = .ok (.iload_n 1, 1) := by decide +kernel
theorem dX11_clears_3 : decode cX11_clears 3 = .ok (.imul, 1) := by decide +kernel
theorem dX11_clears_4 : decode cX11_clears 4 = .ok (.istore_n 3, 1) := by decide +kernel
theorem dX11_clears_5 : decode cX11_clears 5 = .ok (.iload_n 1, 1) := by decide +kernel
theorem dX11_clears_6 : decode cX11_clears 6 = .ok (.istore 4, 2) := by decide +kernel
theorem dX11_clears_8 : decode cX11_clears 8 = .ok (.iload 4, 2) := by decide +kernel
theorem dX11_clears_10 : decode cX11_clears 10 = .ok (.iload_n 2, 1) := by decide +kernel
theorem dX11_clears_11 : decode cX11_clears 11 = .ok (.if_icmp .ge 65, 3) := by decide +kernel
theorem dX11_clears_14 : decode cX11_clears 14 = .ok (.iload_n 1, 1) := by decide +kernel
theorem dX11_clears_15 : decode cX11_clears 15 = .ok (.istore 5, 2) := by decide +kernel
theorem dX11_clears_17 : decode cX11_clears 17 = .ok (.iload 5, 2) := by decide +kernel
theorem dX11_clears_19 : decode cX11_clears 19 = .ok (.iload_n 2, 1) := by decide +kernel
theorem dX11_clears_20 : decode cX11_clears 20 = .ok (.if_icmp .ge 50, 3) := by decide +kernel
theorem dX11_clears_23 : decode cX11_clears 23 = .ok (.aload_n 0, 1) := by decide +kernel
theorem dX11_clears_24 : decode cX11_clears 24 = .ok (.getfield 36, 3) := by decide +kernel
theorem dX11_clears_27 : decode cX11_clears 27 = .ok (.bipush 8, 2) := by decide +kernel
theorem dX11_clears_29 : decode cX11_clears 29 = .ok (.iload 4, 2) := by decide +kernel
theorem dX11_clears_31 : decode cX11_clears 31 = .ok (.imul, 1) := by decide +kernel
theorem dX11_clears_32 : decode cX11_clears 32 = .ok (.iload 5, 2) := by decide +kernel
theorem dX11_clears_34 : decode cX11_clears 34 = .ok (.iadd, 1) := by decide +kernel
theorem dX11_clears_35 : decode cX11_clears 35 = .ok (.iaload, 1) := by decide +kernel
theorem dX11_clears_36 : decode cX11_clears 36 = .ok (.invokestatic 220, 3) := by decide +kernel
theorem dX11_clears_39 : decode cX11_clears 39 = .ok (.aload_n 0, 1) := by decide +kernel
theorem dX11_clears_40 : decode cX11_clears 40 = .ok (.getfield 36, 3) := by decide +kernel
theorem dX11_clears_43 : decode cX11_clears 43 = .ok (.iload_n 3, 1) := by decide +kernel
theorem dX11_clears_44 : decode cX11_clears 44 = .ok (.iaload, 1) := by decide +kernel
theorem dX11_clears_45 : decode cX11_clears 45 = .ok (.invokestatic 220, 3) := by decide +kernel
theorem dX11_clears_48 : decode cX11_clears 48 = .ok (.if_icmp .ge 14, 3) := by decide +kernel
theorem dX11_clears_51 : decode cX11_clears 51 = .ok (.bipush 8, 2) := by decide +kernel
theorem dX11_clears_53 : decode cX11_clears 53 = .ok (.iload 4, 2) := by decide +kernel
theorem dX11_clears_55 : decode cX11_clears 55 = .ok (.imul, 1) := by decide +kernel
theorem dX11_clears_56 : decode cX11_clears 56 = .ok (.iload 5, 2) := by decide +kernel
theorem dX11_clears_58 : decode cX11_clears 58 = .ok (.iadd, 1) := by decide +kernel
theorem dX11_clears_59 : decode cX11_clears 59 = .ok (.goto 4, 3) := by decide +kernel
theorem dX11_clears_62 : decode cX11_clears 62 = .ok (.iload_n 3, 1) := by decide +kernel
theorem dX11_clears_63 : decode cX11_clears 63 = .ok (.istore_n 3, 1) := by decide +kernel
theorem dX11_clears_64 : decode cX11_clears 64 = .ok (.iinc 5 1, 3) := by decide +kernel
theorem dX11_clears_67 : decode cX11_clears 67 = .ok (.goto (-50), 3) := by decide +kernel
theorem dX11_clears_70 : decode cX11_clears 70 = .ok (.iinc 4 1, 3) := by decide +kernel
theorem dX11_clears_73 : decode cX11_clears 73 = .ok (.goto (-65), 3) := by decide +kernel
theorem dX11_clears_76 : decode cX11_clears 76 = .ok (.iload_n 3, 1) := by decide +kernel
theorem dX11_clears_77 : decode cX11_clears 77 = .ok (.bipush 8, 2) := by decide +kernel
theorem dX11_clears_79 : decode cX11_clears 79 = .ok (.idiv, 1) := by decide +kernel
theorem dX11_clears_80 : decode cX11_clears 80 = .ok (.istore 4, 2) := by decide +kernel
theorem dX11_clears_82 : decode cX11_clears 82 = .ok (.iload_n 3, 1) := by decide +kernel
theorem dX11_clears_83 : decode cX11_clears 83 = .ok (.bipush 8, 2) := by decide +kernel
theorem dX11_clears_85 : decode cX11_clears 85 = .ok (.irem, 1) := by decide +kernel
theorem dX11_clears_86 : decode cX11_clears 86 = .ok (.istore 5, 2) := by decide +kernel
theorem dX11_clears_88 : decode cX11_clears 88 = .ok (.iconst 0, 1) := by decide +kernel
theorem dX11_clears_89 : decode cX11_clears 89 = .ok (.istore 6, 2) := by decide +kernel
theorem dX11_clears_91 : decode cX11_clears 91 = .ok (.iload 6, 2) := by decide +kernel
theorem dX11_clears_93 : decode cX11_clears 93 = .ok (.bipush 8, 2) := by decide +kernel
theorem dX11_clears_95 : decode cX11_clears 95 = .ok (.if_icmp .ge 63, 3) := by decide +kernel
theorem dX11_clears_98 : decode cX11_clears 98 = .ok (.aload_n 0, 1) := by decide +kernel
theorem dX11_clears_99 : decode cX11_clears 99 = .ok (.getfield 36, 3) := by decide +kernel
theorem dX11_clears_102 : decode cX11_clears 102 = .ok (.bipush 8, 2) := by decide +kernel
theorem dX11_clears_104 : decode cX11_clears 104 = .ok (.iload 4, 2) := by decide +kernel
theorem dX11_clears_106 : decode cX11_clears 106 = .ok (.imul, 1) := by decide +kernel
theorem dX11_clears_107 : decode cX11_clears 107 = .ok (.iload 6, 2) := by decide +kernel
theorem dX11_clears_109 : decode cX11_clears 109 = .ok (.iadd, 1) := by decide +kernel
theorem dX11_clears_110 : decode cX11_clears 110 = .ok (.iaload, 1) := by decide +kernel
theorem dX11_clears_111 : decode cX11_clears 111 = .ok (.istore 7, 2) := by decide +kernel
theorem dX11_clears_113 : decode cX11_clears 113 = .ok (.aload_n 0, 1) := by decide +kernel
theorem dX11_clears_114 : decode cX11_clears 114 = .ok (.getfield 36, 3) := by decide +kernel
theorem dX11_clears_117 : decode cX11_clears 117 = .ok (.bipush 8, 2) := by decide +kernel
theorem dX11_clears_119 : decode cX11_clears 119 = .ok (.iload 4, 2) := by decide +kernel
theorem dX11_clears_121 : decode cX11_clears 121 = .ok (.imul, 1) := by decide +kernel
theorem dX11_clears_122 : decode cX11_clears 122 = .ok (.iload 6, 2) := by decide +kernel
theorem dX11_clears_124 : decode cX11_clears 124 = .ok (.iadd, 1) := by decide +kernel
theorem dX11_clears_125 : decode cX11_clears 125 = .ok (.aload_n 0, 1) := by decide +kernel
theorem dX11_clears_126 : decode cX11_clears 126 = .ok (.getfield 36, 3) := by decide +kernel
theorem dX11_clears_129 : decode cX11_clears 129 = .ok (.bipush 8, 2) := by decide +kernel
theorem dX11_clears_131 : decode cX11_clears 131 = .ok (.iload_n 1, 1) := by decide +kernel
theorem dX11_clears_132 : decode cX11_clears 132 = .ok (.imul, 1) := by decide +kernel
theorem dX11_clears_133 : decode cX11_clears 133 = .ok (.iload 6, 2) := by decide +kernel
theorem dX11_clears_135 : decode cX11_clears 135 = .ok (.iadd, 1) := by decide +kernel
theorem dX11_clears_136 : decode cX11_clears 136 = .ok (.iaload, 1) := by decide +kernel
theorem dX11_clears_137 : decode cX11_clears 137 = .ok (.iastore, 1) := by decide +kernel
theorem dX11_clears_138 : decode cX11_clears 138 = .ok (.aload_n 0, 1) := by decide +kernel
theorem dX11_clears_139 : decode cX11_clears 139 = .ok (.getfield 36, 3) := by decide +kernel
theorem dX11_clears_142 : decode cX11_clears 142 = .ok (.bipush 8, 2) := by decide +kernel
theorem dX11_clears_144 : decode cX11_clears 144 = .ok (.iload_n 1, 1) := by decide +kernel
theorem dX11_clears_145 : decode cX11_clears 145 = .ok (.imul, 1) := by decide +kernel
theorem dX11_clears_146 : decode cX11_clears 146 = .ok (.iload 6, 2) := by decide +kernel
theorem dX11_clears_148 : decode cX11_clears 148 = .ok (.iadd, 1) := by decide +kernel
theorem dX11_clears_149 : decode cX11_clears 149 = .ok (.iload 7, 2) := by decide +kernel
theorem dX11_clears_151 : decode cX11_clears 151 = .ok (.iastore, 1) := by decide +kernel
theorem dX11_clears_152 : decode cX11_clears 152 = .ok (.iinc 6 1, 3) := by decide +kernel
theorem dX11_clears_155 : decode cX11_clears 155 = .ok (.goto (-64), 3) := by decide +kernel
theorem dX11_clears_158 : decode cX11_clears 158 = .ok (.iconst 0, 1) := by decide +kernel
theorem dX11_clears_159 : decode cX11_clears 159 = .ok (.istore 6, 2) := by decide +kernel
theorem dX11_clears_161 : decode cX11_clears 161 = .ok (.iload 6, 2) := by decide +kernel
theorem dX11_clears_163 : decode cX11_clears 163 = .ok (.bipush 8, 2) := by decide +kernel
theorem dX11_clears_165 : decode cX11_clears 165 = .ok (.if_icmp .ge 63, 3) := by decide +kernel
theorem dX11_clears_168 : decode cX11_clears 168 = .ok (.aload_n 0, 1) := by decide +kernel
theorem dX11_clears_169 : decode cX11_clears 169 = .ok (.getfield 36, 3) := by decide +kernel
theorem dX11_clears_172 : decode cX11_clears 172 = .ok (.bipush 8, 2) := by decide +kernel
theorem dX11_clears_174 : decode cX11_clears 174 = .ok (.iload 6, 2) := by decide +kernel
theorem dX11_clears_176 : decode cX11_clears 176 = .ok (.imul, 1) := by decide +kernel
theorem dX11_clears_177 : decode cX11_clears 177 = .ok (.iload 5, 2) := by decide +kernel
theorem dX11_clears_179 : decode cX11_clears 179 = .ok (.iadd, 1) := by decide +kernel
theorem dX11_clears_180 : decode cX11_clears 180 = .ok (.iaload, 1) := by decide +kernel
theorem dX11_clears_181 : decode cX11_clears 181 = .ok (.istore 7, 2) := by decide +kernel
theorem dX11_clears_183 : decode cX11_clears 183 = .ok (.aload_n 0, 1) := by decide +kernel
theorem dX11_clears_184 : decode cX11_clears 184 = .ok (.getfield 36, 3) := by decide +kernel
theorem dX11_clears_187 : decode cX11_clears 187 = .ok (.bipush 8, 2) := by decide +kernel
theorem dX11_clears_189 : decode cX11_clears 189 = .ok (.iload 6, 2) := by decide +kernel
theorem dX11_clears_191 : decode cX11_clears 191 = .ok (.imul, 1) := by decide +kernel
theorem dX11_clears_192 : decode cX11_clears 192 = .ok (.iload 5, 2) := by decide +kernel
theorem dX11_clears_194 : decode cX11_clears 194 = .ok (.iadd, 1) := by decide +kernel
theorem dX11_clears_195 : decode cX11_clears 195 = .ok (.aload_n 0, 1) := by decide +kernel
theorem dX11_clears_196 : decode cX11_clears 196 = .ok (.getfield 36, 3) := by decide +kernel
theorem dX11_clears_199 : decode cX11_clears 199 = .ok (.bipush 8, 2) := by decide +kernel
theorem dX11_clears_201 : decode cX11_clears 201 = .ok (.iload 6, 2) := by decide +kernel
theorem dX11_clears_203 : decode cX11_clears 203 = .ok (.imul, 1) := by decide +kernel
theorem dX11_clears_204 : decode cX11_clears 204 = .ok (.iload_n 1, 1) := by decide +kernel
theorem dX11_clears_205 : decode cX11_clears 205 = .ok (.iadd, 1) := by decide +kernel
theorem dX11_clears_206 : decode cX11_clears 206 = .ok (.iaload, 1) := by decide +kernel
theorem dX11_clears_207 : decode cX11_clears 207 = .ok (.iastore, 1) := by decide +kernel
theorem dX11_clears_208 : decode cX11_clears 208 = .ok (.aload_n 0, 1) := by decide +kernel
theorem dX11_clears_209 : decode cX11_clears 209 = .ok (.getfield 36, 3) := by decide +kernel
theorem dX11_clears_212 : decode cX11_clears 212 = .ok (.bipush 8, 2) := by decide +kernel
theorem dX11_clears_214 : decode cX11_clears 214 = .ok (.iload 6, 2) := by decide +kernel
theorem dX11_clears_216 : decode cX11_clears 216 = .ok (.imul, 1) := by decide +kernel
theorem dX11_clears_217 : decode cX11_clears 217 = .ok (.iload_n 1, 1) := by decide +kernel
theorem dX11_clears_218 : decode cX11_clears 218 = .ok (.iadd, 1) := by decide +kernel
theorem dX11_clears_219 : decode cX11_clears 219 = .ok (.iload 7, 2) := by decide +kernel
theorem dX11_clears_221 : decode cX11_clears 221 = .ok (.iastore, 1) := by decide +kernel
theorem dX11_clears_222 : decode cX11_clears 222 = .ok (.iinc 6 1, 3) := by decide +kernel
theorem dX11_clears_225 : decode cX11_clears 225 = .ok (.goto (-64), 3) := by decide +kernel
theorem dX11_clears_228 : decode cX11_clears 228 = .ok (.aload_n 0, 1) := by decide +kernel
theorem dX11_clears_229 : decode cX11_clears 229 = .ok (.getfield 36, 3) := by decide +kernel
theorem dX11_clears_232 : decode cX11_clears 232 = .ok (.bipush 9, 2) := by decide +kernel
theorem dX11_clears_234 : decode cX11_clears 234 = .ok (.iload_n 1, 1) := by decide +kernel
theorem dX11_clears_235 : decode cX11_clears 235 = .ok (.imul, 1) := by decide +kernel
theorem dX11_clears_236 : decode cX11_clears 236 = .ok (.iaload, 1) := by decide +kernel
theorem dX11_clears_237 : decode cX11_clears 237 = .ok (.invokestatic 220, 3) := by decide +kernel
theorem dX11_clears_240 : decode cX11_clears 240 = .ok (.istore 6, 2) := by decide +kernel
theorem dX11_clears_242 : decode cX11_clears 242 = .ok (.iload 6, 2) := by decide +kernel
theorem dX11_clears_244 : decode cX11_clears 244 = .ok (.bipush 8, 2) := by decide +kernel
theorem dX11_clears_246 : decode cX11_clears 246 = .ok (.if_icmp .ne 6, 3) := by decide +kernel
theorem dX11_clears_249 : decode cX11_clears 249 = .ok (.iload 6, 2) := by decide +kernel
theorem dX11_clears_251 : decode cX11_clears 251 = .ok (.ireturn, 1) := by decide +kernel
theorem dX11_clears_252 : decode cX11_clears 252 = .ok (.aload_n 0, 1) := by decide +kernel
theorem dX11_clears_253 : decode cX11_clears 253 = .ok (.getfield 36, 3) := by decide +kernel
theorem dX11_clears_256 : decode cX11_clears 256 = .ok (.bipush 9, 2) := by decide +kernel
theorem dX11_clears_258 : decode cX11_clears 258 = .ok (.iload_n 1, 1) := by decide +kernel
theorem dX11_clears_259 : decode cX11_clears 259 = .ok (.imul, 1) := by decide +kernel
theorem dX11_clears_260 : decode cX11_clears 260 = .ok (.iaload, 1) := by decide +kernel
theorem dX11_clears_261 : decode cX11_clears 261 = .ok (.iload 6, 2) := by decide +kernel
theorem dX11_clears_263 : decode cX11_clears 263 = .ok (.ishr, 1) := by decide +kernel
theorem dX11_clears_264 : decode cX11_clears 264 = .ok (.invokestatic 223, 3) := by decide +kernel
theorem dX11_clears_267 : decode cX11_clears 267 = .ok (.istore 7, 2) := by decide +kernel
theorem dX11_clears_269 : decode cX11_clears 269 = .ok (.iload_n 1, 1) := by decide +kernel
theorem dX11_clears_270 : decode cX11_clears 270 = .ok (.iconst 1, 1) := by decide +kernel
theorem dX11_clears_271 : decode cX11_clears 271 = .ok (.iadd, 1) := by decide +kernel
theorem dX11_clears_272 : decode cX11_clears 272 = .ok (.istore 8, 2) := by decide +kernel
theorem dX11_clears_274 : decode cX11_clears 274 = .ok (.iload 8, 2) := by decide +kernel
theorem dX11_clears_276 : decode cX11_clears 276 = .ok (.iload_n 2, 1) := by decide +kernel
theorem dX11_clears_277 : decode cX11_clears 277 = .ok (.if_icmp .ge 96, 3) := by decide +kernel
theorem dX11_clears_280 : decode cX11_clears 280 = .ok (.aload_n 0, 1) := by decide +kernel
theorem dX11_clears_281 : decode cX11_clears 281 = .ok (.getfield 36, 3) := by decide +kernel
theorem dX11_clears_284 : decode cX11_clears 284 = .ok (.bipush 8, 2) := by decide +kernel
theorem dX11_clears_286 : decode cX11_clears 286 = .ok (.iload 8, 2) := by decide +kernel
theorem dX11_clears_288 : decode cX11_clears 288 = .ok (.imul, 1) := by decide +kernel
theorem dX11_clears_289 : decode cX11_clears 289 = .ok (.iload_n 1, 1) := by decide +kernel
theorem dX11_clears_290 : decode cX11_clears 290 = .ok (.iadd, 1) := by decide +kernel
theorem dX11_clears_291 : decode cX11_clears 291 = .ok (.iaload, 1) := by decide +kernel
theorem dX11_clears_292 : decode cX11_clears 292 = .ok (.iload 6, 2) := by decide +kernel
theorem dX11_clears_294 : decode cX11_clears 294 = .ok (.ishr, 1) := by decide +kernel
theorem dX11_clears_295 : decode cX11_clears 295 = .ok (.iload 7, 2) := by decide +kernel
theorem dX11_clears_297 : decode cX11_clears 297 = .ok (.imul, 1) := by decide +kernel
theorem dX11_clears_298 : decode cX11_clears 298 = .ok (.sipush 256, 3) := by decide +kernel
theorem dX11_clears_301 : decode cX11_clears 301 = .ok (.irem, 1) := by decide +kernel
theorem dX11_clears_302 : decode cX11_clears 302 = .ok (.istore 9, 2) := by decide +kernel
theorem dX11_clears_304 : decode cX11_clears 304 = .ok (.iload_n 1, 1) := by decide +kernel
theorem dX11_clears_305 : decode cX11_clears 305 = .ok (.istore 10, 2) := by decide +kernel
theorem dX11_clears_307 : decode cX11_clears 307 = .ok (.iload 10, 2) := by decide +kernel
theorem dX11_clears_309 : decode cX11_clears 309 = .ok (.iload_n 2, 1) := by decide +kernel
theorem dX11_clears_310 : decode cX11_clears 310 = .ok (.if_icmp .ge 57, 3) := by decide +kernel
theorem dX11_clears_313 : decode cX11_clears 313 = .ok (.aload_n 0, 1) := by decide +kernel
theorem dX11_clears_314 : decode cX11_clears 314 = .ok (.getfield 36, 3) := by decide +kernel
theorem dX11_clears_317 : decode cX11_clears 317 = .ok (.bipush 8, 2) := by decide +kernel
theorem dX11_clears_319 : decode cX11_clears 319 = .ok (.iload 8, 2) := by decide +kernel
theorem dX11_clears_321 : decode cX11_clears 321 = .ok (.imul, 1) := by decide +kernel
theorem dX11_clears_322 : decode cX11_clears 322 = .ok (.iload 10, 2) := by decide +kernel
theorem dX11_clears_324 : decode cX11_clears 324 = .ok (.iadd, 1) := by decide +kernel
theorem dX11_clears_325 : decode cX11_clears 325 = .ok (.aload_n 0, 1) := by decide +kernel
theorem dX11_clears_326 : decode cX11_clears 326 = .ok (.getfield 36, 3) := by decide +kernel
theorem dX11_clears_329 : decode cX11_clears 329 = .ok (.bipush 8, 2) := by decide +kernel
theorem dX11_clears_331 : decode cX11_clears 331 = .ok (.iload 8, 2) := by decide +kernel
theorem dX11_clears_333 : decode cX11_clears 333 = .ok (.imul, 1) := by decide +kernel
theorem dX11_clears_334 : decode cX11_clears 334 = .ok (.iload 10, 2) := by decide +kernel
theorem dX11_clears_336 : decode cX11_clears 336 = .ok (.iadd, 1) := by decide +kernel
theorem dX11_clears_337 : decode cX11_clears 337 = .ok (.iaload, 1) := by decide +kernel
theorem dX11_clears_338 : decode cX11_clears 338 = .ok (.iload 9, 2) := by decide +kernel
theorem dX11_clears_340 : decode cX11_clears 340 = .ok (.aload_n 0, 1) := by decide +kernel
theorem dX11_clears_341 : decode cX11_clears 341 = .ok (.getfield 36, 3) := by decide +kernel
theorem dX11_clears_344 : decode cX11_clears 344 = .ok (.bipush 8, 2) := by decide +kernel
theorem dX11_clears_346 : decode cX11_clears 346 = .ok (.iload_n 1, 1) := by decide +kernel
theorem dX11_clears_347 : decode cX11_clears 347 = .ok (.imul, 1) := by decide +kernel
theorem dX11_clears_348 : decode cX11_clears 348 = .ok (.iload 10, 2) := by decide +kernel
theorem dX11_clears_350 : decode cX11_clears 350 = .ok (.iadd, 1) := by decide +kernel
theorem dX11_clears_351 : decode cX11_clears 351 = .ok (.iaload, 1) := by decide +kernel
theorem dX11_clears_352 : decode cX11_clears 352 = .ok (.imul, 1) := by decide +kernel
theorem dX11_clears_353 : decode cX11_clears 353 = .ok (.isub, 1) := by decide +kernel
theorem dX11_clears_354 : decode cX11_clears 354 = .ok (.sipush 256, 3) := by decide +kernel
theorem dX11_clears_357 : decode cX11_clears 357 = .ok (.invokestatic 79, 3) := by decide +kernel
theorem dX11_clears_360 : decode cX11_clears 360 = .ok (.iastore, 1) := by decide +kernel
theorem dX11_clears_361 : decode cX11_clears 361 = .ok (.iinc 10 1, 3) := by decide +kernel
theorem dX11_clears_364 : decode cX11_clears 364 = .ok (.goto (-57), 3) := by decide +kernel
theorem dX11_clears_367 : decode cX11_clears 367 = .ok (.iinc 8 1, 3) := by decide +kernel
theorem dX11_clears_370 : decode cX11_clears 370 = .ok (.goto (-96), 3) := by decide +kernel
theorem dX11_clears_373 : decode cX11_clears 373 = .ok (.iload 6, 2) := by decide +kernel
theorem dX11_clears_375 : decode cX11_clears 375 = .ok (.ireturn, 1) := by decide +kernel
theorem dX11_order_0 : decode cX11_order 0 = .ok (.aload_n 0, 1) := by decide +kernel
theorem dX11_order_1 : decode cX11_order 1 = .ok (.iload_n 1, 1) := by decide +kernel
theorem dX11_order_2 : decode cX11_order 2 = .ok (.invokevirtual 226, 3) := by decide +kernel
theorem dX11_order_5 : decode cX11_order 5 = .ok (.ifCond .le 5, 3) := by decide +kernel
theorem dX11_order_8 : decode cX11_order 8 = .ok (.lconst 0, 1) := by decide +kernel
theorem dX11_order_9 : decode cX11_order 9 = .ok (.lreturn, 1) := by decide +kernel
theorem dX11_order_10 : decode cX11_order 10 = .ok (.lconst 1, 1) := by decide +kernel
theorem dX11_order_11 : decode cX11_order 11 = .ok (.lstore_n 2, 1) := by decide +kernel
theorem dX11_order_12 : decode cX11_order 12 = .ok (.iconst 0, 1) := by decide +kernel
theorem dX11_order_13 : decode cX11_order 13 = .ok (.istore 4, 2) := by decide +kernel
theorem dX11_order_15 : decode cX11_order 15 = .ok (.iload 4, 2) := by decide +kernel
theorem dX11_order_17 : decode cX11_order 17 = .ok (.aload_n 0, 1) := by decide +kernel
theorem dX11_order_18 : decode cX11_order 18 = .ok (.getfield 214, 3) := by decide +kernel
theorem dX11_order_21 : decode cX11_order 21 = .ok (.if_icmp .ge 19, 3) := by decide +kernel
theorem dX11_order_24 : decode cX11_order 24 = .ok (.lload_n 2, 1) := by decide +kernel
theorem dX11_order_25 : decode cX11_order 25 = .ok (.aload_n 0, 1) := by decide +kernel
theorem dX11_order_26 : decode cX11_order 26 = .ok (.getfield 32, 3) := by decide +kernel
theorem dX11_order_29 : decode cX11_order 29 = .ok (.iload 4, 2) := by decide +kernel
theorem dX11_order_31 : decode cX11_order 31 = .ok (.laload, 1) := by decide +kernel
theorem dX11_order_32 : decode cX11_order 32 = .ok (.lmul, 1) := by decide +kernel
theorem dX11_order_33 : decode cX11_order 33 = .ok (.lstore_n 2, 1) := by decide +kernel
theorem dX11_order_34 : decode cX11_order 34 = .ok (.iinc 4 1, 3) := by decide +kernel
theorem dX11_order_37 : decode cX11_order 37 = .ok (.goto (-22), 3) := by decide +kernel
theorem dX11_order_40 : decode cX11_order 40 = .ok (.lload_n 2, 1) := by decide +kernel
theorem dX11_order_41 : decode cX11_order 41 = .ok (.lreturn, 1) := by decide +kernel
theorem dX11_torsion_0 : decode cX11_torsion 0 = .ok (.iload_n 1, 1) := by decide +kernel
theorem dX11_torsion_1 : decode cX11_torsion 1 = .ok (.invokestatic 147, 3) := by decide +kernel
theorem dX11_torsion_4 : decode cX11_torsion 4 = .ok (.ifCond .eq 8, 3) := by decide +kernel
theorem dX11_torsion_7 : decode cX11_torsion 7 = .ok (.iload_n 2, 1) := by decide +kernel
theorem dX11_torsion_8 : decode cX11_torsion 8 = .ok (.iconst (-1), 1) := by decide +kernel
theorem dX11_torsion_9 : decode cX11_torsion 9 = .ok (.if_icmp .ge 7, 3) := by decide +kernel
theorem dX11_torsion_12 : decode cX11_torsion 12 = .ok (.ldc2_w 229, 3) := by decide +kernel
theorem dX11_torsion_15 : decode cX11_torsion 15 = .ok (.lreturn, 1) := by decide +kernel
theorem dX11_torsion_16 : decode cX11_torsion 16 = .ok (.aload_n 0, 1) := by decide +kernel
theorem dX11_torsion_17 : decode cX11_torsion 17 = .ok (.iload_n 1, 1) := by decide +kernel
theorem dX11_torsion_18 : decode cX11_torsion 18 = .ok (.invokevirtual 231, 3) := by decide +kernel
theorem dX11_torsion_21 : decode cX11_torsion 21 = .ok (.iload_n 2, 1) := by decide +kernel
theorem dX11_torsion_22 : decode cX11_torsion 22 = .ok (.ifCond .ge 11, 3) := by decide +kernel
theorem dX11_torsion_25 : decode cX11_torsion 25 = .ok (.aload_n 0, 1) := by decide +kernel
theorem dX11_torsion_26 : decode cX11_torsion 26 = .ok (.iload_n 1, 1) := by decide +kernel
theorem dX11_torsion_27 : decode cX11_torsion 27 = .ok (.invokevirtual 234, 3) := by decide +kernel
theorem dX11_torsion_30 : decode cX11_torsion 30 = .ok (.goto 23, 3) := by decide +kernel
theorem dX11_torsion_33 : decode cX11_torsion 33 = .ok (.iload_n 2, 1) := by decide +kernel
theorem dX11_torsion_34 : decode cX11_torsion 34 = .ok (.aload_n 0, 1) := by decide +kernel
theorem dX11_torsion_35 : decode cX11_torsion 35 = .ok (.getfield 214, 3) := by decide +kernel
theorem dX11_torsion_38 : decode cX11_torsion 38 = .ok (.if_icmp .ge 12, 3) := by decide +kernel
theorem dX11_torsion_41 : decode cX11_torsion 41 = .ok (.aload_n 0, 1) := by decide +kernel
theorem dX11_torsion_42 : decode cX11_torsion 42 = .ok (.getfield 32, 3) := by decide +kernel
theorem dX11_torsion_45 : decode cX11_torsion 45 = .ok (.iload_n 2, 1) := by decide +kernel
theorem dX11_torsion_46 : decode cX11_torsion 46 = .ok (.laload, 1) := by decide +kernel
theorem dX11_torsion_47 : decode cX11_torsion 47 = .ok (.goto 6, 3) := by decide +kernel
theorem dX11_torsion_50 : decode cX11_torsion 50 = .ok (.ldc2_w 238, 3) := by decide +kernel
theorem dX11_torsion_53 : decode cX11_torsion 53 = .ok (.lreturn, 1) := by decide +kernel
theorem dX11_space_0 : decode cX11_space 0 = .ok (.iload_n 1, 1) := by decide +kernel
theorem dX11_space_1 : decode cX11_space 1 = .ok (.invokestatic 147, 3) := by decide +kernel
theorem dX11_space_4 : decode cX11_space 4 = .ok (.ifCond .eq 15, 3) := by decide +kernel
theorem dX11_space_7 : decode cX11_space 7 = .ok (.iload_n 2, 1) := by decide +kernel
theorem dX11_space_8 : decode cX11_space 8 = .ok (.i2l, 1) := by decide +kernel
theorem dX11_space_9 : decode cX11_space 9 = .ok (.lconst 0, 1) := by decide +kernel
theorem dX11_space_10 : decode cX11_space 10 = .ok (.ldc2_w 240, 3) := by decide +kernel
theorem dX11_space_13 : decode cX11_space 13 = .ok (.invokestatic 63, 3) := by decide +kernel
theorem dX11_space_16 : decode cX11_space 16 = .ok (.ifCond .ne 7, 3) := by decide +kernel
theorem dX11_space_19 : decode cX11_space 19 = .ok (.ldc2_w 193, 3) := by decide +kernel
theorem dX11_space_22 : decode cX11_space 22 = .ok (.lreturn, 1) := by decide +kernel
theorem dX11_space_23 : decode cX11_space 23 = .ok (.iload_n 2, 1) := by decide +kernel
theorem dX11_space_24 : decode cX11_space 24 = .ok (.iconst 4, 1) := by decide +kernel
theorem dX11_space_25 : decode cX11_space 25 = .ok (.if_icmp .ge 16, 3) := by decide +kernel
theorem dX11_space_28 : decode cX11_space 28 = .ok (.aload_n 0, 1) := by decide +kernel
theorem dX11_space_29 : decode cX11_space 29 = .ok (.getfield 7, 3) := by decide +kernel
theorem dX11_space_32 : decode cX11_space 32 = .ok (.bipush 16, 2) := by decide +kernel
theorem dX11_space_34 : decode cX11_space 34 = .ok (.iload_n 1, 1) := by decide +kernel
theorem dX11_space_35 : decode cX11_space 35 = .ok (.imul, 1) := by decide +kernel
theorem dX11_space_36 : decode cX11_space 36 = .ok (.iload_n 2, 1) := by decide +kernel
theorem dX11_space_37 : decode cX11_space 37 = .ok (.iadd, 1) := by decide +kernel
theorem dX11_space_38 : decode cX11_space 38 = .ok (.iaload, 1) := by decide +kernel
theorem dX11_space_39 : decode cX11_space 39 = .ok (.i2l, 1) := by decide +kernel
theorem dX11_space_40 : decode cX11_space 40 = .ok (.lreturn, 1) := by decide +kernel
theorem dX11_space_41 : decode cX11_space 41 = .ok (.iload_n 2, 1) := by decide +kernel
theorem dX11_space_42 : decode cX11_space 42 = .ok (.iconst 5, 1) := by decide +kernel
theorem dX11_space_43 : decode cX11_space 43 = .ok (.if_icmp .ne 14, 3) := by decide +kernel
theorem dX11_space_46 : decode cX11_space 46 = .ok (.aload_n 0, 1) := by decide +kernel
theorem dX11_space_47 : decode cX11_space 47 = .ok (.iload_n 1, 1) := by decide +kernel
theorem dX11_space_48 : decode cX11_space 48 = .ok (.invokevirtual 231, 3) := by decide +kernel
theorem dX11_space_51 : decode cX11_space 51 = .ok (.aload_n 0, 1) := by decide +kernel
theorem dX11_space_52 : decode cX11_space 52 = .ok (.getfield 214, 3) := by decide +kernel
theorem dX11_space_55 : decode cX11_space 55 = .ok (.i2l, 1) := by decide +kernel
theorem dX11_space_56 : decode cX11_space 56 = .ok (.lreturn, 1) := by decide +kernel
theorem dX11_space_57 : decode cX11_space 57 = .ok (.iload_n 2, 1) := by decide +kernel
theorem dX11_space_58 : decode cX11_space 58 = .ok (.iconst 4, 1) := by decide +kernel
theorem dX11_space_59 : decode cX11_space 59 = .ok (.if_icmp .ne 12, 3) := by decide +kernel
theorem dX11_space_62 : decode cX11_space 62 = .ok (.aload_n 0, 1) := by decide +kernel
theorem dX11_space_63 : decode cX11_space 63 = .ok (.iload_n 1, 1) := by decide +kernel
theorem dX11_space_64 : decode cX11_space 64 = .ok (.invokevirtual 226, 3) := by decide +kernel
theorem dX11_space_67 : decode cX11_space 67 = .ok (.i2l, 1) := by decide +kernel
theorem dX11_space_68 : decode cX11_space 68 = .ok (.goto 9, 3) := by decide +kernel
theorem dX11_space_71 : decode cX11_space 71 = .ok (.aload_n 0, 1) := by decide +kernel
theorem dX11_space_72 : decode cX11_space 72 = .ok (.iload_n 1, 1) := by decide +kernel
theorem dX11_space_73 : decode cX11_space 73 = .ok (.invokevirtual 242, 3) := by decide +kernel
theorem dX11_space_76 : decode cX11_space 76 = .ok (.i2l, 1) := by decide +kernel
theorem dX11_space_77 : decode cX11_space 77 = .ok (.lreturn, 1) := by decide +kernel
theorem dX11_fibre_0 : decode cX11_fibre 0 = .ok (.iload_n 1, 1) := by decide +kernel
theorem dX11_fibre_1 : decode cX11_fibre 1 = .ok (.invokestatic 147, 3) := by decide +kernel
theorem dX11_fibre_4 : decode cX11_fibre 4 = .ok (.ifCond .eq 50, 3) := by decide +kernel
theorem dX11_fibre_7 : decode cX11_fibre 7 = .ok (.iload_n 2, 1) := by decide +kernel
theorem dX11_fibre_8 : decode cX11_fibre 8 = .ok (.i2l, 1) := by decide +kernel
theorem dX11_fibre_9 : decode cX11_fibre 9 = .ok (.lconst 0, 1) := by decide +kernel
theorem dX11_fibre_10 : decode cX11_fibre 10 = .ok (.aload_n 0, 1) := by decide +kernel
theorem dX11_fibre_11 : decode cX11_fibre 11 = .ok (.iload_n 1, 1) := by decide +kernel
theorem dX11_fibre_12 : decode cX11_fibre 12 = .ok (.invokevirtual 100, 3) := by decide +kernel
theorem dX11_fibre_15 : decode cX11_fibre 15 = .ok (.iconst 1, 1) := by decide +kernel
theorem dX11_fibre_16 : decode cX11_fibre 16 = .ok (.isub, 1) := by decide +kernel
theorem dX11_fibre_17 : decode cX11_fibre 17 = .ok (.i2l, 1) := by decide +kernel
theorem dX11_fibre_18 : decode cX11_fibre 18 = .ok (.invokestatic 63, 3) := by decide +kernel
theorem dX11_fibre_21 : decode cX11_fibre 21 = .ok (.ifCond .eq 33, 3) := by decide +kernel
theorem dX11_fibre_24 : decode cX11_fibre 24 = .ok (.iload_n 3, 1) := by decide +kernel
theorem dX11_fibre_25 : decode cX11_fibre 25 = .ok (.i2l, 1) := by decide +kernel
theorem dX11_fibre_26 : decode cX11_fibre 26 = .ok (.lconst 0, 1) := by decide +kernel
theorem dX11_fibre_27 : decode cX11_fibre 27 = .ok (.lconst 1, 1) := by decide +kernel
theorem dX11_fibre_28 : decode cX11_fibre 28 = .ok (.invokestatic 63, 3) := by decide +kernel
theorem dX11_fibre_31 : decode cX11_fibre 31 = .ok (.ifCond .eq 23, 3) := by decide +kernel
theorem dX11_fibre_34 : decode cX11_fibre 34 = .ok (.aload_n 0, 1) := by decide +kernel
theorem dX11_fibre_35 : decode cX11_fibre 35 = .ok (.getfield 7, 3) := by decide +kernel
theorem dX11_fibre_38 : decode cX11_fibre 38 = .ok (.bipush 16, 2) := by decide +kernel
theorem dX11_fibre_40 : decode cX11_fibre 40 = .ok (.iload_n 1, 1) := by decide +kernel
theorem dX11_fibre_41 : decode cX11_fibre 41 = .ok (.imul, 1) := by decide +kernel
theorem dX11_fibre_42 : decode cX11_fibre 42 = .ok (.iconst 4, 1) := by decide +kernel
theorem dX11_fibre_43 : decode cX11_fibre 43 = .ok (.iadd, 1) := by decide +kernel
theorem dX11_fibre_44 : decode cX11_fibre 44 = .ok (.iconst 2, 1) := by decide +kernel
theorem dX11_fibre_45 : decode cX11_fibre 45 = .ok (.iload_n 2, 1) := by decide +kernel
theorem dX11_fibre_46 : decode cX11_fibre 46 = .ok (.imul, 1) := by decide +kernel
theorem dX11_fibre_47 : decode cX11_fibre 47 = .ok (.iadd, 1) := by decide +kernel
theorem dX11_fibre_48 : decode cX11_fibre 48 = .ok (.iload_n 3, 1) := by decide +kernel
theorem dX11_fibre_49 : decode cX11_fibre 49 = .ok (.iadd, 1) := by decide +kernel
theorem dX11_fibre_50 : decode cX11_fibre 50 = .ok (.iaload, 1) := by decide +kernel
theorem dX11_fibre_51 : decode cX11_fibre 51 = .ok (.goto 4, 3) := by decide +kernel
theorem dX11_fibre_54 : decode cX11_fibre 54 = .ok (.iconst (-1), 1) := by decide +kernel
theorem dX11_fibre_55 : decode cX11_fibre 55 = .ok (.ireturn, 1) := by decide +kernel
theorem dX11_like_0 : decode cX11_like 0 = .ok (.iload_n 1, 1) := by decide +kernel
theorem dX11_like_1 : decode cX11_like 1 = .ok (.invokestatic 147, 3) := by decide +kernel
theorem dX11_like_4 : decode cX11_like 4 = .ok (.ifCond .eq 10, 3) := by decide +kernel
theorem dX11_like_7 : decode cX11_like 7 = .ok (.iload_n 2, 1) := by decide +kernel
theorem dX11_like_8 : decode cX11_like 8 = .ok (.invokestatic 147, 3) := by decide +kernel
theorem dX11_like_11 : decode cX11_like 11 = .ok (.ifCond .ne 5, 3) := by decide +kernel
theorem dX11_like_14 : decode cX11_like 14 = .ok (.iconst (-1), 1) := by decide +kernel
theorem dX11_like_15 : decode cX11_like 15 = .ok (.ireturn, 1) := by decide +kernel
theorem dX11_like_16 : decode cX11_like 16 = .ok (.aload_n 0, 1) := by decide +kernel
theorem dX11_like_17 : decode cX11_like 17 = .ok (.iload_n 1, 1) := by decide +kernel
theorem dX11_like_18 : decode cX11_like 18 = .ok (.iconst 1, 1) := by decide +kernel
theorem dX11_like_19 : decode cX11_like 19 = .ok (.invokevirtual 160, 3) := by decide +kernel
theorem dX11_like_22 : decode cX11_like 22 = .ok (.aload_n 0, 1) := by decide +kernel
theorem dX11_like_23 : decode cX11_like 23 = .ok (.iload_n 2, 1) := by decide +kernel
theorem dX11_like_24 : decode cX11_like 24 = .ok (.invokevirtual 163, 3) := by decide +kernel
theorem dX11_like_27 : decode cX11_like 27 = .ok (.ifCond .eq 7, 3) := by decide +kernel
theorem dX11_like_30 : decode cX11_like 30 = .ok (.iconst 1, 1) := by decide +kernel
theorem dX11_like_31 : decode cX11_like 31 = .ok (.goto 4, 3) := by decide +kernel
theorem dX11_like_34 : decode cX11_like 34 = .ok (.iconst 0, 1) := by decide +kernel
theorem dX11_like_35 : decode cX11_like 35 = .ok (.aload_n 0, 1) := by decide +kernel
theorem dX11_like_36 : decode cX11_like 36 = .ok (.iload_n 1, 1) := by decide +kernel
theorem dX11_like_37 : decode cX11_like 37 = .ok (.iload_n 2, 1) := by decide +kernel
theorem dX11_like_38 : decode cX11_like 38 = .ok (.invokevirtual 166, 3) := by decide +kernel
theorem dX11_like_41 : decode cX11_like 41 = .ok (.ifCond .eq 7, 3) := by decide +kernel
theorem dX11_like_44 : decode cX11_like 44 = .ok (.iconst 2, 1) := by decide +kernel
theorem dX11_like_45 : decode cX11_like 45 = .ok (.goto 4, 3) := by decide +kernel
theorem dX11_like_48 : decode cX11_like 48 = .ok (.iconst 0, 1) := by decide +kernel
theorem dX11_like_49 : decode cX11_like 49 = .ok (.iadd, 1) := by decide +kernel
theorem dX11_like_50 : decode cX11_like 50 = .ok (.ireturn, 1) := by decide +kernel
theorem dX11_beginWays_0 : decode cX11_beginWays 0 = .ok (.iconst 0, 1) := by decide +kernel
theorem dX11_beginWays_1 : decode cX11_beginWays 1 = .ok (.istore_n 1, 1) := by decide +kernel
theorem dX11_beginWays_2 : decode cX11_beginWays 2 = .ok (.iload_n 1, 1) := by decide +kernel
theorem dX11_beginWays_3 : decode cX11_beginWays 3 = .ok (.bipush 12, 2) := by decide +kernel
theorem dX11_beginWays_5 : decode cX11_beginWays 5 = .ok (.if_icmp .ge 24, 3) := by decide +kernel
theorem dX11_beginWays_8 : decode cX11_beginWays 8 = .ok (.aload_n 0, 1) := by decide +kernel
theorem dX11_beginWays_9 : decode cX11_beginWays 9 = .ok (.getfield 42, 3) := by decide +kernel
theorem dX11_beginWays_12 : decode cX11_beginWays 12 = .ok (.iload_n 1, 1) := by decide +kernel
theorem dX11_beginWays_13 : decode cX11_beginWays 13 = .ok (.iload_n 1, 1) := by decide +kernel
theorem dX11_beginWays_14 : decode cX11_beginWays 14 = .ok (.ifCond .ne 7, 3) := by decide +kernel
theorem dX11_beginWays_17 : decode cX11_beginWays 17 = .ok (.lconst 1, 1) := by decide +kernel
theorem dX11_beginWays_18 : decode cX11_beginWays 18 = .ok (.goto 4, 3) := by decide +kernel
theorem dX11_beginWays_21 : decode cX11_beginWays 21 = .ok (.lconst 0, 1) := by decide +kernel
theorem dX11_beginWays_22 : decode cX11_beginWays 22 = .ok (.lastore, 1) := by decide +kernel
theorem dX11_beginWays_23 : decode cX11_beginWays 23 = .ok (.iinc 1 1, 3) := by decide +kernel
theorem dX11_beginWays_26 : decode cX11_beginWays 26 = .ok (.goto (-24), 3) := by decide +kernel
theorem dX11_beginWays_29 : decode cX11_beginWays 29 = .ok (.return_, 1) := by decide +kernel
theorem dX11_takeThen_0 : decode cX11_takeThen 0 = .ok (.iconst 0, 1) := by decide +kernel
theorem dX11_takeThen_1 : decode cX11_takeThen 1 = .ok (.istore_n 2, 1) := by decide +kernel
theorem dX11_takeThen_2 : decode cX11_takeThen 2 = .ok (.iload_n 2, 1) := by decide +kernel
theorem dX11_takeThen_3 : decode cX11_takeThen 3 = .ok (.iload_n 1, 1) := by decide +kernel
theorem dX11_takeThen_4 : decode cX11_takeThen 4 = .ok (.if_icmp .ge 28, 3) := by decide +kernel
theorem dX11_takeThen_7 : decode cX11_takeThen 7 = .ok (.aload_n 0, 1) := by decide +kernel
theorem dX11_takeThen_8 : decode cX11_takeThen 8 = .ok (.getfield 42, 3) := by decide +kernel
theorem dX11_takeThen_11 : decode cX11_takeThen 11 = .ok (.iload_n 2, 1) := by decide +kernel
theorem dX11_takeThen_12 : decode cX11_takeThen 12 = .ok (.aload_n 0, 1) := by decide +kernel
theorem dX11_takeThen_13 : decode cX11_takeThen 13 = .ok (.getfield 45, 3) := by decide +kernel
theorem dX11_takeThen_16 : decode cX11_takeThen 16 = .ok (.iload_n 2, 1) := by decide +kernel
theorem dX11_takeThen_17 : decode cX11_takeThen 17 = .ok (.laload, 1) := by decide +kernel
theorem dX11_takeThen_18 : decode cX11_takeThen 18 = .ok (.lastore, 1) := by decide +kernel
theorem dX11_takeThen_19 : decode cX11_takeThen 19 = .ok (.aload_n 0, 1) := by decide +kernel
theorem dX11_takeThen_20 : decode cX11_takeThen 20 = .ok (.getfield 45, 3) := by decide +kernel
theorem dX11_takeThen_23 : decode cX11_takeThen 23 = .ok (.iload_n 2, 1) := by decide +kernel
theorem dX11_takeThen_24 : decode cX11_takeThen 24 = .ok (.lconst 0, 1) := by decide +kernel
theorem dX11_takeThen_25 : decode cX11_takeThen 25 = .ok (.lastore, 1) := by decide +kernel
theorem dX11_takeThen_26 : decode cX11_takeThen 26 = .ok (.iinc 2 1, 3) := by decide +kernel
theorem dX11_takeThen_29 : decode cX11_takeThen 29 = .ok (.goto (-27), 3) := by decide +kernel
theorem dX11_takeThen_32 : decode cX11_takeThen 32 = .ok (.return_, 1) := by decide +kernel
theorem dX11_maps_0 : decode cX11_maps 0 = .ok (.iload_n 1, 1) := by decide +kernel
theorem dX11_maps_1 : decode cX11_maps 1 = .ok (.invokestatic 147, 3) := by decide +kernel
theorem dX11_maps_4 : decode cX11_maps 4 = .ok (.ifCond .eq 17, 3) := by decide +kernel
theorem dX11_maps_7 : decode cX11_maps 7 = .ok (.iload_n 2, 1) := by decide +kernel
theorem dX11_maps_8 : decode cX11_maps 8 = .ok (.i2l, 1) := by decide +kernel
theorem dX11_maps_9 : decode cX11_maps 9 = .ok (.ldc2_w 174, 3) := by decide +kernel
theorem dX11_maps_12 : decode cX11_maps 12 = .ok (.ldc2_w 245, 3) := by decide +kernel
theorem dX11_maps_15 : decode cX11_maps 15 = .ok (.invokestatic 63, 3) := by decide +kernel
theorem dX11_maps_18 : decode cX11_maps 18 = .ok (.ifCond .ne 7, 3) := by decide +kernel
theorem dX11_maps_21 : decode cX11_maps 21 = .ok (.ldc2_w 229, 3) := by decide +kernel
theorem dX11_maps_24 : decode cX11_maps 24 = .ok (.lreturn, 1) := by decide +kernel
theorem dX11_maps_25 : decode cX11_maps 25 = .ok (.aload_n 0, 1) := by decide +kernel
theorem dX11_maps_26 : decode cX11_maps 26 = .ok (.iload_n 1, 1) := by decide +kernel
theorem dX11_maps_27 : decode cX11_maps 27 = .ok (.iload_n 2, 1) := by decide +kernel
theorem dX11_maps_28 : decode cX11_maps 28 = .ok (.invokevirtual 247, 3) := by decide +kernel
theorem dX11_maps_31 : decode cX11_maps 31 = .ok (.lreturn, 1) := by decide +kernel
theorem dX11_mapsBy_0 : decode cX11_mapsBy 0 = .ok (.aload_n 0, 1) := by decide +kernel
theorem dX11_mapsBy_1 : decode cX11_mapsBy 1 = .ok (.getfield 7, 3) := by decide +kernel
theorem dX11_mapsBy_4 : decode cX11_mapsBy 4 = .ok (.bipush 16, 2) := by decide +kernel
theorem dX11_mapsBy_6 : decode cX11_mapsBy 6 = .ok (.iload_n 1, 1) := by decide +kernel
theorem dX11_mapsBy_7 : decode cX11_mapsBy 7 = .ok (.imul, 1) := by decide +kernel
theorem dX11_mapsBy_8 : decode cX11_mapsBy 8 = .ok (.iconst 0, 1) := by decide +kernel
theorem dX11_mapsBy_9 : decode cX11_mapsBy 9 = .ok (.iadd, 1) := by decide +kernel
theorem dX11_mapsBy_10 : decode cX11_mapsBy 10 = .ok (.iaload, 1) := by decide +kernel
theorem dX11_mapsBy_11 : decode cX11_mapsBy 11 = .ok (.istore_n 3, 1) := by decide +kernel
theorem dX11_mapsBy_12 : decode cX11_mapsBy 12 = .ok (.aload_n 0, 1) := by decide +kernel
theorem dX11_mapsBy_13 : decode cX11_mapsBy 13 = .ok (.getfield 7, 3) := by decide +kernel
theorem dX11_mapsBy_16 : decode cX11_mapsBy 16 = .ok (.bipush 16, 2) := by decide +kernel
theorem dX11_mapsBy_18 : decode cX11_mapsBy 18 = .ok (.iload_n 1, 1) := by decide +kernel
theorem dX11_mapsBy_19 : decode cX11_mapsBy 19 = .ok (.imul, 1) := by decide +kernel
theorem dX11_mapsBy_20 : decode cX11_mapsBy 20 = .ok (.iconst 1, 1) := by decide +kernel
theorem dX11_mapsBy_21 : decode cX11_mapsBy 21 = .ok (.iadd, 1) := by decide +kernel
theorem dX11_mapsBy_22 : decode cX11_mapsBy 22 = .ok (.iaload, 1) := by decide +kernel
theorem dX11_mapsBy_23 : decode cX11_mapsBy 23 = .ok (.istore 4, 2) := by decide +kernel
theorem dX11_mapsBy_25 : decode cX11_mapsBy 25 = .ok (.lconst 0, 1) := by decide +kernel
theorem dX11_mapsBy_26 : decode cX11_mapsBy 26 = .ok (.lstore 5, 2) := by decide +kernel
theorem dX11_mapsBy_28 : decode cX11_mapsBy 28 = .ok (.iconst 0, 1) := by decide +kernel
theorem dX11_mapsBy_29 : decode cX11_mapsBy 29 = .ok (.istore 7, 2) := by decide +kernel
theorem dX11_mapsBy_31 : decode cX11_mapsBy 31 = .ok (.iload 7, 2) := by decide +kernel
theorem dX11_mapsBy_33 : decode cX11_mapsBy 33 = .ok (.iload_n 2, 1) := by decide +kernel
theorem dX11_mapsBy_34 : decode cX11_mapsBy 34 = .ok (.if_icmp .ge 109, 3) := by decide +kernel
theorem dX11_mapsBy_37 : decode cX11_mapsBy 37 = .ok (.iload_n 3, 1) := by decide +kernel
theorem dX11_mapsBy_38 : decode cX11_mapsBy 38 = .ok (.ifCond .eq 12, 3) := by decide +kernel
theorem dX11_mapsBy_41 : decode cX11_mapsBy 41 = .ok (.iconst 2, 1) := by decide +kernel
theorem dX11_mapsBy_42 : decode cX11_mapsBy 42 = .ok (.iload 7, 2) := by decide +kernel
theorem dX11_mapsBy_44 : decode cX11_mapsBy 44 = .ok (.imul, 1) := by decide +kernel
theorem dX11_mapsBy_45 : decode cX11_mapsBy 45 = .ok (.iload_n 2, 1) := by decide +kernel
theorem dX11_mapsBy_46 : decode cX11_mapsBy 46 = .ok (.irem, 1) := by decide +kernel
theorem dX11_mapsBy_47 : decode cX11_mapsBy 47 = .ok (.ifCond .ne 90, 3) := by decide +kernel
theorem dX11_mapsBy_50 : decode cX11_mapsBy 50 = .ok (.aload_n 0, 1) := by decide +kernel
theorem dX11_mapsBy_51 : decode cX11_mapsBy 51 = .ok (.invokevirtual 251, 3) := by decide +kernel
theorem dX11_mapsBy_54 : decode cX11_mapsBy 54 = .ok (.iconst 0, 1) := by decide +kernel
theorem dX11_mapsBy_55 : decode cX11_mapsBy 55 = .ok (.istore 8, 2) := by decide +kernel
theorem dX11_mapsBy_57 : decode cX11_mapsBy 57 = .ok (.iload 8, 2) := by decide +kernel
theorem dX11_mapsBy_59 : decode cX11_mapsBy 59 = .ok (.aload_n 0, 1) := by decide +kernel
theorem dX11_mapsBy_60 : decode cX11_mapsBy 60 = .ok (.iload_n 1, 1) := by decide +kernel
theorem dX11_mapsBy_61 : decode cX11_mapsBy 61 = .ok (.invokevirtual 100, 3) := by decide +kernel
theorem dX11_mapsBy_64 : decode cX11_mapsBy 64 = .ok (.if_icmp .ge 19, 3) := by decide +kernel
theorem dX11_mapsBy_67 : decode cX11_mapsBy 67 = .ok (.aload_n 0, 1) := by decide +kernel
theorem dX11_mapsBy_68 : decode cX11_mapsBy 68 = .ok (.iload_n 1, 1) := by decide +kernel
theorem dX11_mapsBy_69 : decode cX11_mapsBy 69 = .ok (.iload 8, 2) := by decide +kernel
theorem dX11_mapsBy_71 : decode cX11_mapsBy 71 = .ok (.iload 7, 2) := by decide +kernel
theorem dX11_mapsBy_73 : decode cX11_mapsBy 73 = .ok (.iload_n 2, 1) := by decide +kernel
theorem dX11_mapsBy_74 : decode cX11_mapsBy 74 = .ok (.invokevirtual 254, 3) := by decide +kernel
theorem dX11_mapsBy_77 : decode cX11_mapsBy 77 = .ok (.iinc 8 1, 3) := by decide +kernel
theorem dX11_mapsBy_80 : decode cX11_mapsBy 80 = .ok (.goto (-23), 3) := by decide +kernel
theorem dX11_mapsBy_83 : decode cX11_mapsBy 83 = .ok (.iconst 0, 1) := by decide +kernel
theorem dX11_mapsBy_84 : decode cX11_mapsBy 84 = .ok (.istore 8, 2) := by decide +kernel
theorem dX11_mapsBy_86 : decode cX11_mapsBy 86 = .ok (.iload 8, 2) := by decide +kernel
theorem dX11_mapsBy_88 : decode cX11_mapsBy 88 = .ok (.iload 4, 2) := by decide +kernel
theorem dX11_mapsBy_90 : decode cX11_mapsBy 90 = .ok (.if_icmp .ge 19, 3) := by decide +kernel
theorem dX11_mapsBy_93 : decode cX11_mapsBy 93 = .ok (.iload_n 3, 1) := by decide +kernel
theorem dX11_mapsBy_94 : decode cX11_mapsBy 94 = .ok (.iconst 1, 1) := by decide +kernel
theorem dX11_mapsBy_95 : decode cX11_mapsBy 95 = .ok (.if_icmp .ne 14, 3) := by decide +kernel
theorem dX11_mapsBy_98 : decode cX11_mapsBy 98 = .ok (.aload_n 0, 1) := by decide +kernel
theorem dX11_mapsBy_99 : decode cX11_mapsBy 99 = .ok (.iload_n 2, 1) := by decide +kernel
theorem dX11_mapsBy_100 : decode cX11_mapsBy 100 = .ok (.invokevirtual 258, 3) := by decide +kernel
theorem dX11_mapsBy_103 : decode cX11_mapsBy 103 = .ok (.iinc 8 1, 3) := by decide +kernel
theorem dX11_mapsBy_106 : decode cX11_mapsBy 106 = .ok (.goto (-20), 3) := by decide +kernel
theorem dX11_mapsBy_109 : decode cX11_mapsBy 109 = .ok (.lload 5, 2) := by decide +kernel
theorem dX11_mapsBy_111 : decode cX11_mapsBy 111 = .ok (.aload_n 0, 1) := by decide +kernel
theorem dX11_mapsBy_112 : decode cX11_mapsBy 112 = .ok (.getfield 42, 3) := by decide +kernel
theorem dX11_mapsBy_115 : decode cX11_mapsBy 115 = .ok (.aload_n 0, 1) := by decide +kernel
theorem dX11_mapsBy_116 : decode cX11_mapsBy 116 = .ok (.getfield 7, 3) := by decide +kernel
theorem dX11_mapsBy_119 : decode cX11_mapsBy 119 = .ok (.bipush 16, 2) := by decide +kernel
theorem dX11_mapsBy_121 : decode cX11_mapsBy 121 = .ok (.iload_n 1, 1) := by decide +kernel
theorem dX11_mapsBy_122 : decode cX11_mapsBy 122 = .ok (.imul, 1) := by decide +kernel
theorem dX11_mapsBy_123 : decode cX11_mapsBy 123 = .ok (.iconst 2, 1) := by decide +kernel
theorem dX11_mapsBy_124 : decode cX11_mapsBy 124 = .ok (.iadd, 1) := by decide +kernel
theorem dX11_mapsBy_125 : decode cX11_mapsBy 125 = .ok (.iaload, 1) := by decide +kernel
theorem dX11_mapsBy_126 : decode cX11_mapsBy 126 = .ok (.iload 7, 2) := by decide +kernel
theorem dX11_mapsBy_128 : decode cX11_mapsBy 128 = .ok (.imul, 1) := by decide +kernel
theorem dX11_mapsBy_129 : decode cX11_mapsBy 129 = .ok (.iload_n 2, 1) := by decide +kernel
theorem dX11_mapsBy_130 : decode cX11_mapsBy 130 = .ok (.invokestatic 79, 3) := by decide +kernel
theorem dX11_mapsBy_133 : decode cX11_mapsBy 133 = .ok (.laload, 1) := by decide +kernel
theorem dX11_mapsBy_134 : decode cX11_mapsBy 134 = .ok (.ladd, 1) := by decide +kernel
theorem dX11_mapsBy_135 : decode cX11_mapsBy 135 = .ok (.lstore 5, 2) := by decide +kernel
theorem dX11_mapsBy_137 : decode cX11_mapsBy 137 = .ok (.iinc 7 1, 3) := by decide +kernel
theorem dX11_mapsBy_140 : decode cX11_mapsBy 140 = .ok (.goto (-109), 3) := by decide +kernel
theorem dX11_mapsBy_143 : decode cX11_mapsBy 143 = .ok (.iconst 0, 1) := by decide +kernel
theorem dX11_mapsBy_144 : decode cX11_mapsBy 144 = .ok (.istore 7, 2) := by decide +kernel
theorem dX11_mapsBy_146 : decode cX11_mapsBy 146 = .ok (.iload 7, 2) := by decide +kernel
theorem dX11_mapsBy_148 : decode cX11_mapsBy 148 = .ok (.iconst 2, 1) := by decide +kernel
theorem dX11_mapsBy_149 : decode cX11_mapsBy 149 = .ok (.iload 4, 2) := by decide +kernel
theorem dX11_mapsBy_151 : decode cX11_mapsBy 151 = .ok (.imul, 1) := by decide +kernel
theorem dX11_mapsBy_152 : decode cX11_mapsBy 152 = .ok (.if_icmp .ge 20, 3) := by decide +kernel
theorem dX11_mapsBy_155 : decode cX11_mapsBy 155 = .ok (.iload_n 3, 1) := by decide +kernel
theorem dX11_mapsBy_156 : decode cX11_mapsBy 156 = .ok (.ifCond .ne 16, 3) := by decide +kernel
theorem dX11_mapsBy_159 : decode cX11_mapsBy 159 = .ok (.lload 5, 2) := by decide +kernel
theorem dX11_mapsBy_161 : decode cX11_mapsBy 161 = .ok (.iload_n 2, 1) := by decide +kernel
theorem dX11_mapsBy_162 : decode cX11_mapsBy 162 = .ok (.i2l, 1) := by decide +kernel
theorem dX11_mapsBy_163 : decode cX11_mapsBy 163 = .ok (.lmul, 1) := by decide +kernel
theorem dX11_mapsBy_164 : decode cX11_mapsBy 164 = .ok (.lstore 5, 2) := by decide +kernel
theorem dX11_mapsBy_166 : decode cX11_mapsBy 166 = .ok (.iinc 7 1, 3) := by decide +kernel
theorem dX11_mapsBy_169 : decode cX11_mapsBy 169 = .ok (.goto (-23), 3) := by decide +kernel
theorem dX11_mapsBy_172 : decode cX11_mapsBy 172 = .ok (.lload 5, 2) := by decide +kernel
theorem dX11_mapsBy_174 : decode cX11_mapsBy 174 = .ok (.lreturn, 1) := by decide +kernel
theorem dX11_giveFibre_0 : decode cX11_giveFibre 0 = .ok (.iconst 0, 1) := by decide +kernel
theorem dX11_giveFibre_1 : decode cX11_giveFibre 1 = .ok (.istore 5, 2) := by decide +kernel
theorem dX11_giveFibre_3 : decode cX11_giveFibre 3 = .ok (.iload 5, 2) := by decide +kernel
theorem dX11_giveFibre_5 : decode cX11_giveFibre 5 = .ok (.iload 4, 2) := by decide +kernel
theorem dX11_giveFibre_7 : decode cX11_giveFibre 7 = .ok (.if_icmp .ge 72, 3) := by decide +kernel
theorem dX11_giveFibre_10 : decode cX11_giveFibre 10 = .ok (.aload_n 0, 1) := by decide +kernel
theorem dX11_giveFibre_11 : decode cX11_giveFibre 11 = .ok (.iload_n 1, 1) := by decide +kernel
theorem dX11_giveFibre_12 : decode cX11_giveFibre 12 = .ok (.iload_n 2, 1) := by decide +kernel
theorem dX11_giveFibre_13 : decode cX11_giveFibre 13 = .ok (.invokevirtual 90, 3) := by decide +kernel
theorem dX11_giveFibre_16 : decode cX11_giveFibre 16 = .ok (.iload 5, 2) := by decide +kernel
theorem dX11_giveFibre_18 : decode cX11_giveFibre 18 = .ok (.imul, 1) := by decide +kernel
theorem dX11_giveFibre_19 : decode cX11_giveFibre 19 = .ok (.aload_n 0, 1) := by decide +kernel
theorem dX11_giveFibre_20 : decode cX11_giveFibre 20 = .ok (.iload_n 1, 1) := by decide +kernel
theorem dX11_giveFibre_21 : decode cX11_giveFibre 21 = .ok (.iload_n 2, 1) := by decide +kernel
theorem dX11_giveFibre_22 : decode cX11_giveFibre 22 = .ok (.invokevirtual 93, 3) := by decide +kernel
theorem dX11_giveFibre_25 : decode cX11_giveFibre 25 = .ok (.iload_n 3, 1) := by decide +kernel
theorem dX11_giveFibre_26 : decode cX11_giveFibre 26 = .ok (.imul, 1) := by decide +kernel
theorem dX11_giveFibre_27 : decode cX11_giveFibre 27 = .ok (.iadd, 1) := by decide +kernel
theorem dX11_giveFibre_28 : decode cX11_giveFibre 28 = .ok (.iload 4, 2) := by decide +kernel
theorem dX11_giveFibre_30 : decode cX11_giveFibre 30 = .ok (.irem, 1) := by decide +kernel
theorem dX11_giveFibre_31 : decode cX11_giveFibre 31 = .ok (.ifCond .ne 42, 3) := by decide +kernel
theorem dX11_giveFibre_34 : decode cX11_giveFibre 34 = .ok (.iconst 0, 1) := by decide +kernel
theorem dX11_giveFibre_35 : decode cX11_giveFibre 35 = .ok (.istore 6, 2) := by decide +kernel
theorem dX11_giveFibre_37 : decode cX11_giveFibre 37 = .ok (.iload 6, 2) := by decide +kernel
theorem dX11_giveFibre_39 : decode cX11_giveFibre 39 = .ok (.iload 4, 2) := by decide +kernel
theorem dX11_giveFibre_41 : decode cX11_giveFibre 41 = .ok (.if_icmp .ge 32, 3) := by decide +kernel
theorem dX11_giveFibre_44 : decode cX11_giveFibre 44 = .ok (.aload_n 0, 1) := by decide +kernel
theorem dX11_giveFibre_45 : decode cX11_giveFibre 45 = .ok (.getfield 45, 3) := by decide +kernel
theorem dX11_giveFibre_48 : decode cX11_giveFibre 48 = .ok (.iload 6, 2) := by decide +kernel
theorem dX11_giveFibre_50 : decode cX11_giveFibre 50 = .ok (.iload 5, 2) := by decide +kernel
theorem dX11_giveFibre_52 : decode cX11_giveFibre 52 = .ok (.iadd, 1) := by decide +kernel
theorem dX11_giveFibre_53 : decode cX11_giveFibre 53 = .ok (.iload 4, 2) := by decide +kernel
theorem dX11_giveFibre_55 : decode cX11_giveFibre 55 = .ok (.irem, 1) := by decide +kernel
theorem dX11_giveFibre_56 : decode cX11_giveFibre 56 = .ok (.dup2, 1) := by decide +kernel
theorem dX11_giveFibre_57 : decode cX11_giveFibre 57 = .ok (.laload, 1) := by decide +kernel
theorem dX11_giveFibre_58 : decode cX11_giveFibre 58 = .ok (.aload_n 0, 1) := by decide +kernel
theorem dX11_giveFibre_59 : decode cX11_giveFibre 59 = .ok (.getfield 42, 3) := by decide +kernel
theorem dX11_giveFibre_62 : decode cX11_giveFibre 62 = .ok (.iload 6, 2) := by decide +kernel
theorem dX11_giveFibre_64 : decode cX11_giveFibre 64 = .ok (.laload, 1) := by decide +kernel
theorem dX11_giveFibre_65 : decode cX11_giveFibre 65 = .ok (.ladd, 1) := by decide +kernel
theorem dX11_giveFibre_66 : decode cX11_giveFibre 66 = .ok (.lastore, 1) := by decide +kernel
theorem dX11_giveFibre_67 : decode cX11_giveFibre 67 = .ok (.iinc 6 1, 3) := by decide +kernel
theorem dX11_giveFibre_70 : decode cX11_giveFibre 70 = .ok (.goto (-33), 3) := by decide +kernel
theorem dX11_giveFibre_73 : decode cX11_giveFibre 73 = .ok (.iinc 5 1, 3) := by decide +kernel
theorem dX11_giveFibre_76 : decode cX11_giveFibre 76 = .ok (.goto (-73), 3) := by decide +kernel
theorem dX11_giveFibre_79 : decode cX11_giveFibre 79 = .ok (.aload_n 0, 1) := by decide +kernel
theorem dX11_giveFibre_80 : decode cX11_giveFibre 80 = .ok (.iload 4, 2) := by decide +kernel
theorem dX11_giveFibre_82 : decode cX11_giveFibre 82 = .ok (.invokevirtual 261, 3) := by decide +kernel
theorem dX11_giveFibre_85 : decode cX11_giveFibre 85 = .ok (.return_, 1) := by decide +kernel
theorem dX11_giveTwice_0 : decode cX11_giveTwice 0 = .ok (.iconst 0, 1) := by decide +kernel
theorem dX11_giveTwice_1 : decode cX11_giveTwice 1 = .ok (.istore_n 2, 1) := by decide +kernel
theorem dX11_giveTwice_2 : decode cX11_giveTwice 2 = .ok (.iload_n 2, 1) := by decide +kernel
theorem dX11_giveTwice_3 : decode cX11_giveTwice 3 = .ok (.iload_n 1, 1) := by decide +kernel
theorem dX11_giveTwice_4 : decode cX11_giveTwice 4 = .ok (.if_icmp .ge 43, 3) := by decide +kernel
theorem dX11_giveTwice_7 : decode cX11_giveTwice 7 = .ok (.iconst 0, 1) := by decide +kernel
theorem dX11_giveTwice_8 : decode cX11_giveTwice 8 = .ok (.istore_n 3, 1) := by decide +kernel
theorem dX11_giveTwice_9 : decode cX11_giveTwice 9 = .ok (.iload_n 3, 1) := by decide +kernel
theorem dX11_giveTwice_10 : decode cX11_giveTwice 10 = .ok (.iload_n 1, 1) := by decide +kernel
theorem dX11_giveTwice_11 : decode cX11_giveTwice 11 = .ok (.if_icmp .ge 30, 3) := by decide +kernel
theorem dX11_giveTwice_14 : decode cX11_giveTwice 14 = .ok (.aload_n 0, 1) := by decide +kernel
theorem dX11_giveTwice_15 : decode cX11_giveTwice 15 = .ok (.getfield 45, 3) := by decide +kernel
theorem dX11_giveTwice_18 : decode cX11_giveTwice 18 = .ok (.iload_n 3, 1) := by decide +kernel
theorem dX11_giveTwice_19 : decode cX11_giveTwice 19 = .ok (.iconst 2, 1) := by decide +kernel
theorem dX11_giveTwice_20 : decode cX11_giveTwice 20 = .ok (.iload_n 2, 1) := by decide +kernel
theorem dX11_giveTwice_21 : decode cX11_giveTwice 21 = .ok (.imul, 1) := by decide +kernel
theorem dX11_giveTwice_22 : decode cX11_giveTwice 22 = .ok (.iadd, 1) := by decide +kernel
theorem dX11_giveTwice_23 : decode cX11_giveTwice 23 = .ok (.iload_n 1, 1) := by decide +kernel
theorem dX11_giveTwice_24 : decode cX11_giveTwice 24 = .ok (.irem, 1) := by decide +kernel
theorem dX11_giveTwice_25 : decode cX11_giveTwice 25 = .ok (.dup2, 1) := by decide +kernel
theorem dX11_giveTwice_26 : decode cX11_giveTwice 26 = .ok (.laload, 1) := by decide +kernel
theorem dX11_giveTwice_27 : decode cX11_giveTwice 27 = .ok (.aload_n 0, 1) := by decide +kernel
theorem dX11_giveTwice_28 : decode cX11_giveTwice 28 = .ok (.getfield 42, 3) := by decide +kernel
theorem dX11_giveTwice_31 : decode cX11_giveTwice 31 = .ok (.iload_n 3, 1) := by decide +kernel
theorem dX11_giveTwice_32 : decode cX11_giveTwice 32 = .ok (.laload, 1) := by decide +kernel
theorem dX11_giveTwice_33 : decode cX11_giveTwice 33 = .ok (.ladd, 1) := by decide +kernel
theorem dX11_giveTwice_34 : decode cX11_giveTwice 34 = .ok (.lastore, 1) := by decide +kernel
theorem dX11_giveTwice_35 : decode cX11_giveTwice 35 = .ok (.iinc 3 1, 3) := by decide +kernel
theorem dX11_giveTwice_38 : decode cX11_giveTwice 38 = .ok (.goto (-29), 3) := by decide +kernel
theorem dX11_giveTwice_41 : decode cX11_giveTwice 41 = .ok (.iinc 2 1, 3) := by decide +kernel
theorem dX11_giveTwice_44 : decode cX11_giveTwice 44 = .ok (.goto (-42), 3) := by decide +kernel
theorem dX11_giveTwice_47 : decode cX11_giveTwice 47 = .ok (.aload_n 0, 1) := by decide +kernel
theorem dX11_giveTwice_48 : decode cX11_giveTwice 48 = .ok (.iload_n 1, 1) := by decide +kernel
theorem dX11_giveTwice_49 : decode cX11_giveTwice 49 = .ok (.invokevirtual 261, 3) := by decide +kernel
theorem dX11_giveTwice_52 : decode cX11_giveTwice 52 = .ok (.return_, 1) := by decide +kernel
theorem dX11_times_0 : decode cX11_times 0 = .ok (.iload_n 0, 1) := by decide +kernel
theorem dX11_times_1 : decode cX11_times 1 = .ok (.iconst 3, 1) := by decide +kernel
theorem dX11_times_2 : decode cX11_times 2 = .ok (.if_icmp .ge 9, 3) := by decide +kernel
theorem dX11_times_5 : decode cX11_times 5 = .ok (.iload_n 0, 1) := by decide +kernel
theorem dX11_times_6 : decode cX11_times 6 = .ok (.iload_n 1, 1) := by decide +kernel
theorem dX11_times_7 : decode cX11_times 7 = .ok (.iadd, 1) := by decide +kernel
theorem dX11_times_8 : decode cX11_times 8 = .ok (.goto 9, 3) := by decide +kernel
theorem dX11_times_11 : decode cX11_times 11 = .ok (.iload_n 0, 1) := by decide +kernel
theorem dX11_times_12 : decode cX11_times 12 = .ok (.iload_n 1, 1) := by decide +kernel
theorem dX11_times_13 : decode cX11_times 13 = .ok (.isub, 1) := by decide +kernel
theorem dX11_times_14 : decode cX11_times 14 = .ok (.bipush 9, 2) := by decide +kernel
theorem dX11_times_16 : decode cX11_times 16 = .ok (.iadd, 1) := by decide +kernel
theorem dX11_times_17 : decode cX11_times 17 = .ok (.istore_n 2, 1) := by decide +kernel
theorem dX11_times_18 : decode cX11_times 18 = .ok (.iload_n 2, 1) := by decide +kernel
theorem dX11_times_19 : decode cX11_times 19 = .ok (.iconst 3, 1) := by decide +kernel
theorem dX11_times_20 : decode cX11_times 20 = .ok (.irem, 1) := by decide +kernel
theorem dX11_times_21 : decode cX11_times 21 = .ok (.iload_n 0, 1) := by decide +kernel
theorem dX11_times_22 : decode cX11_times 22 = .ok (.iconst 3, 1) := by decide +kernel
theorem dX11_times_23 : decode cX11_times 23 = .ok (.if_icmp .ge 7, 3) := by decide +kernel
theorem dX11_times_26 : decode cX11_times 26 = .ok (.iconst 1, 1) := by decide +kernel
theorem dX11_times_27 : decode cX11_times 27 = .ok (.goto 4, 3) := by decide +kernel
theorem dX11_times_30 : decode cX11_times 30 = .ok (.iconst 0, 1) := by decide +kernel
theorem dX11_times_31 : decode cX11_times 31 = .ok (.iload_n 1, 1) := by decide +kernel
theorem dX11_times_32 : decode cX11_times 32 = .ok (.iconst 3, 1) := by decide +kernel
theorem dX11_times_33 : decode cX11_times 33 = .ok (.if_icmp .ge 7, 3) := by decide +kernel
theorem dX11_times_36 : decode cX11_times 36 = .ok (.iconst 1, 1) := by decide +kernel
theorem dX11_times_37 : decode cX11_times 37 = .ok (.goto 4, 3) := by decide +kernel
theorem dX11_times_40 : decode cX11_times 40 = .ok (.iconst 0, 1) := by decide +kernel
theorem dX11_times_41 : decode cX11_times 41 = .ok (.if_icmp .ne 7, 3) := by decide +kernel
theorem dX11_times_44 : decode cX11_times 44 = .ok (.iconst 0, 1) := by decide +kernel
theorem dX11_times_45 : decode cX11_times 45 = .ok (.goto 4, 3) := by decide +kernel
theorem dX11_times_48 : decode cX11_times 48 = .ok (.iconst 3, 1) := by decide +kernel
theorem dX11_times_49 : decode cX11_times 49 = .ok (.iadd, 1) := by decide +kernel
theorem dX11_times_50 : decode cX11_times 50 = .ok (.ireturn, 1) := by decide +kernel
theorem dX11_inverted_0 : decode cX11_inverted 0 = .ok (.iload_n 0, 1) := by decide +kernel
theorem dX11_inverted_1 : decode cX11_inverted 1 = .ok (.iconst 3, 1) := by decide +kernel
theorem dX11_inverted_2 : decode cX11_inverted 2 = .ok (.if_icmp .ge 11, 3) := by decide +kernel
theorem dX11_inverted_5 : decode cX11_inverted 5 = .ok (.iconst 3, 1) := by decide +kernel
theorem dX11_inverted_6 : decode cX11_inverted 6 = .ok (.iload_n 0, 1) := by decide +kernel
theorem dX11_inverted_7 : decode cX11_inverted 7 = .ok (.isub, 1) := by decide +kernel
theorem dX11_inverted_8 : decode cX11_inverted 8 = .ok (.iconst 3, 1) := by decide +kernel
theorem dX11_inverted_9 : decode cX11_inverted 9 = .ok (.irem, 1) := by decide +kernel
theorem dX11_inverted_10 : decode cX11_inverted 10 = .ok (.goto 4, 3) := by decide +kernel
theorem dX11_inverted_13 : decode cX11_inverted 13 = .ok (.iload_n 0, 1) := by decide +kernel
theorem dX11_inverted_14 : decode cX11_inverted 14 = .ok (.ireturn, 1) := by decide +kernel
theorem dX11_power_0 : decode cX11_power 0 = .ok (.iconst 0, 1) := by decide +kernel
theorem dX11_power_1 : decode cX11_power 1 = .ok (.istore_n 2, 1) := by decide +kernel
theorem dX11_power_2 : decode cX11_power 2 = .ok (.iconst 0, 1) := by decide +kernel
theorem dX11_power_3 : decode cX11_power 3 = .ok (.istore_n 3, 1) := by decide +kernel
theorem dX11_power_4 : decode cX11_power 4 = .ok (.iload_n 3, 1) := by decide +kernel
theorem dX11_power_5 : decode cX11_power 5 = .ok (.iload_n 1, 1) := by decide +kernel
theorem dX11_power_6 : decode cX11_power 6 = .ok (.bipush 6, 2) := by decide +kernel
theorem dX11_power_8 : decode cX11_power 8 = .ok (.invokestatic 79, 3) := by decide +kernel
theorem dX11_power_11 : decode cX11_power 11 = .ok (.if_icmp .ge 15, 3) := by decide +kernel
theorem dX11_power_14 : decode cX11_power 14 = .ok (.iload_n 2, 1) := by decide +kernel
theorem dX11_power_15 : decode cX11_power 15 = .ok (.iload_n 0, 1) := by decide +kernel
theorem dX11_power_16 : decode cX11_power 16 = .ok (.invokestatic 264, 3) := by decide +kernel
theorem dX11_power_19 : decode cX11_power 19 = .ok (.istore_n 2, 1) := by decide +kernel
theorem dX11_power_20 : decode cX11_power 20 = .ok (.iinc 3 1, 3) := by decide +kernel
theorem dX11_power_23 : decode cX11_power 23 = .ok (.goto (-19), 3) := by decide +kernel
theorem dX11_power_26 : decode cX11_power 26 = .ok (.iload_n 2, 1) := by decide +kernel
theorem dX11_power_27 : decode cX11_power 27 = .ok (.ireturn, 1) := by decide +kernel
theorem dX11_commute_0 : decode cX11_commute 0 = .ok (.iload_n 0, 1) := by decide +kernel
theorem dX11_commute_1 : decode cX11_commute 1 = .ok (.iload_n 1, 1) := by decide +kernel
theorem dX11_commute_2 : decode cX11_commute 2 = .ok (.invokestatic 264, 3) := by decide +kernel
theorem dX11_commute_5 : decode cX11_commute 5 = .ok (.iload_n 1, 1) := by decide +kernel
theorem dX11_commute_6 : decode cX11_commute 6 = .ok (.iload_n 0, 1) := by decide +kernel
theorem dX11_commute_7 : decode cX11_commute 7 = .ok (.invokestatic 264, 3) := by decide +kernel
theorem dX11_commute_10 : decode cX11_commute 10 = .ok (.if_icmp .ne 7, 3) := by decide +kernel
theorem dX11_commute_13 : decode cX11_commute 13 = .ok (.iconst 1, 1) := by decide +kernel
theorem dX11_commute_14 : decode cX11_commute 14 = .ok (.goto 4, 3) := by decide +kernel
theorem dX11_commute_17 : decode cX11_commute 17 = .ok (.iconst 0, 1) := by decide +kernel
theorem dX11_commute_18 : decode cX11_commute 18 = .ok (.ireturn, 1) := by decide +kernel
theorem dX11_threes_0 : decode cX11_threes 0 = .ok (.iload_n 1, 1) := by decide +kernel
theorem dX11_threes_1 : decode cX11_threes 1 = .ok (.invokestatic 147, 3) := by decide +kernel
theorem dX11_threes_4 : decode cX11_threes 4 = .ok (.ifCond .ne 7, 3) := by decide +kernel
theorem dX11_threes_7 : decode cX11_threes 7 = .ok (.ldc2_w 229, 3) := by decide +kernel
theorem dX11_threes_10 : decode cX11_threes 10 = .ok (.lreturn, 1) := by decide +kernel
theorem dX11_threes_11 : decode cX11_threes 11 = .ok (.aload_n 0, 1) := by decide +kernel
theorem dX11_threes_12 : decode cX11_threes 12 = .ok (.getfield 7, 3) := by decide +kernel
theorem dX11_threes_15 : decode cX11_threes 15 = .ok (.bipush 16, 2) := by decide +kernel
theorem dX11_threes_17 : decode cX11_threes 17 = .ok (.iload_n 1, 1) := by decide +kernel
theorem dX11_threes_18 : decode cX11_threes 18 = .ok (.imul, 1) := by decide +kernel
theorem dX11_threes_19 : decode cX11_threes 19 = .ok (.iconst 0, 1) := by decide +kernel
theorem dX11_threes_20 : decode cX11_threes 20 = .ok (.iadd, 1) := by decide +kernel
theorem dX11_threes_21 : decode cX11_threes 21 = .ok (.iaload, 1) := by decide +kernel
theorem dX11_threes_22 : decode cX11_threes 22 = .ok (.istore_n 2, 1) := by decide +kernel
theorem dX11_threes_23 : decode cX11_threes 23 = .ok (.lconst 0, 1) := by decide +kernel
theorem dX11_threes_24 : decode cX11_threes 24 = .ok (.lstore_n 3, 1) := by decide +kernel
theorem dX11_threes_25 : decode cX11_threes 25 = .ok (.iconst 0, 1) := by decide +kernel
theorem dX11_threes_26 : decode cX11_threes 26 = .ok (.istore 5, 2) := by decide +kernel
theorem dX11_threes_28 : decode cX11_threes 28 = .ok (.iload 5, 2) := by decide +kernel
theorem dX11_threes_30 : decode cX11_threes 30 = .ok (.bipush 6, 2) := by decide +kernel
theorem dX11_threes_32 : decode cX11_threes 32 = .ok (.if_icmp .ge 175, 3) := by decide +kernel
theorem dX11_threes_35 : decode cX11_threes 35 = .ok (.aload_n 0, 1) := by decide +kernel
theorem dX11_threes_36 : decode cX11_threes 36 = .ok (.invokevirtual 251, 3) := by decide +kernel
theorem dX11_threes_39 : decode cX11_threes 39 = .ok (.iconst 0, 1) := by decide +kernel
theorem dX11_threes_40 : decode cX11_threes 40 = .ok (.istore 6, 2) := by decide +kernel
theorem dX11_threes_42 : decode cX11_threes 42 = .ok (.iload 6, 2) := by decide +kernel
theorem dX11_threes_44 : decode cX11_threes 44 = .ok (.aload_n 0, 1) := by decide +kernel
theorem dX11_threes_45 : decode cX11_threes 45 = .ok (.iload_n 1, 1) := by decide +kernel
theorem dX11_threes_46 : decode cX11_threes 46 = .ok (.invokevirtual 100, 3) := by decide +kernel
theorem dX11_threes_49 : decode cX11_threes 49 = .ok (.if_icmp .ge 78, 3) := by decide +kernel
theorem dX11_threes_52 : decode cX11_threes 52 = .ok (.iconst 0, 1) := by decide +kernel
theorem dX11_threes_53 : decode cX11_threes 53 = .ok (.istore 7, 2) := by decide +kernel
theorem dX11_threes_55 : decode cX11_threes 55 = .ok (.iload 7, 2) := by decide +kernel
theorem dX11_threes_57 : decode cX11_threes 57 = .ok (.bipush 6, 2) := by decide +kernel
theorem dX11_threes_59 : decode cX11_threes 59 = .ok (.if_icmp .ge 56, 3) := by decide +kernel
theorem dX11_threes_62 : decode cX11_threes 62 = .ok (.iload 7, 2) := by decide +kernel
theorem dX11_threes_64 : decode cX11_threes 64 = .ok (.iload 5, 2) := by decide +kernel
theorem dX11_threes_66 : decode cX11_threes 66 = .ok (.invokestatic 267, 3) := by decide +kernel
theorem dX11_threes_69 : decode cX11_threes 69 = .ok (.ifCond .eq 40, 3) := by decide +kernel
theorem dX11_threes_72 : decode cX11_threes 72 = .ok (.iload 7, 2) := by decide +kernel
theorem dX11_threes_74 : decode cX11_threes 74 = .ok (.aload_n 0, 1) := by decide +kernel
theorem dX11_threes_75 : decode cX11_threes 75 = .ok (.iload_n 1, 1) := by decide +kernel
theorem dX11_threes_76 : decode cX11_threes 76 = .ok (.iload 6, 2) := by decide +kernel
theorem dX11_threes_78 : decode cX11_threes 78 = .ok (.invokevirtual 90, 3) := by decide +kernel
theorem dX11_threes_81 : decode cX11_threes 81 = .ok (.invokestatic 270, 3) := by decide +kernel
theorem dX11_threes_84 : decode cX11_threes 84 = .ok (.iload 5, 2) := by decide +kernel
theorem dX11_threes_86 : decode cX11_threes 86 = .ok (.aload_n 0, 1) := by decide +kernel
theorem dX11_threes_87 : decode cX11_threes 87 = .ok (.iload_n 1, 1) := by decide +kernel
theorem dX11_threes_88 : decode cX11_threes 88 = .ok (.iload 6, 2) := by decide +kernel
theorem dX11_threes_90 : decode cX11_threes 90 = .ok (.invokevirtual 93, 3) := by decide +kernel
theorem dX11_threes_93 : decode cX11_threes 93 = .ok (.invokestatic 270, 3) := by decide +kernel
theorem dX11_threes_96 : decode cX11_threes 96 = .ok (.invokestatic 264, 3) := by decide +kernel
theorem dX11_threes_99 : decode cX11_threes 99 = .ok (.ifCond .ne 10, 3) := by decide +kernel
theorem dX11_threes_102 : decode cX11_threes 102 = .ok (.aload_n 0, 1) := by decide +kernel
theorem dX11_threes_103 : decode cX11_threes 103 = .ok (.iload 7, 2) := by decide +kernel
theorem dX11_threes_105 : decode cX11_threes 105 = .ok (.lconst 1, 1) := by decide +kernel
theorem dX11_threes_106 : decode cX11_threes 106 = .ok (.invokevirtual 273, 3) := by decide +kernel
theorem dX11_threes_109 : decode cX11_threes 109 = .ok (.iinc 7 1, 3) := by decide +kernel
theorem dX11_threes_112 : decode cX11_threes 112 = .ok (.goto (-57), 3) := by decide +kernel
theorem dX11_threes_115 : decode cX11_threes 115 = .ok (.aload_n 0, 1) := by decide +kernel
theorem dX11_threes_116 : decode cX11_threes 116 = .ok (.bipush 6, 2) := by decide +kernel
theorem dX11_threes_118 : decode cX11_threes 118 = .ok (.invokevirtual 261, 3) := by decide +kernel
theorem dX11_threes_121 : decode cX11_threes 121 = .ok (.iinc 6 1, 3) := by decide +kernel
theorem dX11_threes_124 : decode cX11_threes 124 = .ok (.goto (-82), 3) := by decide +kernel
theorem dX11_threes_127 : decode cX11_threes 127 = .ok (.iconst 0, 1) := by decide +kernel
theorem dX11_threes_128 : decode cX11_threes 128 = .ok (.istore 6, 2) := by decide +kernel
theorem dX11_threes_130 : decode cX11_threes 130 = .ok (.iload 6, 2) := by decide +kernel
theorem dX11_threes_132 : decode cX11_threes 132 = .ok (.aload_n 0, 1) := by decide +kernel
theorem dX11_threes_133 : decode cX11_threes 133 = .ok (.getfield 7, 3) := by decide +kernel
theorem dX11_threes_136 : decode cX11_threes 136 = .ok (.bipush 16, 2) := by decide +kernel
theorem dX11_threes_138 : decode cX11_threes 138 = .ok (.iload_n 1, 1) := by decide +kernel
theorem dX11_threes_139 : decode cX11_threes 139 = .ok (.imul, 1) := by decide +kernel
theorem dX11_threes_140 : decode cX11_threes 140 = .ok (.iconst 1, 1) := by decide +kernel
theorem dX11_threes_141 : decode cX11_threes 141 = .ok (.iadd, 1) := by decide +kernel
theorem dX11_threes_142 : decode cX11_threes 142 = .ok (.iaload, 1) := by decide +kernel
theorem dX11_threes_143 : decode cX11_threes 143 = .ok (.if_icmp .ge 34, 3) := by decide +kernel
theorem dX11_threes_146 : decode cX11_threes 146 = .ok (.iload_n 2, 1) := by decide +kernel
theorem dX11_threes_147 : decode cX11_threes 147 = .ok (.ifCond .ne 12, 3) := by decide +kernel
theorem dX11_threes_150 : decode cX11_threes 150 = .ok (.aload_n 0, 1) := by decide +kernel
theorem dX11_threes_151 : decode cX11_threes 151 = .ok (.iload 5, 2) := by decide +kernel
theorem dX11_threes_153 : decode cX11_threes 153 = .ok (.invokevirtual 277, 3) := by decide +kernel
theorem dX11_threes_156 : decode cX11_threes 156 = .ok (.goto 9, 3) := by decide +kernel
theorem dX11_threes_159 : decode cX11_threes 159 = .ok (.aload_n 0, 1) := by decide +kernel
theorem dX11_threes_160 : decode cX11_threes 160 = .ok (.iload 5, 2) := by decide +kernel
theorem dX11_threes_162 : decode cX11_threes 162 = .ok (.invokevirtual 280, 3) := by decide +kernel
theorem dX11_threes_165 : decode cX11_threes 165 = .ok (.aload_n 0, 1) := by decide +kernel
theorem dX11_threes_166 : decode cX11_threes 166 = .ok (.bipush 6, 2) := by decide +kernel
theorem dX11_threes_168 : decode cX11_threes 168 = .ok (.invokevirtual 261, 3) := by decide +kernel
theorem dX11_threes_171 : decode cX11_threes 171 = .ok (.iinc 6 1, 3) := by decide +kernel
theorem dX11_threes_174 : decode cX11_threes 174 = .ok (.goto (-44), 3) := by decide +kernel
theorem dX11_threes_177 : decode cX11_threes 177 = .ok (.lload_n 3, 1) := by decide +kernel
theorem dX11_threes_178 : decode cX11_threes 178 = .ok (.aload_n 0, 1) := by decide +kernel
theorem dX11_threes_179 : decode cX11_threes 179 = .ok (.getfield 42, 3) := by decide +kernel
theorem dX11_threes_182 : decode cX11_threes 182 = .ok (.iload 5, 2) := by decide +kernel
theorem dX11_threes_184 : decode cX11_threes 184 = .ok (.aload_n 0, 1) := by decide +kernel
theorem dX11_threes_185 : decode cX11_threes 185 = .ok (.getfield 7, 3) := by decide +kernel
theorem dX11_threes_188 : decode cX11_threes 188 = .ok (.bipush 16, 2) := by decide +kernel
theorem dX11_threes_190 : decode cX11_threes 190 = .ok (.iload_n 1, 1) := by decide +kernel
theorem dX11_threes_191 : decode cX11_threes 191 = .ok (.imul, 1) := by decide +kernel
theorem dX11_threes_192 : decode cX11_threes 192 = .ok (.iconst 2, 1) := by decide +kernel
theorem dX11_threes_193 : decode cX11_threes 193 = .ok (.iadd, 1) := by decide +kernel
theorem dX11_threes_194 : decode cX11_threes 194 = .ok (.iaload, 1) := by decide +kernel
theorem dX11_threes_195 : decode cX11_threes 195 = .ok (.invokestatic 270, 3) := by decide +kernel
theorem dX11_threes_198 : decode cX11_threes 198 = .ok (.laload, 1) := by decide +kernel
theorem dX11_threes_199 : decode cX11_threes 199 = .ok (.ladd, 1) := by decide +kernel
theorem dX11_threes_200 : decode cX11_threes 200 = .ok (.lstore_n 3, 1) := by decide +kernel
theorem dX11_threes_201 : decode cX11_threes 201 = .ok (.iinc 5 1, 3) := by decide +kernel
theorem dX11_threes_204 : decode cX11_threes 204 = .ok (.goto (-176), 3) := by decide +kernel
theorem dX11_threes_207 : decode cX11_threes 207 = .ok (.lload_n 3, 1) := by decide +kernel
theorem dX11_threes_208 : decode cX11_threes 208 = .ok (.lreturn, 1) := by decide +kernel
theorem dX11_give_0 : decode cX11_give 0 = .ok (.iconst 0, 1) := by decide +kernel
theorem dX11_give_1 : decode cX11_give 1 = .ok (.istore 4, 2) := by decide +kernel
theorem dX11_give_3 : decode cX11_give 3 = .ok (.iload 4, 2) := by decide +kernel
theorem dX11_give_5 : decode cX11_give 5 = .ok (.bipush 6, 2) := by decide +kernel
theorem dX11_give_7 : decode cX11_give 7 = .ok (.if_icmp .ge 32, 3) := by decide +kernel
theorem dX11_give_10 : decode cX11_give 10 = .ok (.aload_n 0, 1) := by decide +kernel
theorem dX11_give_11 : decode cX11_give 11 = .ok (.getfield 45, 3) := by decide +kernel
theorem dX11_give_14 : decode cX11_give 14 = .ok (.iload 4, 2) := by decide +kernel
theorem dX11_give_16 : decode cX11_give 16 = .ok (.iload_n 1, 1) := by decide +kernel
theorem dX11_give_17 : decode cX11_give 17 = .ok (.invokestatic 264, 3) := by decide +kernel
theorem dX11_give_20 : decode cX11_give 20 = .ok (.dup2, 1) := by decide +kernel
theorem dX11_give_21 : decode cX11_give 21 = .ok (.laload, 1) := by decide +kernel
theorem dX11_give_22 : decode cX11_give 22 = .ok (.aload_n 0, 1) := by decide +kernel
theorem dX11_give_23 : decode cX11_give 23 = .ok (.getfield 42, 3) := by decide +kernel
theorem dX11_give_26 : decode cX11_give 26 = .ok (.iload 4, 2) := by decide +kernel
theorem dX11_give_28 : decode cX11_give 28 = .ok (.laload, 1) := by decide +kernel
theorem dX11_give_29 : decode cX11_give 29 = .ok (.lload_n 2, 1) := by decide +kernel
theorem dX11_give_30 : decode cX11_give 30 = .ok (.lmul, 1) := by decide +kernel
theorem dX11_give_31 : decode cX11_give 31 = .ok (.ladd, 1) := by decide +kernel
theorem dX11_give_32 : decode cX11_give 32 = .ok (.lastore, 1) := by decide +kernel
theorem dX11_give_33 : decode cX11_give 33 = .ok (.iinc 4 1, 3) := by decide +kernel
theorem dX11_give_36 : decode cX11_give 36 = .ok (.goto (-33), 3) := by decide +kernel
theorem dX11_give_39 : decode cX11_give 39 = .ok (.return_, 1) := by decide +kernel
theorem dX11_giveTwo_0 : decode cX11_giveTwo 0 = .ok (.iconst 0, 1) := by decide +kernel
theorem dX11_giveTwo_1 : decode cX11_giveTwo 1 = .ok (.istore_n 2, 1) := by decide +kernel
theorem dX11_giveTwo_2 : decode cX11_giveTwo 2 = .ok (.iload_n 2, 1) := by decide +kernel
theorem dX11_giveTwo_3 : decode cX11_giveTwo 3 = .ok (.bipush 6, 2) := by decide +kernel
theorem dX11_giveTwo_5 : decode cX11_giveTwo 5 = .ok (.if_icmp .ge 63, 3) := by decide +kernel
theorem dX11_giveTwo_8 : decode cX11_giveTwo 8 = .ok (.iconst 0, 1) := by decide +kernel
theorem dX11_giveTwo_9 : decode cX11_giveTwo 9 = .ok (.istore_n 3, 1) := by decide +kernel
theorem dX11_giveTwo_10 : decode cX11_giveTwo 10 = .ok (.iload_n 3, 1) := by decide +kernel
theorem dX11_giveTwo_11 : decode cX11_giveTwo 11 = .ok (.bipush 6, 2) := by decide +kernel
theorem dX11_giveTwo_13 : decode cX11_giveTwo 13 = .ok (.if_icmp .ge 49, 3) := by decide +kernel
theorem dX11_giveTwo_16 : decode cX11_giveTwo 16 = .ok (.iload_n 2, 1) := by decide +kernel
theorem dX11_giveTwo_17 : decode cX11_giveTwo 17 = .ok (.iload_n 1, 1) := by decide +kernel
theorem dX11_giveTwo_18 : decode cX11_giveTwo 18 = .ok (.invokestatic 267, 3) := by decide +kernel
theorem dX11_giveTwo_21 : decode cX11_giveTwo 21 = .ok (.ifCond .eq 35, 3) := by decide +kernel
theorem dX11_giveTwo_24 : decode cX11_giveTwo 24 = .ok (.iload_n 3, 1) := by decide +kernel
theorem dX11_giveTwo_25 : decode cX11_giveTwo 25 = .ok (.iload_n 1, 1) := by decide +kernel
theorem dX11_giveTwo_26 : decode cX11_giveTwo 26 = .ok (.invokestatic 267, 3) := by decide +kernel
theorem dX11_giveTwo_29 : decode cX11_giveTwo 29 = .ok (.ifCond .eq 27, 3) := by decide +kernel
theorem dX11_giveTwo_32 : decode cX11_giveTwo 32 = .ok (.aload_n 0, 1) := by decide +kernel
theorem dX11_giveTwo_33 : decode cX11_giveTwo 33 = .ok (.iload_n 2, 1) := by decide +kernel
theorem dX11_giveTwo_34 : decode cX11_giveTwo 34 = .ok (.iload_n 3, 1) := by decide +kernel
theorem dX11_giveTwo_35 : decode cX11_giveTwo 35 = .ok (.invokestatic 264, 3) := by decide +kernel
theorem dX11_giveTwo_38 : decode cX11_giveTwo 38 = .ok (.iload_n 2, 1) := by decide +kernel
theorem dX11_giveTwo_39 : decode cX11_giveTwo 39 = .ok (.invokestatic 283, 3) := by decide +kernel
theorem dX11_giveTwo_42 : decode cX11_giveTwo 42 = .ok (.iload_n 3, 1) := by decide +kernel
theorem dX11_giveTwo_43 : decode cX11_giveTwo 43 = .ok (.invokestatic 283, 3) := by decide +kernel
theorem dX11_giveTwo_46 : decode cX11_giveTwo 46 = .ok (.invokestatic 264, 3) := by decide +kernel
theorem dX11_giveTwo_49 : decode cX11_giveTwo 49 = .ok (.invokestatic 264, 3) := by decide +kernel
theorem dX11_giveTwo_52 : decode cX11_giveTwo 52 = .ok (.lconst 1, 1) := by decide +kernel
theorem dX11_giveTwo_53 : decode cX11_giveTwo 53 = .ok (.invokevirtual 273, 3) := by decide +kernel
theorem dX11_giveTwo_56 : decode cX11_giveTwo 56 = .ok (.iinc 3 1, 3) := by decide +kernel
theorem dX11_giveTwo_59 : decode cX11_giveTwo 59 = .ok (.goto (-49), 3) := by decide +kernel
theorem dX11_giveTwo_62 : decode cX11_giveTwo 62 = .ok (.iinc 2 1, 3) := by decide +kernel
theorem dX11_giveTwo_65 : decode cX11_giveTwo 65 = .ok (.goto (-63), 3) := by decide +kernel
theorem dX11_giveTwo_68 : decode cX11_giveTwo 68 = .ok (.return_, 1) := by decide +kernel
theorem dX11_giveOne_0 : decode cX11_giveOne 0 = .ok (.iconst 0, 1) := by decide +kernel
theorem dX11_giveOne_1 : decode cX11_giveOne 1 = .ok (.istore_n 2, 1) := by decide +kernel
theorem dX11_giveOne_2 : decode cX11_giveOne 2 = .ok (.iload_n 2, 1) := by decide +kernel
theorem dX11_giveOne_3 : decode cX11_giveOne 3 = .ok (.bipush 6, 2) := by decide +kernel
theorem dX11_giveOne_5 : decode cX11_giveOne 5 = .ok (.if_icmp .ge 35, 3) := by decide +kernel
theorem dX11_giveOne_8 : decode cX11_giveOne 8 = .ok (.iload_n 2, 1) := by decide +kernel
theorem dX11_giveOne_9 : decode cX11_giveOne 9 = .ok (.iload_n 1, 1) := by decide +kernel
theorem dX11_giveOne_10 : decode cX11_giveOne 10 = .ok (.invokestatic 264, 3) := by decide +kernel
theorem dX11_giveOne_13 : decode cX11_giveOne 13 = .ok (.iload_n 1, 1) := by decide +kernel
theorem dX11_giveOne_14 : decode cX11_giveOne 14 = .ok (.invokestatic 283, 3) := by decide +kernel
theorem dX11_giveOne_17 : decode cX11_giveOne 17 = .ok (.iload_n 2, 1) := by decide +kernel
theorem dX11_giveOne_18 : decode cX11_giveOne 18 = .ok (.invokestatic 264, 3) := by decide +kernel
theorem dX11_giveOne_21 : decode cX11_giveOne 21 = .ok (.if_icmp .ne 13, 3) := by decide +kernel
theorem dX11_giveOne_24 : decode cX11_giveOne 24 = .ok (.aload_n 0, 1) := by decide +kernel
theorem dX11_giveOne_25 : decode cX11_giveOne 25 = .ok (.iload_n 2, 1) := by decide +kernel
theorem dX11_giveOne_26 : decode cX11_giveOne 26 = .ok (.iload_n 2, 1) := by decide +kernel
theorem dX11_giveOne_27 : decode cX11_giveOne 27 = .ok (.invokestatic 264, 3) := by decide +kernel
theorem dX11_giveOne_30 : decode cX11_giveOne 30 = .ok (.lconst 1, 1) := by decide +kernel
theorem dX11_giveOne_31 : decode cX11_giveOne 31 = .ok (.invokevirtual 273, 3) := by decide +kernel
theorem dX11_giveOne_34 : decode cX11_giveOne 34 = .ok (.iinc 2 1, 3) := by decide +kernel
theorem dX11_giveOne_37 : decode cX11_giveOne 37 = .ok (.goto (-35), 3) := by decide +kernel
theorem dX11_giveOne_40 : decode cX11_giveOne 40 = .ok (.return_, 1) := by decide +kernel
theorem dX11_rest_0 : decode cX11_rest 0 = .ok (.lload_n 0, 1) := by decide +kernel
theorem dX11_rest_1 : decode cX11_rest 1 = .ok (.lload_n 2, 1) := by decide +kernel
theorem dX11_rest_2 : decode cX11_rest 2 = .ok (.lrem, 1) := by decide +kernel
theorem dX11_rest_3 : decode cX11_rest 3 = .ok (.lstore 4, 2) := by decide +kernel
theorem dX11_rest_5 : decode cX11_rest 5 = .ok (.lload 4, 2) := by decide +kernel
theorem dX11_rest_7 : decode cX11_rest 7 = .ok (.lconst 0, 1) := by decide +kernel
theorem dX11_rest_8 : decode cX11_rest 8 = .ok (.lcmp, 1) := by decide +kernel
theorem dX11_rest_9 : decode cX11_rest 9 = .ok (.ifCond .ge 10, 3) := by decide +kernel
theorem dX11_rest_12 : decode cX11_rest 12 = .ok (.lload 4, 2) := by decide +kernel
theorem dX11_rest_14 : decode cX11_rest 14 = .ok (.lload_n 2, 1) := by decide +kernel
theorem dX11_rest_15 : decode cX11_rest 15 = .ok (.ladd, 1) := by decide +kernel
theorem dX11_rest_16 : decode cX11_rest 16 = .ok (.goto 5, 3) := by decide +kernel
theorem dX11_rest_19 : decode cX11_rest 19 = .ok (.lload 4, 2) := by decide +kernel
theorem dX11_rest_21 : decode cX11_rest 21 = .ok (.lreturn, 1) := by decide +kernel
theorem dX11_inverseOver_0 : decode cX11_inverseOver 0 = .ok (.lload_n 2, 1) := by decide +kernel
theorem dX11_inverseOver_1 : decode cX11_inverseOver 1 = .ok (.lstore 4, 2) := by decide +kernel
theorem dX11_inverseOver_3 : decode cX11_inverseOver 3 = .ok (.lload_n 0, 1) := by decide +kernel
theorem dX11_inverseOver_4 : decode cX11_inverseOver 4 = .ok (.lstore 6, 2) := by decide +kernel
theorem dX11_inverseOver_6 : decode cX11_inverseOver 6 = .ok (.lconst 0, 1) := by decide +kernel
theorem dX11_inverseOver_7 : decode cX11_inverseOver 7 = .ok (.lstore 8, 2) := by decide +kernel
theorem dX11_inverseOver_9 : decode cX11_inverseOver 9 = .ok (.lconst 1, 1) := by decide +kernel
theorem dX11_inverseOver_10 : decode cX11_inverseOver 10 = .ok (.lstore 10, 2) := by decide +kernel
theorem dX11_inverseOver_12 : decode cX11_inverseOver 12 = .ok (.lload 6, 2) := by decide +kernel
theorem dX11_inverseOver_14 : decode cX11_inverseOver 14 = .ok (.lconst 0, 1) := by decide +kernel
theorem dX11_inverseOver_15 : decode cX11_inverseOver 15 = .ok (.lcmp, 1) := by decide +kernel
theorem dX11_inverseOver_16 : decode cX11_inverseOver 16 = .ok (.ifCond .eq 49, 3) := by decide +kernel
theorem dX11_inverseOver_19 : decode cX11_inverseOver 19 = .ok (.lload 4, 2) := by decide +kernel
theorem dX11_inverseOver_21 : decode cX11_inverseOver 21 = .ok (.lload 6, 2) := by decide +kernel
theorem dX11_inverseOver_23 : decode cX11_inverseOver 23 = .ok (.ldiv, 1) := by decide +kernel
theorem dX11_inverseOver_24 : decode cX11_inverseOver 24 = .ok (.lstore 12, 2) := by decide +kernel
theorem dX11_inverseOver_26 : decode cX11_inverseOver 26 = .ok (.lload 4, 2) := by decide +kernel
theorem dX11_inverseOver_28 : decode cX11_inverseOver 28 = .ok (.lload 12, 2) := by decide +kernel
theorem dX11_inverseOver_30 : decode cX11_inverseOver 30 = .ok (.lload 6, 2) := by decide +kernel
theorem dX11_inverseOver_32 : decode cX11_inverseOver 32 = .ok (.lmul, 1) := by decide +kernel
theorem dX11_inverseOver_33 : decode cX11_inverseOver 33 = .ok (.lsub, 1) := by decide +kernel
theorem dX11_inverseOver_34 : decode cX11_inverseOver 34 = .ok (.lstore 14, 2) := by decide +kernel
theorem dX11_inverseOver_36 : decode cX11_inverseOver 36 = .ok (.lload 6, 2) := by decide +kernel
theorem dX11_inverseOver_38 : decode cX11_inverseOver 38 = .ok (.lstore 4, 2) := by decide +kernel
theorem dX11_inverseOver_40 : decode cX11_inverseOver 40 = .ok (.lload 14, 2) := by decide +kernel
theorem dX11_inverseOver_42 : decode cX11_inverseOver 42 = .ok (.lstore 6, 2) := by decide +kernel
theorem dX11_inverseOver_44 : decode cX11_inverseOver 44 = .ok (.lload 8, 2) := by decide +kernel
theorem dX11_inverseOver_46 : decode cX11_inverseOver 46 = .ok (.lload 12, 2) := by decide +kernel
theorem dX11_inverseOver_48 : decode cX11_inverseOver 48 = .ok (.lload 10, 2) := by decide +kernel
theorem dX11_inverseOver_50 : decode cX11_inverseOver 50 = .ok (.lmul, 1) := by decide +kernel
theorem dX11_inverseOver_51 : decode cX11_inverseOver 51 = .ok (.lsub, 1) := by decide +kernel
theorem dX11_inverseOver_52 : decode cX11_inverseOver 52 = .ok (.lstore 14, 2) := by decide +kernel
theorem dX11_inverseOver_54 : decode cX11_inverseOver 54 = .ok (.lload 10, 2) := by decide +kernel
theorem dX11_inverseOver_56 : decode cX11_inverseOver 56 = .ok (.lstore 8, 2) := by decide +kernel
theorem dX11_inverseOver_58 : decode cX11_inverseOver 58 = .ok (.lload 14, 2) := by decide +kernel
theorem dX11_inverseOver_60 : decode cX11_inverseOver 60 = .ok (.lstore 10, 2) := by decide +kernel
theorem dX11_inverseOver_62 : decode cX11_inverseOver 62 = .ok (.goto (-50), 3) := by decide +kernel
theorem dX11_inverseOver_65 : decode cX11_inverseOver 65 = .ok (.lload 8, 2) := by decide +kernel
theorem dX11_inverseOver_67 : decode cX11_inverseOver 67 = .ok (.lload_n 2, 1) := by decide +kernel
theorem dX11_inverseOver_68 : decode cX11_inverseOver 68 = .ok (.invokestatic 286, 3) := by decide +kernel
theorem dX11_inverseOver_71 : decode cX11_inverseOver 71 = .ok (.lreturn, 1) := by decide +kernel
theorem dX11_findLens_0 : decode cX11_findLens 0 = .ok (.lconst 1, 1) := by decide +kernel
theorem dX11_findLens_1 : decode cX11_findLens 1 = .ok (.lstore_n 2, 1) := by decide +kernel
theorem dX11_findLens_2 : decode cX11_findLens 2 = .ok (.aload_n 0, 1) := by decide +kernel
theorem dX11_findLens_3 : decode cX11_findLens 3 = .ok (.getfield 7, 3) := by decide +kernel
theorem dX11_findLens_6 : decode cX11_findLens 6 = .ok (.bipush 16, 2) := by decide +kernel
theorem dX11_findLens_8 : decode cX11_findLens 8 = .ok (.iload_n 1, 1) := by decide +kernel
theorem dX11_findLens_9 : decode cX11_findLens 9 = .ok (.imul, 1) := by decide +kernel
theorem dX11_findLens_10 : decode cX11_findLens 10 = .ok (.iconst 2, 1) := by decide +kernel
theorem dX11_findLens_11 : decode cX11_findLens 11 = .ok (.iadd, 1) := by decide +kernel
theorem dX11_findLens_12 : decode cX11_findLens 12 = .ok (.iaload, 1) := by decide +kernel
theorem dX11_findLens_13 : decode cX11_findLens 13 = .ok (.i2l, 1) := by decide +kernel
theorem dX11_findLens_14 : decode cX11_findLens 14 = .ok (.lstore 4, 2) := by decide +kernel
theorem dX11_findLens_16 : decode cX11_findLens 16 = .ok (.lconst 1, 1) := by decide +kernel
theorem dX11_findLens_17 : decode cX11_findLens 17 = .ok (.lstore 6, 2) := by decide +kernel
theorem dX11_findLens_19 : decode cX11_findLens 19 = .ok (.lconst 0, 1) := by decide +kernel
theorem dX11_findLens_20 : decode cX11_findLens 20 = .ok (.lstore 8, 2) := by decide +kernel
theorem dX11_findLens_22 : decode cX11_findLens 22 = .ok (.aload_n 0, 1) := by decide +kernel
theorem dX11_findLens_23 : decode cX11_findLens 23 = .ok (.iload_n 1, 1) := by decide +kernel
theorem dX11_findLens_24 : decode cX11_findLens 24 = .ok (.invokevirtual 100, 3) := by decide +kernel
theorem dX11_findLens_27 : decode cX11_findLens 27 = .ok (.ifCond .le 35, 3) := by decide +kernel
theorem dX11_findLens_30 : decode cX11_findLens 30 = .ok (.aload_n 0, 1) := by decide +kernel
theorem dX11_findLens_31 : decode cX11_findLens 31 = .ok (.iload_n 1, 1) := by decide +kernel
theorem dX11_findLens_32 : decode cX11_findLens 32 = .ok (.iconst 0, 1) := by decide +kernel
theorem dX11_findLens_33 : decode cX11_findLens 33 = .ok (.invokevirtual 90, 3) := by decide +kernel
theorem dX11_findLens_36 : decode cX11_findLens 36 = .ok (.i2l, 1) := by decide +kernel
theorem dX11_findLens_37 : decode cX11_findLens 37 = .ok (.lstore_n 2, 1) := by decide +kernel
theorem dX11_findLens_38 : decode cX11_findLens 38 = .ok (.aload_n 0, 1) := by decide +kernel
theorem dX11_findLens_39 : decode cX11_findLens 39 = .ok (.iload_n 1, 1) := by decide +kernel
theorem dX11_findLens_40 : decode cX11_findLens 40 = .ok (.iconst 0, 1) := by decide +kernel
theorem dX11_findLens_41 : decode cX11_findLens 41 = .ok (.invokevirtual 93, 3) := by decide +kernel
theorem dX11_findLens_44 : decode cX11_findLens 44 = .ok (.i2l, 1) := by decide +kernel
theorem dX11_findLens_45 : decode cX11_findLens 45 = .ok (.lload_n 2, 1) := by decide +kernel
theorem dX11_findLens_46 : decode cX11_findLens 46 = .ok (.aload_n 0, 1) := by decide +kernel
theorem dX11_findLens_47 : decode cX11_findLens 47 = .ok (.getfield 7, 3) := by decide +kernel
theorem dX11_findLens_50 : decode cX11_findLens 50 = .ok (.bipush 16, 2) := by decide +kernel
theorem dX11_findLens_52 : decode cX11_findLens 52 = .ok (.iload_n 1, 1) := by decide +kernel
theorem dX11_findLens_53 : decode cX11_findLens 53 = .ok (.imul, 1) := by decide +kernel
theorem dX11_findLens_54 : decode cX11_findLens 54 = .ok (.iconst 2, 1) := by decide +kernel
theorem dX11_findLens_55 : decode cX11_findLens 55 = .ok (.iadd, 1) := by decide +kernel
theorem dX11_findLens_56 : decode cX11_findLens 56 = .ok (.iaload, 1) := by decide +kernel
theorem dX11_findLens_57 : decode cX11_findLens 57 = .ok (.i2l, 1) := by decide +kernel
theorem dX11_findLens_58 : decode cX11_findLens 58 = .ok (.lmul, 1) := by decide +kernel
theorem dX11_findLens_59 : decode cX11_findLens 59 = .ok (.ladd, 1) := by decide +kernel
theorem dX11_findLens_60 : decode cX11_findLens 60 = .ok (.lstore 4, 2) := by decide +kernel
theorem dX11_findLens_62 : decode cX11_findLens 62 = .ok (.aload_n 0, 1) := by decide +kernel
theorem dX11_findLens_63 : decode cX11_findLens 63 = .ok (.iload_n 1, 1) := by decide +kernel
theorem dX11_findLens_64 : decode cX11_findLens 64 = .ok (.invokevirtual 100, 3) := by decide +kernel
theorem dX11_findLens_67 : decode cX11_findLens 67 = .ok (.iconst 1, 1) := by decide +kernel
theorem dX11_findLens_68 : decode cX11_findLens 68 = .ok (.if_icmp .le 21, 3) := by decide +kernel
theorem dX11_findLens_71 : decode cX11_findLens 71 = .ok (.aload_n 0, 1) := by decide +kernel
theorem dX11_findLens_72 : decode cX11_findLens 72 = .ok (.iload_n 1, 1) := by decide +kernel
theorem dX11_findLens_73 : decode cX11_findLens 73 = .ok (.iconst 1, 1) := by decide +kernel
theorem dX11_findLens_74 : decode cX11_findLens 74 = .ok (.invokevirtual 90, 3) := by decide +kernel
theorem dX11_findLens_77 : decode cX11_findLens 77 = .ok (.i2l, 1) := by decide +kernel
theorem dX11_findLens_78 : decode cX11_findLens 78 = .ok (.lstore 6, 2) := by decide +kernel
theorem dX11_findLens_80 : decode cX11_findLens 80 = .ok (.aload_n 0, 1) := by decide +kernel
theorem dX11_findLens_81 : decode cX11_findLens 81 = .ok (.iload_n 1, 1) := by decide +kernel
theorem dX11_findLens_82 : decode cX11_findLens 82 = .ok (.iconst 1, 1) := by decide +kernel
theorem dX11_findLens_83 : decode cX11_findLens 83 = .ok (.invokevirtual 93, 3) := by decide +kernel
theorem dX11_findLens_86 : decode cX11_findLens 86 = .ok (.i2l, 1) := by decide +kernel
theorem dX11_findLens_87 : decode cX11_findLens 87 = .ok (.lstore 8, 2) := by decide +kernel
theorem dX11_findLens_89 : decode cX11_findLens 89 = .ok (.aload_n 0, 1) := by decide +kernel
theorem dX11_findLens_90 : decode cX11_findLens 90 = .ok (.lload_n 2, 1) := by decide +kernel
theorem dX11_findLens_91 : decode cX11_findLens 91 = .ok (.lload 8, 2) := by decide +kernel
theorem dX11_findLens_93 : decode cX11_findLens 93 = .ok (.lmul, 1) := by decide +kernel
theorem dX11_findLens_94 : decode cX11_findLens 94 = .ok (.lload 4, 2) := by decide +kernel
theorem dX11_findLens_96 : decode cX11_findLens 96 = .ok (.lload 6, 2) := by decide +kernel
theorem dX11_findLens_98 : decode cX11_findLens 98 = .ok (.lmul, 1) := by decide +kernel
theorem dX11_findLens_99 : decode cX11_findLens 99 = .ok (.ladd, 1) := by decide +kernel
theorem dX11_findLens_100 : decode cX11_findLens 100 = .ok (.putfield 289, 3) := by decide +kernel
theorem dX11_findLens_103 : decode cX11_findLens 103 = .ok (.aload_n 0, 1) := by decide +kernel
theorem dX11_findLens_104 : decode cX11_findLens 104 = .ok (.aload_n 0, 1) := by decide +kernel
theorem dX11_findLens_105 : decode cX11_findLens 105 = .ok (.getfield 289, 3) := by decide +kernel
theorem dX11_findLens_108 : decode cX11_findLens 108 = .ok (.lconst 0, 1) := by decide +kernel
theorem dX11_findLens_109 : decode cX11_findLens 109 = .ok (.lcmp, 1) := by decide +kernel
theorem dX11_findLens_110 : decode cX11_findLens 110 = .ok (.ifCond .ge 11, 3) := by decide +kernel
theorem dX11_findLens_113 : decode cX11_findLens 113 = .ok (.aload_n 0, 1) := by decide +kernel
theorem dX11_findLens_114 : decode cX11_findLens 114 = .ok (.getfield 289, 3) := by decide +kernel
theorem dX11_findLens_117 : decode cX11_findLens 117 = .ok (.lneg, 1) := by decide +kernel
theorem dX11_findLens_118 : decode cX11_findLens 118 = .ok (.goto 7, 3) := by decide +kernel
theorem dX11_findLens_121 : decode cX11_findLens 121 = .ok (.aload_n 0, 1) := by decide +kernel
theorem dX11_findLens_122 : decode cX11_findLens 122 = .ok (.getfield 289, 3) := by decide +kernel
theorem dX11_findLens_125 : decode cX11_findLens 125 = .ok (.putfield 289, 3) := by decide +kernel
theorem dX11_findLens_128 : decode cX11_findLens 128 = .ok (.aload_n 0, 1) := by decide +kernel
theorem dX11_findLens_129 : decode cX11_findLens 129 = .ok (.lconst 0, 1) := by decide +kernel
theorem dX11_findLens_130 : decode cX11_findLens 130 = .ok (.putfield 292, 3) := by decide +kernel
theorem dX11_findLens_133 : decode cX11_findLens 133 = .ok (.aload_n 0, 1) := by decide +kernel
theorem dX11_findLens_134 : decode cX11_findLens 134 = .ok (.getfield 289, 3) := by decide +kernel
theorem dX11_findLens_137 : decode cX11_findLens 137 = .ok (.lconst 1, 1) := by decide +kernel
theorem dX11_findLens_138 : decode cX11_findLens 138 = .ok (.lcmp, 1) := by decide +kernel
theorem dX11_findLens_139 : decode cX11_findLens 139 = .ok (.ifCond .le 99, 3) := by decide +kernel
theorem dX11_findLens_142 : decode cX11_findLens 142 = .ok (.lload_n 2, 1) := by decide +kernel
theorem dX11_findLens_143 : decode cX11_findLens 143 = .ok (.lconst 1, 1) := by decide +kernel
theorem dX11_findLens_144 : decode cX11_findLens 144 = .ok (.lcmp, 1) := by decide +kernel
theorem dX11_findLens_145 : decode cX11_findLens 145 = .ok (.ifCond .ne 7, 3) := by decide +kernel
theorem dX11_findLens_148 : decode cX11_findLens 148 = .ok (.lconst 1, 1) := by decide +kernel
theorem dX11_findLens_149 : decode cX11_findLens 149 = .ok (.goto 40, 3) := by decide +kernel
theorem dX11_findLens_152 : decode cX11_findLens 152 = .ok (.lload_n 2, 1) := by decide +kernel
theorem dX11_findLens_153 : decode cX11_findLens 153 = .ok (.lload 4, 2) := by decide +kernel
theorem dX11_findLens_155 : decode cX11_findLens 155 = .ok (.lconst 0, 1) := by decide +kernel
theorem dX11_findLens_156 : decode cX11_findLens 156 = .ok (.lcmp, 1) := by decide +kernel
theorem dX11_findLens_157 : decode cX11_findLens 157 = .ok (.ifCond .ge 9, 3) := by decide +kernel
theorem dX11_findLens_160 : decode cX11_findLens 160 = .ok (.lload 4, 2) := by decide +kernel
theorem dX11_findLens_162 : decode cX11_findLens 162 = .ok (.lneg, 1) := by decide +kernel
theorem dX11_findLens_163 : decode cX11_findLens 163 = .ok (.goto 5, 3) := by decide +kernel
theorem dX11_findLens_166 : decode cX11_findLens 166 = .ok (.lload 4, 2) := by decide +kernel
theorem dX11_findLens_168 : decode cX11_findLens 168 = .ok (.invokestatic 286, 3) := by decide +kernel
theorem dX11_findLens_171 : decode cX11_findLens 171 = .ok (.lload 4, 2) := by decide +kernel
theorem dX11_findLens_173 : decode cX11_findLens 173 = .ok (.lconst 0, 1) := by decide +kernel
theorem dX11_findLens_174 : decode cX11_findLens 174 = .ok (.lcmp, 1) := by decide +kernel
theorem dX11_findLens_175 : decode cX11_findLens 175 = .ok (.ifCond .ge 9, 3) := by decide +kernel
theorem dX11_findLens_178 : decode cX11_findLens 178 = .ok (.lload 4, 2) := by decide +kernel
theorem dX11_findLens_180 : decode cX11_findLens 180 = .ok (.lneg, 1) := by decide +kernel
theorem dX11_findLens_181 : decode cX11_findLens 181 = .ok (.goto 5, 3) := by decide +kernel
theorem dX11_findLens_184 : decode cX11_findLens 184 = .ok (.lload 4, 2) := by decide +kernel
theorem dX11_findLens_186 : decode cX11_findLens 186 = .ok (.invokestatic 295, 3) := by decide +kernel
theorem dX11_findLens_189 : decode cX11_findLens 189 = .ok (.lstore 10, 2) := by decide +kernel
theorem dX11_findLens_191 : decode cX11_findLens 191 = .ok (.lload_n 2, 1) := by decide +kernel
theorem dX11_findLens_192 : decode cX11_findLens 192 = .ok (.lconst 1, 1) := by decide +kernel
theorem dX11_findLens_193 : decode cX11_findLens 193 = .ok (.lcmp, 1) := by decide +kernel
theorem dX11_findLens_194 : decode cX11_findLens 194 = .ok (.ifCond .ne 7, 3) := by decide +kernel
theorem dX11_findLens_197 : decode cX11_findLens 197 = .ok (.lconst 0, 1) := by decide +kernel
theorem dX11_findLens_198 : decode cX11_findLens 198 = .ok (.goto 12, 3) := by decide +kernel
theorem dX11_findLens_201 : decode cX11_findLens 201 = .ok (.lload_n 2, 1) := by decide +kernel
theorem dX11_findLens_202 : decode cX11_findLens 202 = .ok (.lload 10, 2) := by decide +kernel
theorem dX11_findLens_204 : decode cX11_findLens 204 = .ok (.lmul, 1) := by decide +kernel
theorem dX11_findLens_205 : decode cX11_findLens 205 = .ok (.lconst 1, 1) := by decide +kernel
theorem dX11_findLens_206 : decode cX11_findLens 206 = .ok (.lsub, 1) := by decide +kernel
theorem dX11_findLens_207 : decode cX11_findLens 207 = .ok (.lload 4, 2) := by decide +kernel
theorem dX11_findLens_209 : decode cX11_findLens 209 = .ok (.ldiv, 1) := by decide +kernel
theorem dX11_findLens_210 : decode cX11_findLens 210 = .ok (.lstore 12, 2) := by decide +kernel
theorem dX11_findLens_212 : decode cX11_findLens 212 = .ok (.aload_n 0, 1) := by decide +kernel
theorem dX11_findLens_213 : decode cX11_findLens 213 = .ok (.lload 6, 2) := by decide +kernel
theorem dX11_findLens_215 : decode cX11_findLens 215 = .ok (.lload 10, 2) := by decide +kernel
theorem dX11_findLens_217 : decode cX11_findLens 217 = .ok (.lmul, 1) := by decide +kernel
theorem dX11_findLens_218 : decode cX11_findLens 218 = .ok (.lload 8, 2) := by decide +kernel
theorem dX11_findLens_220 : decode cX11_findLens 220 = .ok (.lload 12, 2) := by decide +kernel
theorem dX11_findLens_222 : decode cX11_findLens 222 = .ok (.lmul, 1) := by decide +kernel
theorem dX11_findLens_223 : decode cX11_findLens 223 = .ok (.ladd, 1) := by decide +kernel
theorem dX11_findLens_224 : decode cX11_findLens 224 = .ok (.aload_n 0, 1) := by decide +kernel
theorem dX11_findLens_225 : decode cX11_findLens 225 = .ok (.getfield 289, 3) := by decide +kernel
theorem dX11_findLens_228 : decode cX11_findLens 228 = .ok (.invokestatic 286, 3) := by decide +kernel
theorem dX11_findLens_231 : decode cX11_findLens 231 = .ok (.putfield 292, 3) := by decide +kernel
theorem dX11_findLens_234 : decode cX11_findLens 234 = .ok (.aload_n 0, 1) := by decide +kernel
theorem dX11_findLens_235 : decode cX11_findLens 235 = .ok (.invokevirtual 298, 3) := by decide +kernel
theorem dX11_findLens_238 : decode cX11_findLens 238 = .ok (.return_, 1) := by decide +kernel
theorem dX11_chooseLeast_0 : decode cX11_chooseLeast 0 = .ok (.aload_n 0, 1) := by decide +kernel
theorem dX11_chooseLeast_1 : decode cX11_chooseLeast 1 = .ok (.getfield 292, 3) := by decide +kernel
theorem dX11_chooseLeast_4 : decode cX11_chooseLeast 4 = .ok (.lstore_n 1, 1) := by decide +kernel
theorem dX11_chooseLeast_5 : decode cX11_chooseLeast 5 = .ok (.lload_n 1, 1) := by decide +kernel
theorem dX11_chooseLeast_6 : decode cX11_chooseLeast 6 = .ok (.aload_n 0, 1) := by decide +kernel
theorem dX11_chooseLeast_7 : decode cX11_chooseLeast 7 = .ok (.getfield 289, 3) := by decide +kernel
theorem dX11_chooseLeast_10 : decode cX11_chooseLeast 10 = .ok (.invokestatic 295, 3) := by decide +kernel
theorem dX11_chooseLeast_13 : decode cX11_chooseLeast 13 = .ok (.lstore_n 3, 1) := by decide +kernel
theorem dX11_chooseLeast_14 : decode cX11_chooseLeast 14 = .ok (.aload_n 0, 1) := by decide +kernel
theorem dX11_chooseLeast_15 : decode cX11_chooseLeast 15 = .ok (.lload_n 1, 1) := by decide +kernel
theorem dX11_chooseLeast_16 : decode cX11_chooseLeast 16 = .ok (.aload_n 0, 1) := by decide +kernel
theorem dX11_chooseLeast_17 : decode cX11_chooseLeast 17 = .ok (.getfield 289, 3) := by decide +kernel
theorem dX11_chooseLeast_20 : decode cX11_chooseLeast 20 = .ok (.lload_n 1, 1) := by decide +kernel
theorem dX11_chooseLeast_21 : decode cX11_chooseLeast 21 = .ok (.lsub, 1) := by decide +kernel
theorem dX11_chooseLeast_22 : decode cX11_chooseLeast 22 = .ok (.lcmp, 1) := by decide +kernel
theorem dX11_chooseLeast_23 : decode cX11_chooseLeast 23 = .ok (.ifCond .ge 7, 3) := by decide +kernel
theorem dX11_chooseLeast_26 : decode cX11_chooseLeast 26 = .ok (.lload_n 1, 1) := by decide +kernel
theorem dX11_chooseLeast_27 : decode cX11_chooseLeast 27 = .ok (.goto 9, 3) := by decide +kernel
theorem dX11_chooseLeast_30 : decode cX11_chooseLeast 30 = .ok (.aload_n 0, 1) := by decide +kernel
theorem dX11_chooseLeast_31 : decode cX11_chooseLeast 31 = .ok (.getfield 289, 3) := by decide +kernel
theorem dX11_chooseLeast_34 : decode cX11_chooseLeast 34 = .ok (.lload_n 1, 1) := by decide +kernel
theorem dX11_chooseLeast_35 : decode cX11_chooseLeast 35 = .ok (.lsub, 1) := by decide +kernel
theorem dX11_chooseLeast_36 : decode cX11_chooseLeast 36 = .ok (.putfield 292, 3) := by decide +kernel
theorem dX11_chooseLeast_39 : decode cX11_chooseLeast 39 = .ok (.aload_n 0, 1) := by decide +kernel
theorem dX11_chooseLeast_40 : decode cX11_chooseLeast 40 = .ok (.lload_n 3, 1) := by decide +kernel
theorem dX11_chooseLeast_41 : decode cX11_chooseLeast 41 = .ok (.aload_n 0, 1) := by decide +kernel
theorem dX11_chooseLeast_42 : decode cX11_chooseLeast 42 = .ok (.getfield 292, 3) := by decide +kernel
theorem dX11_chooseLeast_45 : decode cX11_chooseLeast 45 = .ok (.lcmp, 1) := by decide +kernel
theorem dX11_chooseLeast_46 : decode cX11_chooseLeast 46 = .ok (.ifCond .ge 7, 3) := by decide +kernel
theorem dX11_chooseLeast_49 : decode cX11_chooseLeast 49 = .ok (.lload_n 3, 1) := by decide +kernel
theorem dX11_chooseLeast_50 : decode cX11_chooseLeast 50 = .ok (.goto 7, 3) := by decide +kernel
theorem dX11_chooseLeast_53 : decode cX11_chooseLeast 53 = .ok (.aload_n 0, 1) := by decide +kernel
theorem dX11_chooseLeast_54 : decode cX11_chooseLeast 54 = .ok (.getfield 292, 3) := by decide +kernel
theorem dX11_chooseLeast_57 : decode cX11_chooseLeast 57 = .ok (.putfield 292, 3) := by decide +kernel
theorem dX11_chooseLeast_60 : decode cX11_chooseLeast 60 = .ok (.aload_n 0, 1) := by decide +kernel
theorem dX11_chooseLeast_61 : decode cX11_chooseLeast 61 = .ok (.aload_n 0, 1) := by decide +kernel
theorem dX11_chooseLeast_62 : decode cX11_chooseLeast 62 = .ok (.getfield 289, 3) := by decide +kernel
theorem dX11_chooseLeast_65 : decode cX11_chooseLeast 65 = .ok (.lload_n 3, 1) := by decide +kernel
theorem dX11_chooseLeast_66 : decode cX11_chooseLeast 66 = .ok (.lsub, 1) := by decide +kernel
theorem dX11_chooseLeast_67 : decode cX11_chooseLeast 67 = .ok (.aload_n 0, 1) := by decide +kernel
theorem dX11_chooseLeast_68 : decode cX11_chooseLeast 68 = .ok (.getfield 292, 3) := by decide +kernel
theorem dX11_chooseLeast_71 : decode cX11_chooseLeast 71 = .ok (.lcmp, 1) := by decide +kernel
theorem dX11_chooseLeast_72 : decode cX11_chooseLeast 72 = .ok (.ifCond .ge 12, 3) := by decide +kernel
theorem dX11_chooseLeast_75 : decode cX11_chooseLeast 75 = .ok (.aload_n 0, 1) := by decide +kernel
theorem dX11_chooseLeast_76 : decode cX11_chooseLeast 76 = .ok (.getfield 289, 3) := by decide +kernel
theorem dX11_chooseLeast_79 : decode cX11_chooseLeast 79 = .ok (.lload_n 3, 1) := by decide +kernel
theorem dX11_chooseLeast_80 : decode cX11_chooseLeast 80 = .ok (.lsub, 1) := by decide +kernel
theorem dX11_chooseLeast_81 : decode cX11_chooseLeast 81 = .ok (.goto 7, 3) := by decide +kernel
theorem dX11_chooseLeast_84 : decode cX11_chooseLeast 84 = .ok (.aload_n 0, 1) := by decide +kernel
theorem dX11_chooseLeast_85 : decode cX11_chooseLeast 85 = .ok (.getfield 292, 3) := by decide +kernel
theorem dX11_chooseLeast_88 : decode cX11_chooseLeast 88 = .ok (.putfield 292, 3) := by decide +kernel
theorem dX11_chooseLeast_91 : decode cX11_chooseLeast 91 = .ok (.return_, 1) := by decide +kernel
theorem dX11_lens_0 : decode cX11_lens 0 = .ok (.iload_n 1, 1) := by decide +kernel
theorem dX11_lens_1 : decode cX11_lens 1 = .ok (.invokestatic 147, 3) := by decide +kernel
theorem dX11_lens_4 : decode cX11_lens 4 = .ok (.ifCond .eq 13, 3) := by decide +kernel
theorem dX11_lens_7 : decode cX11_lens 7 = .ok (.iload_n 2, 1) := by decide +kernel
theorem dX11_lens_8 : decode cX11_lens 8 = .ok (.i2l, 1) := by decide +kernel
theorem dX11_lens_9 : decode cX11_lens 9 = .ok (.lconst 0, 1) := by decide +kernel
theorem dX11_lens_10 : decode cX11_lens 10 = .ok (.lconst 1, 1) := by decide +kernel
theorem dX11_lens_11 : decode cX11_lens 11 = .ok (.invokestatic 63, 3) := by decide +kernel
theorem dX11_lens_14 : decode cX11_lens 14 = .ok (.ifCond .ne 7, 3) := by decide +kernel
theorem dX11_lens_17 : decode cX11_lens 17 = .ok (.ldc2_w 229, 3) := by decide +kernel
theorem dX11_lens_20 : decode cX11_lens 20 = .ok (.lreturn, 1) := by decide +kernel
theorem dX11_lens_21 : decode cX11_lens 21 = .ok (.aload_n 0, 1) := by decide +kernel
theorem dX11_lens_22 : decode cX11_lens 22 = .ok (.getfield 7, 3) := by decide +kernel
theorem dX11_lens_25 : decode cX11_lens 25 = .ok (.bipush 16, 2) := by decide +kernel
theorem dX11_lens_27 : decode cX11_lens 27 = .ok (.iload_n 1, 1) := by decide +kernel
theorem dX11_lens_28 : decode cX11_lens 28 = .ok (.imul, 1) := by decide +kernel
theorem dX11_lens_29 : decode cX11_lens 29 = .ok (.iconst 0, 1) := by decide +kernel
theorem dX11_lens_30 : decode cX11_lens 30 = .ok (.iadd, 1) := by decide +kernel
theorem dX11_lens_31 : decode cX11_lens 31 = .ok (.iaload, 1) := by decide +kernel
theorem dX11_lens_32 : decode cX11_lens 32 = .ok (.ifCond .ne 26, 3) := by decide +kernel
theorem dX11_lens_35 : decode cX11_lens 35 = .ok (.aload_n 0, 1) := by decide +kernel
theorem dX11_lens_36 : decode cX11_lens 36 = .ok (.getfield 7, 3) := by decide +kernel
theorem dX11_lens_39 : decode cX11_lens 39 = .ok (.bipush 16, 2) := by decide +kernel
theorem dX11_lens_41 : decode cX11_lens 41 = .ok (.iload_n 1, 1) := by decide +kernel
theorem dX11_lens_42 : decode cX11_lens 42 = .ok (.imul, 1) := by decide +kernel
theorem dX11_lens_43 : decode cX11_lens 43 = .ok (.iconst 1, 1) := by decide +kernel
theorem dX11_lens_44 : decode cX11_lens 44 = .ok (.iadd, 1) := by decide +kernel
theorem dX11_lens_45 : decode cX11_lens 45 = .ok (.iaload, 1) := by decide +kernel
theorem dX11_lens_46 : decode cX11_lens 46 = .ok (.ifCond .ne 12, 3) := by decide +kernel
theorem dX11_lens_49 : decode cX11_lens 49 = .ok (.aload_n 0, 1) := by decide +kernel
theorem dX11_lens_50 : decode cX11_lens 50 = .ok (.iload_n 1, 1) := by decide +kernel
theorem dX11_lens_51 : decode cX11_lens 51 = .ok (.invokevirtual 100, 3) := by decide +kernel
theorem dX11_lens_54 : decode cX11_lens 54 = .ok (.iconst 2, 1) := by decide +kernel
theorem dX11_lens_55 : decode cX11_lens 55 = .ok (.if_icmp .le 7, 3) := by decide +kernel
theorem dX11_lens_58 : decode cX11_lens 58 = .ok (.ldc2_w 301, 3) := by decide +kernel
theorem dX11_lens_61 : decode cX11_lens 61 = .ok (.lreturn, 1) := by decide +kernel
theorem dX11_lens_62 : decode cX11_lens 62 = .ok (.aload_n 0, 1) := by decide +kernel
theorem dX11_lens_63 : decode cX11_lens 63 = .ok (.iload_n 1, 1) := by decide +kernel
theorem dX11_lens_64 : decode cX11_lens 64 = .ok (.invokevirtual 303, 3) := by decide +kernel
theorem dX11_lens_67 : decode cX11_lens 67 = .ok (.iload_n 2, 1) := by decide +kernel
theorem dX11_lens_68 : decode cX11_lens 68 = .ok (.ifCond .ne 10, 3) := by decide +kernel
theorem dX11_lens_71 : decode cX11_lens 71 = .ok (.aload_n 0, 1) := by decide +kernel
theorem dX11_lens_72 : decode cX11_lens 72 = .ok (.getfield 289, 3) := by decide +kernel
theorem dX11_lens_75 : decode cX11_lens 75 = .ok (.goto 7, 3) := by decide +kernel
theorem dX11_lens_78 : decode cX11_lens 78 = .ok (.aload_n 0, 1) := by decide +kernel
theorem dX11_lens_79 : decode cX11_lens 79 = .ok (.getfield 292, 3) := by decide +kernel
theorem dX11_lens_82 : decode cX11_lens 82 = .ok (.lreturn, 1) := by decide +kernel
theorem dX11_sees_0 : decode cX11_sees 0 = .ok (.iload_n 1, 1) := by decide +kernel
theorem dX11_sees_1 : decode cX11_sees 1 = .ok (.i2l, 1) := by decide +kernel
theorem dX11_sees_2 : decode cX11_sees 2 = .ok (.ldc2_w 174, 3) := by decide +kernel
theorem dX11_sees_5 : decode cX11_sees 5 = .ok (.ldc2_w 245, 3) := by decide +kernel
theorem dX11_sees_8 : decode cX11_sees 8 = .ok (.invokestatic 63, 3) := by decide +kernel
theorem dX11_sees_11 : decode cX11_sees 11 = .ok (.ifCond .eq 9, 3) := by decide +kernel
theorem dX11_sees_14 : decode cX11_sees 14 = .ok (.lload_n 2, 1) := by decide +kernel
theorem dX11_sees_15 : decode cX11_sees 15 = .ok (.lconst 0, 1) := by decide +kernel
theorem dX11_sees_16 : decode cX11_sees 16 = .ok (.lcmp, 1) := by decide +kernel
theorem dX11_sees_17 : decode cX11_sees 17 = .ok (.ifCond .ge 5, 3) := by decide +kernel
theorem dX11_sees_20 : decode cX11_sees 20 = .ok (.iconst (-1), 1) := by decide +kernel
theorem dX11_sees_21 : decode cX11_sees 21 = .ok (.ireturn, 1) := by decide +kernel
theorem dX11_sees_22 : decode cX11_sees 22 = .ok (.aload_n 0, 1) := by decide +kernel
theorem dX11_sees_23 : decode cX11_sees 23 = .ok (.getfield 306, 3) := by decide +kernel
theorem dX11_sees_26 : decode cX11_sees 26 = .ok (.bipush 6, 2) := by decide +kernel
theorem dX11_sees_28 : decode cX11_sees 28 = .ok (.if_icmp .ne 6, 3) := by decide +kernel
theorem dX11_sees_31 : decode cX11_sees 31 = .ok (.bipush (-3), 2) := by decide +kernel
theorem dX11_sees_33 : decode cX11_sees 33 = .ok (.ireturn, 1) := by decide +kernel
theorem dX11_sees_34 : decode cX11_sees 34 = .ok (.aload_n 0, 1) := by decide +kernel
theorem dX11_sees_35 : decode cX11_sees 35 = .ok (.getfield 48, 3) := by decide +kernel
theorem dX11_sees_38 : decode cX11_sees 38 = .ok (.aload_n 0, 1) := by decide +kernel
theorem dX11_sees_39 : decode cX11_sees 39 = .ok (.getfield 306, 3) := by decide +kernel
theorem dX11_sees_42 : decode cX11_sees 42 = .ok (.iload_n 1, 1) := by decide +kernel
theorem dX11_sees_43 : decode cX11_sees 43 = .ok (.iastore, 1) := by decide +kernel
theorem dX11_sees_44 : decode cX11_sees 44 = .ok (.aload_n 0, 1) := by decide +kernel
theorem dX11_sees_45 : decode cX11_sees 45 = .ok (.getfield 51, 3) := by decide +kernel
theorem dX11_sees_48 : decode cX11_sees 48 = .ok (.aload_n 0, 1) := by decide +kernel
theorem dX11_sees_49 : decode cX11_sees 49 = .ok (.getfield 306, 3) := by decide +kernel
theorem dX11_sees_52 : decode cX11_sees 52 = .ok (.lload_n 2, 1) := by decide +kernel
theorem dX11_sees_53 : decode cX11_sees 53 = .ok (.lastore, 1) := by decide +kernel
theorem dX11_sees_54 : decode cX11_sees 54 = .ok (.aload_n 0, 1) := by decide +kernel
theorem dX11_sees_55 : decode cX11_sees 55 = .ok (.dup, 1) := by decide +kernel
theorem dX11_sees_56 : decode cX11_sees 56 = .ok (.getfield 306, 3) := by decide +kernel
theorem dX11_sees_59 : decode cX11_sees 59 = .ok (.iconst 1, 1) := by decide +kernel
theorem dX11_sees_60 : decode cX11_sees 60 = .ok (.iadd, 1) := by decide +kernel
theorem dX11_sees_61 : decode cX11_sees 61 = .ok (.putfield 306, 3) := by decide +kernel
theorem dX11_sees_64 : decode cX11_sees 64 = .ok (.aload_n 0, 1) := by decide +kernel
theorem dX11_sees_65 : decode cX11_sees 65 = .ok (.getfield 306, 3) := by decide +kernel
theorem dX11_sees_68 : decode cX11_sees 68 = .ok (.ireturn, 1) := by decide +kernel
theorem dX11_forget_0 : decode cX11_forget 0 = .ok (.aload_n 0, 1) := by decide +kernel
theorem dX11_forget_1 : decode cX11_forget 1 = .ok (.getfield 306, 3) := by decide +kernel
theorem dX11_forget_4 : decode cX11_forget 4 = .ok (.istore_n 1, 1) := by decide +kernel
theorem dX11_forget_5 : decode cX11_forget 5 = .ok (.aload_n 0, 1) := by decide +kernel
theorem dX11_forget_6 : decode cX11_forget 6 = .ok (.iconst 0, 1) := by decide +kernel
theorem dX11_forget_7 : decode cX11_forget 7 = .ok (.putfield 306, 3) := by decide +kernel
theorem dX11_forget_10 : decode cX11_forget 10 = .ok (.iload_n 1, 1) := by decide +kernel
theorem dX11_forget_11 : decode cX11_forget 11 = .ok (.ireturn, 1) := by decide +kernel
theorem dX11_which_0 : decode cX11_which 0 = .ok (.iconst 0, 1) := by decide +kernel
theorem dX11_which_1 : decode cX11_which 1 = .ok (.istore_n 1, 1) := by decide +kernel
theorem dX11_which_2 : decode cX11_which 2 = .ok (.iconst 0, 1) := by decide +kernel
theorem dX11_which_3 : decode cX11_which 3 = .ok (.istore_n 2, 1) := by decide +kernel
theorem dX11_which_4 : decode cX11_which 4 = .ok (.iload_n 2, 1) := by decide +kernel
theorem dX11_which_5 : decode cX11_which 5 = .ok (.bipush 6, 2) := by decide +kernel
theorem dX11_which_7 : decode cX11_which 7 = .ok (.if_icmp .ge 76, 3) := by decide +kernel
theorem dX11_which_10 : decode cX11_which 10 = .ok (.iconst 1, 1) := by decide +kernel
theorem dX11_which_11 : decode cX11_which 11 = .ok (.istore_n 3, 1) := by decide +kernel
theorem dX11_which_12 : decode cX11_which 12 = .ok (.iconst 0, 1) := by decide +kernel
theorem dX11_which_13 : decode cX11_which 13 = .ok (.istore 4, 2) := by decide +kernel
theorem dX11_which_15 : decode cX11_which 15 = .ok (.iload 4, 2) := by decide +kernel
theorem dX11_which_17 : decode cX11_which 17 = .ok (.aload_n 0, 1) := by decide +kernel
theorem dX11_which_18 : decode cX11_which 18 = .ok (.getfield 306, 3) := by decide +kernel
theorem dX11_which_21 : decode cX11_which 21 = .ok (.if_icmp .ge 42, 3) := by decide +kernel
theorem dX11_which_24 : decode cX11_which 24 = .ok (.iload_n 3, 1) := by decide +kernel
theorem dX11_which_25 : decode cX11_which 25 = .ok (.ifCond .eq 30, 3) := by decide +kernel
theorem dX11_which_28 : decode cX11_which 28 = .ok (.aload_n 0, 1) := by decide +kernel
theorem dX11_which_29 : decode cX11_which 29 = .ok (.iload_n 2, 1) := by decide +kernel
theorem dX11_which_30 : decode cX11_which 30 = .ok (.aload_n 0, 1) := by decide +kernel
theorem dX11_which_31 : decode cX11_which 31 = .ok (.getfield 48, 3) := by decide +kernel
theorem dX11_which_34 : decode cX11_which 34 = .ok (.iload 4, 2) := by decide +kernel
theorem dX11_which_36 : decode cX11_which 36 = .ok (.iaload, 1) := by decide +kernel
theorem dX11_which_37 : decode cX11_which 37 = .ok (.invokevirtual 247, 3) := by decide +kernel
theorem dX11_which_40 : decode cX11_which 40 = .ok (.aload_n 0, 1) := by decide +kernel
theorem dX11_which_41 : decode cX11_which 41 = .ok (.getfield 51, 3) := by decide +kernel
theorem dX11_which_44 : decode cX11_which 44 = .ok (.iload 4, 2) := by decide +kernel
theorem dX11_which_46 : decode cX11_which 46 = .ok (.laload, 1) := by decide +kernel
theorem dX11_which_47 : decode cX11_which 47 = .ok (.lcmp, 1) := by decide +kernel
theorem dX11_which_48 : decode cX11_which 48 = .ok (.ifCond .ne 7, 3) := by decide +kernel
theorem dX11_which_51 : decode cX11_which 51 = .ok (.iconst 1, 1) := by decide +kernel
theorem dX11_which_52 : decode cX11_which 52 = .ok (.goto 4, 3) := by decide +kernel
theorem dX11_which_55 : decode cX11_which 55 = .ok (.iconst 0, 1) := by decide +kernel
theorem dX11_which_56 : decode cX11_which 56 = .ok (.istore_n 3, 1) := by decide +kernel
theorem dX11_which_57 : decode cX11_which 57 = .ok (.iinc 4 1, 3) := by decide +kernel
theorem dX11_which_60 : decode cX11_which 60 = .ok (.goto (-45), 3) := by decide +kernel
theorem dX11_which_63 : decode cX11_which 63 = .ok (.iload_n 1, 1) := by decide +kernel
theorem dX11_which_64 : decode cX11_which 64 = .ok (.iload_n 3, 1) := by decide +kernel
theorem dX11_which_65 : decode cX11_which 65 = .ok (.ifCond .eq 9, 3) := by decide +kernel
theorem dX11_which_68 : decode cX11_which 68 = .ok (.iconst 1, 1) := by decide +kernel
theorem dX11_which_69 : decode cX11_which 69 = .ok (.iload_n 2, 1) := by decide +kernel
theorem dX11_which_70 : decode cX11_which 70 = .ok (.ishl, 1) := by decide +kernel
theorem dX11_which_71 : decode cX11_which 71 = .ok (.goto 4, 3) := by decide +kernel
theorem dX11_which_74 : decode cX11_which 74 = .ok (.iconst 0, 1) := by decide +kernel
theorem dX11_which_75 : decode cX11_which 75 = .ok (.ior, 1) := by decide +kernel
theorem dX11_which_76 : decode cX11_which 76 = .ok (.istore_n 1, 1) := by decide +kernel
theorem dX11_which_77 : decode cX11_which 77 = .ok (.iinc 2 1, 3) := by decide +kernel
theorem dX11_which_80 : decode cX11_which 80 = .ok (.goto (-76), 3) := by decide +kernel
theorem dX11_which_83 : decode cX11_which 83 = .ok (.iload_n 1, 1) := by decide +kernel
theorem dX11_which_84 : decode cX11_which 84 = .ok (.ireturn, 1) := by decide +kernel
theorem dX11_alike_0 : decode cX11_alike 0 = .ok (.iconst 0, 1) := by decide +kernel
theorem dX11_alike_1 : decode cX11_alike 1 = .ok (.istore_n 3, 1) := by decide +kernel
theorem dX11_alike_2 : decode cX11_alike 2 = .ok (.iload_n 3, 1) := by decide +kernel
theorem dX11_alike_3 : decode cX11_alike 3 = .ok (.bipush 6, 2) := by decide +kernel
theorem dX11_alike_5 : decode cX11_alike 5 = .ok (.if_icmp .ge 21, 3) := by decide +kernel
theorem dX11_alike_8 : decode cX11_alike 8 = .ok (.aload_n 0, 1) := by decide +kernel
theorem dX11_alike_9 : decode cX11_alike 9 = .ok (.getfield 54, 3) := by decide +kernel
theorem dX11_alike_12 : decode cX11_alike 12 = .ok (.iload_n 3, 1) := by decide +kernel
theorem dX11_alike_13 : decode cX11_alike 13 = .ok (.aload_n 0, 1) := by decide +kernel
theorem dX11_alike_14 : decode cX11_alike 14 = .ok (.iload_n 3, 1) := by decide +kernel
theorem dX11_alike_15 : decode cX11_alike 15 = .ok (.iload_n 2, 1) := by decide +kernel
theorem dX11_alike_16 : decode cX11_alike 16 = .ok (.invokevirtual 247, 3) := by decide +kernel
theorem dX11_alike_19 : decode cX11_alike 19 = .ok (.lastore, 1) := by decide +kernel
theorem dX11_alike_20 : decode cX11_alike 20 = .ok (.iinc 3 1, 3) := by decide +kernel
theorem dX11_alike_23 : decode cX11_alike 23 = .ok (.goto (-21), 3) := by decide +kernel
theorem dX11_alike_26 : decode cX11_alike 26 = .ok (.iconst 0, 1) := by decide +kernel
theorem dX11_alike_27 : decode cX11_alike 27 = .ok (.istore_n 3, 1) := by decide +kernel
theorem dX11_alike_28 : decode cX11_alike 28 = .ok (.iconst 0, 1) := by decide +kernel
theorem dX11_alike_29 : decode cX11_alike 29 = .ok (.istore 4, 2) := by decide +kernel
theorem dX11_alike_31 : decode cX11_alike 31 = .ok (.iload 4, 2) := by decide +kernel
theorem dX11_alike_33 : decode cX11_alike 33 = .ok (.bipush 6, 2) := by decide +kernel
theorem dX11_alike_35 : decode cX11_alike 35 = .ok (.if_icmp .ge 84, 3) := by decide +kernel
theorem dX11_alike_38 : decode cX11_alike 38 = .ok (.iconst 0, 1) := by decide +kernel
theorem dX11_alike_39 : decode cX11_alike 39 = .ok (.istore 5, 2) := by decide +kernel
theorem dX11_alike_41 : decode cX11_alike 41 = .ok (.iconst 0, 1) := by decide +kernel
theorem dX11_alike_42 : decode cX11_alike 42 = .ok (.istore 6, 2) := by decide +kernel
theorem dX11_alike_44 : decode cX11_alike 44 = .ok (.iload 6, 2) := by decide +kernel
theorem dX11_alike_46 : decode cX11_alike 46 = .ok (.bipush 6, 2) := by decide +kernel
theorem dX11_alike_48 : decode cX11_alike 48 = .ok (.if_icmp .ge 52, 3) := by decide +kernel
theorem dX11_alike_51 : decode cX11_alike 51 = .ok (.iload 5, 2) := by decide +kernel
theorem dX11_alike_53 : decode cX11_alike 53 = .ok (.iload_n 1, 1) := by decide +kernel
theorem dX11_alike_54 : decode cX11_alike 54 = .ok (.iload 4, 2) := by decide +kernel
theorem dX11_alike_56 : decode cX11_alike 56 = .ok (.ishr, 1) := by decide +kernel
theorem dX11_alike_57 : decode cX11_alike 57 = .ok (.iload_n 1, 1) := by decide +kernel
theorem dX11_alike_58 : decode cX11_alike 58 = .ok (.iload 6, 2) := by decide +kernel
theorem dX11_alike_60 : decode cX11_alike 60 = .ok (.ishr, 1) := by decide +kernel
theorem dX11_alike_61 : decode cX11_alike 61 = .ok (.iand, 1) := by decide +kernel
theorem dX11_alike_62 : decode cX11_alike 62 = .ok (.iconst 1, 1) := by decide +kernel
theorem dX11_alike_63 : decode cX11_alike 63 = .ok (.iand, 1) := by decide +kernel
theorem dX11_alike_64 : decode cX11_alike 64 = .ok (.iconst 1, 1) := by decide +kernel
theorem dX11_alike_65 : decode cX11_alike 65 = .ok (.if_icmp .ne 25, 3) := by decide +kernel
theorem dX11_alike_68 : decode cX11_alike 68 = .ok (.aload_n 0, 1) := by decide +kernel
theorem dX11_alike_69 : decode cX11_alike 69 = .ok (.getfield 54, 3) := by decide +kernel
theorem dX11_alike_72 : decode cX11_alike 72 = .ok (.iload 4, 2) := by decide +kernel
theorem dX11_alike_74 : decode cX11_alike 74 = .ok (.laload, 1) := by decide +kernel
theorem dX11_alike_75 : decode cX11_alike 75 = .ok (.aload_n 0, 1) := by decide +kernel
theorem dX11_alike_76 : decode cX11_alike 76 = .ok (.getfield 54, 3) := by decide +kernel
theorem dX11_alike_79 : decode cX11_alike 79 = .ok (.iload 6, 2) := by decide +kernel
theorem dX11_alike_81 : decode cX11_alike 81 = .ok (.laload, 1) := by decide +kernel
theorem dX11_alike_82 : decode cX11_alike 82 = .ok (.lcmp, 1) := by decide +kernel
theorem dX11_alike_83 : decode cX11_alike 83 = .ok (.ifCond .ne 7, 3) := by decide +kernel
theorem dX11_alike_86 : decode cX11_alike 86 = .ok (.iconst 1, 1) := by decide +kernel
theorem dX11_alike_87 : decode cX11_alike 87 = .ok (.goto 4, 3) := by decide +kernel
theorem dX11_alike_90 : decode cX11_alike 90 = .ok (.iconst 0, 1) := by decide +kernel
theorem dX11_alike_91 : decode cX11_alike 91 = .ok (.iadd, 1) := by decide +kernel
theorem dX11_alike_92 : decode cX11_alike 92 = .ok (.istore 5, 2) := by decide +kernel
theorem dX11_alike_94 : decode cX11_alike 94 = .ok (.iinc 6 1, 3) := by decide +kernel
theorem dX11_alike_97 : decode cX11_alike 97 = .ok (.goto (-53), 3) := by decide +kernel
theorem dX11_alike_100 : decode cX11_alike 100 = .ok (.iload 5, 2) := by decide +kernel
theorem dX11_alike_102 : decode cX11_alike 102 = .ok (.iload_n 3, 1) := by decide +kernel
theorem dX11_alike_103 : decode cX11_alike 103 = .ok (.if_icmp .le 8, 3) := by decide +kernel
theorem dX11_alike_106 : decode cX11_alike 106 = .ok (.iload 5, 2) := by decide +kernel
theorem dX11_alike_108 : decode cX11_alike 108 = .ok (.goto 4, 3) := by decide +kernel
theorem dX11_alike_111 : decode cX11_alike 111 = .ok (.iload_n 3, 1) := by decide +kernel
theorem dX11_alike_112 : decode cX11_alike 112 = .ok (.istore_n 3, 1) := by decide +kernel
theorem dX11_alike_113 : decode cX11_alike 113 = .ok (.iinc 4 1, 3) := by decide +kernel
theorem dX11_alike_116 : decode cX11_alike 116 = .ok (.goto (-85), 3) := by decide +kernel
theorem dX11_alike_119 : decode cX11_alike 119 = .ok (.iload_n 3, 1) := by decide +kernel
theorem dX11_alike_120 : decode cX11_alike 120 = .ok (.ireturn, 1) := by decide +kernel
theorem dX11_ask_0 : decode cX11_ask 0 = .ok (.aload_n 0, 1) := by decide +kernel
theorem dX11_ask_1 : decode cX11_ask 1 = .ok (.invokevirtual 309, 3) := by decide +kernel
theorem dX11_ask_4 : decode cX11_ask 4 = .ok (.istore_n 1, 1) := by decide +kernel
theorem dX11_ask_5 : decode cX11_ask 5 = .ok (.iload_n 1, 1) := by decide +kernel
theorem dX11_ask_6 : decode cX11_ask 6 = .ok (.iload_n 1, 1) := by decide +kernel
theorem dX11_ask_7 : decode cX11_ask 7 = .ok (.iconst 1, 1) := by decide +kernel
theorem dX11_ask_8 : decode cX11_ask 8 = .ok (.isub, 1) := by decide +kernel
theorem dX11_ask_9 : decode cX11_ask 9 = .ok (.iand, 1) := by decide +kernel
theorem dX11_ask_10 : decode cX11_ask 10 = .ok (.ifCond .ne 6, 3) := by decide +kernel
theorem dX11_ask_13 : decode cX11_ask 13 = .ok (.bipush (-9), 2) := by decide +kernel
theorem dX11_ask_15 : decode cX11_ask 15 = .ok (.ireturn, 1) := by decide +kernel
theorem dX11_ask_16 : decode cX11_ask 16 = .ok (.bipush (-9), 2) := by decide +kernel
theorem dX11_ask_18 : decode cX11_ask 18 = .ok (.istore_n 2, 1) := by decide +kernel
theorem dX11_ask_19 : decode cX11_ask 19 = .ok (.bipush 7, 2) := by decide +kernel
theorem dX11_ask_21 : decode cX11_ask 21 = .ok (.istore_n 3, 1) := by decide +kernel
theorem dX11_ask_22 : decode cX11_ask 22 = .ok (.iconst 2, 1) := by decide +kernel
theorem dX11_ask_23 : decode cX11_ask 23 = .ok (.istore 4, 2) := by decide +kernel
theorem dX11_ask_25 : decode cX11_ask 25 = .ok (.iload 4, 2) := by decide +kernel
theorem dX11_ask_27 : decode cX11_ask 27 = .ok (.bipush 12, 2) := by decide +kernel
theorem dX11_ask_29 : decode cX11_ask 29 = .ok (.if_icmp .gt 44, 3) := by decide +kernel
theorem dX11_ask_32 : decode cX11_ask 32 = .ok (.aload_n 0, 1) := by decide +kernel
theorem dX11_ask_33 : decode cX11_ask 33 = .ok (.iload_n 1, 1) := by decide +kernel
theorem dX11_ask_34 : decode cX11_ask 34 = .ok (.iload 4, 2) := by decide +kernel
theorem dX11_ask_36 : decode cX11_ask 36 = .ok (.invokevirtual 313, 3) := by decide +kernel
theorem dX11_ask_39 : decode cX11_ask 39 = .ok (.istore 5, 2) := by decide +kernel
theorem dX11_ask_41 : decode cX11_ask 41 = .ok (.iload 5, 2) := by decide +kernel
theorem dX11_ask_43 : decode cX11_ask 43 = .ok (.iload_n 3, 1) := by decide +kernel
theorem dX11_ask_44 : decode cX11_ask 44 = .ok (.if_icmp .ge 8, 3) := by decide +kernel
theorem dX11_ask_47 : decode cX11_ask 47 = .ok (.iload 4, 2) := by decide +kernel
theorem dX11_ask_49 : decode cX11_ask 49 = .ok (.goto 4, 3) := by decide +kernel
theorem dX11_ask_52 : decode cX11_ask 52 = .ok (.iload_n 2, 1) := by decide +kernel
theorem dX11_ask_53 : decode cX11_ask 53 = .ok (.istore_n 2, 1) := by decide +kernel
theorem dX11_ask_54 : decode cX11_ask 54 = .ok (.iload 5, 2) := by decide +kernel
theorem dX11_ask_56 : decode cX11_ask 56 = .ok (.iload_n 3, 1) := by decide +kernel
theorem dX11_ask_57 : decode cX11_ask 57 = .ok (.if_icmp .ge 8, 3) := by decide +kernel
theorem dX11_ask_60 : decode cX11_ask 60 = .ok (.iload 5, 2) := by decide +kernel
theorem dX11_ask_62 : decode cX11_ask 62 = .ok (.goto 4, 3) := by decide +kernel
theorem dX11_ask_65 : decode cX11_ask 65 = .ok (.iload_n 3, 1) := by decide +kernel
theorem dX11_ask_66 : decode cX11_ask 66 = .ok (.istore_n 3, 1) := by decide +kernel
theorem dX11_ask_67 : decode cX11_ask 67 = .ok (.iinc 4 1, 3) := by decide +kernel
theorem dX11_ask_70 : decode cX11_ask 70 = .ok (.goto (-45), 3) := by decide +kernel
theorem dX11_ask_73 : decode cX11_ask 73 = .ok (.iload_n 2, 1) := by decide +kernel
theorem dX11_ask_74 : decode cX11_ask 74 = .ok (.ireturn, 1) := by decide +kernel
theorem dX11_allFibres_0 : decode cX11_allFibres 0 = .ok (.iconst 0, 1) := by decide +kernel
theorem dX11_allFibres_1 : decode cX11_allFibres 1 = .ok (.istore_n 1, 1) := by decide +kernel
theorem dX11_allFibres_2 : decode cX11_allFibres 2 = .ok (.iconst 0, 1) := by decide +kernel
theorem dX11_allFibres_3 : decode cX11_allFibres 3 = .ok (.istore_n 2, 1) := by decide +kernel
theorem dX11_allFibres_4 : decode cX11_allFibres 4 = .ok (.iload_n 2, 1) := by decide +kernel
theorem dX11_allFibres_5 : decode cX11_allFibres 5 = .ok (.bipush 6, 2) := by decide +kernel
theorem dX11_allFibres_7 : decode cX11_allFibres 7 = .ok (.if_icmp .ge 17, 3) := by decide +kernel
theorem dX11_allFibres_10 : decode cX11_allFibres 10 = .ok (.iload_n 1, 1) := by decide +kernel
theorem dX11_allFibres_11 : decode cX11_allFibres 11 = .ok (.aload_n 0, 1) := by decide +kernel
theorem dX11_allFibres_12 : decode cX11_allFibres 12 = .ok (.iload_n 2, 1) := by decide +kernel
theorem dX11_allFibres_13 : decode cX11_allFibres 13 = .ok (.invokevirtual 100, 3) := by decide +kernel
theorem dX11_allFibres_16 : decode cX11_allFibres 16 = .ok (.iadd, 1) := by decide +kernel
theorem dX11_allFibres_17 : decode cX11_allFibres 17 = .ok (.istore_n 1, 1) := by decide +kernel
theorem dX11_allFibres_18 : decode cX11_allFibres 18 = .ok (.iinc 2 1, 3) := by decide +kernel
theorem dX11_allFibres_21 : decode cX11_allFibres 21 = .ok (.goto (-17), 3) := by decide +kernel
theorem dX11_allFibres_24 : decode cX11_allFibres 24 = .ok (.iload_n 1, 1) := by decide +kernel
theorem dX11_allFibres_25 : decode cX11_allFibres 25 = .ok (.ireturn, 1) := by decide +kernel
theorem dX11_keep_0 : decode cX11_keep 0 = .ok (.iload_n 1, 1) := by decide +kernel
theorem dX11_keep_1 : decode cX11_keep 1 = .ok (.i2l, 1) := by decide +kernel
theorem dX11_keep_2 : decode cX11_keep 2 = .ok (.lconst 0, 1) := by decide +kernel
theorem dX11_keep_3 : decode cX11_keep 3 = .ok (.lconst 1, 1) := by decide +kernel
theorem dX11_keep_4 : decode cX11_keep 4 = .ok (.invokestatic 63, 3) := by decide +kernel
theorem dX11_keep_7 : decode cX11_keep 7 = .ok (.ifCond .ne 5, 3) := by decide +kernel
theorem dX11_keep_10 : decode cX11_keep 10 = .ok (.iconst (-1), 1) := by decide +kernel
theorem dX11_keep_11 : decode cX11_keep 11 = .ok (.ireturn, 1) := by decide +kernel
theorem dX11_keep_12 : decode cX11_keep 12 = .ok (.iconst 0, 1) := by decide +kernel
theorem dX11_keep_13 : decode cX11_keep 13 = .ok (.istore_n 2, 1) := by decide +kernel
theorem dX11_keep_14 : decode cX11_keep 14 = .ok (.iload_n 2, 1) := by decide +kernel
theorem dX11_keep_15 : decode cX11_keep 15 = .ok (.bipush 96, 2) := by decide +kernel
theorem dX11_keep_17 : decode cX11_keep 17 = .ok (.if_icmp .ge 26, 3) := by decide +kernel
theorem dX11_keep_20 : decode cX11_keep 20 = .ok (.aload_n 0, 1) := by decide +kernel
theorem dX11_keep_21 : decode cX11_keep 21 = .ok (.getfield 16, 3) := by decide +kernel
theorem dX11_keep_24 : decode cX11_keep 24 = .ok (.bipush 96, 2) := by decide +kernel
theorem dX11_keep_26 : decode cX11_keep 26 = .ok (.iload_n 1, 1) := by decide +kernel
theorem dX11_keep_27 : decode cX11_keep 27 = .ok (.imul, 1) := by decide +kernel
theorem dX11_keep_28 : decode cX11_keep 28 = .ok (.iload_n 2, 1) := by decide +kernel
theorem dX11_keep_29 : decode cX11_keep 29 = .ok (.iadd, 1) := by decide +kernel
theorem dX11_keep_30 : decode cX11_keep 30 = .ok (.aload_n 0, 1) := by decide +kernel
theorem dX11_keep_31 : decode cX11_keep 31 = .ok (.getfield 7, 3) := by decide +kernel
theorem dX11_keep_34 : decode cX11_keep 34 = .ok (.iload_n 2, 1) := by decide +kernel
theorem dX11_keep_35 : decode cX11_keep 35 = .ok (.iaload, 1) := by decide +kernel
theorem dX11_keep_36 : decode cX11_keep 36 = .ok (.iastore, 1) := by decide +kernel
theorem dX11_keep_37 : decode cX11_keep 37 = .ok (.iinc 2 1, 3) := by decide +kernel
theorem dX11_keep_40 : decode cX11_keep 40 = .ok (.goto (-26), 3) := by decide +kernel
theorem dX11_keep_43 : decode cX11_keep 43 = .ok (.aload_n 0, 1) := by decide +kernel
theorem dX11_keep_44 : decode cX11_keep 44 = .ok (.getfield 19, 3) := by decide +kernel
theorem dX11_keep_47 : decode cX11_keep 47 = .ok (.iload_n 1, 1) := by decide +kernel
theorem dX11_keep_48 : decode cX11_keep 48 = .ok (.iconst 1, 1) := by decide +kernel
theorem dX11_keep_49 : decode cX11_keep 49 = .ok (.bastore, 1) := by decide +kernel
theorem dX11_keep_50 : decode cX11_keep 50 = .ok (.aload_n 0, 1) := by decide +kernel
theorem dX11_keep_51 : decode cX11_keep 51 = .ok (.invokevirtual 316, 3) := by decide +kernel
theorem dX11_keep_54 : decode cX11_keep 54 = .ok (.ireturn, 1) := by decide +kernel
theorem dX11_back_0 : decode cX11_back 0 = .ok (.iload_n 1, 1) := by decide +kernel
theorem dX11_back_1 : decode cX11_back 1 = .ok (.i2l, 1) := by decide +kernel
theorem dX11_back_2 : decode cX11_back 2 = .ok (.lconst 0, 1) := by decide +kernel
theorem dX11_back_3 : decode cX11_back 3 = .ok (.lconst 1, 1) := by decide +kernel
theorem dX11_back_4 : decode cX11_back 4 = .ok (.invokestatic 63, 3) := by decide +kernel
theorem dX11_back_7 : decode cX11_back 7 = .ok (.ifCond .ne 5, 3) := by decide +kernel
theorem dX11_back_10 : decode cX11_back 10 = .ok (.iconst (-1), 1) := by decide +kernel
theorem dX11_back_11 : decode cX11_back 11 = .ok (.ireturn, 1) := by decide +kernel
theorem dX11_back_12 : decode cX11_back 12 = .ok (.aload_n 0, 1) := by decide +kernel
theorem dX11_back_13 : decode cX11_back 13 = .ok (.getfield 19, 3) := by decide +kernel
theorem dX11_back_16 : decode cX11_back 16 = .ok (.iload_n 1, 1) := by decide +kernel
theorem dX11_back_17 : decode cX11_back 17 = .ok (.baload, 1) := by decide +kernel
theorem dX11_back_18 : decode cX11_back 18 = .ok (.ifCond .ne 6, 3) := by decide +kernel
theorem dX11_back_21 : decode cX11_back 21 = .ok (.bipush (-2), 2) := by decide +kernel
theorem dX11_back_23 : decode cX11_back 23 = .ok (.ireturn, 1) := by decide +kernel
theorem dX11_back_24 : decode cX11_back 24 = .ok (.iconst 0, 1) := by decide +kernel
theorem dX11_back_25 : decode cX11_back 25 = .ok (.istore_n 2, 1) := by decide +kernel
theorem dX11_back_26 : decode cX11_back 26 = .ok (.iload_n 2, 1) := by decide +kernel
theorem dX11_back_27 : decode cX11_back 27 = .ok (.bipush 96, 2) := by decide +kernel
theorem dX11_back_29 : decode cX11_back 29 = .ok (.if_icmp .ge 26, 3) := by decide +kernel
theorem dX11_back_32 : decode cX11_back 32 = .ok (.aload_n 0, 1) := by decide +kernel
theorem dX11_back_33 : decode cX11_back 33 = .ok (.getfield 7, 3) := by decide +kernel
theorem dX11_back_36 : decode cX11_back 36 = .ok (.iload_n 2, 1) := by decide +kernel
theorem dX11_back_37 : decode cX11_back 37 = .ok (.aload_n 0, 1) := by decide +kernel
theorem dX11_back_38 : decode cX11_back 38 = .ok (.getfield 16, 3) := by decide +kernel
theorem dX11_back_41 : decode cX11_back 41 = .ok (.bipush 96, 2) := by decide +kernel
theorem dX11_back_43 : decode cX11_back 43 = .ok (.iload_n 1, 1) := by decide +kernel
theorem dX11_back_44 : decode cX11_back 44 = .ok (.imul, 1) := by decide +kernel
theorem dX11_back_45 : decode cX11_back 45 = .ok (.iload_n 2, 1) := by decide +kernel
theorem dX11_back_46 : decode cX11_back 46 = .ok (.iadd, 1) := by decide +kernel
theorem dX11_back_47 : decode cX11_back 47 = .ok (.iaload, 1) := by decide +kernel
theorem dX11_back_48 : decode cX11_back 48 = .ok (.iastore, 1) := by decide +kernel
theorem dX11_back_49 : decode cX11_back 49 = .ok (.iinc 2 1, 3) := by decide +kernel
theorem dX11_back_52 : decode cX11_back 52 = .ok (.goto (-26), 3) := by decide +kernel
theorem dX11_back_55 : decode cX11_back 55 = .ok (.aload_n 0, 1) := by decide +kernel
theorem dX11_back_56 : decode cX11_back 56 = .ok (.iconst 0, 1) := by decide +kernel
theorem dX11_back_57 : decode cX11_back 57 = .ok (.putfield 57, 3) := by decide +kernel
theorem dX11_back_60 : decode cX11_back 60 = .ok (.aload_n 0, 1) := by decide +kernel
theorem dX11_back_61 : decode cX11_back 61 = .ok (.invokevirtual 316, 3) := by decide +kernel
theorem dX11_back_64 : decode cX11_back 64 = .ok (.ireturn, 1) := by decide +kernel
theorem dX11_count_0 : decode cX11_count 0 = .ok (.iload_n 1, 1) := by decide +kernel
theorem dX11_count_1 : decode cX11_count 1 = .ok (.tableswitch 51 0 3 #[31, 36, 41, 46], 31) := by decide +kernel
theorem dX11_count_32 : decode cX11_count 32 = .ok (.aload_n 0, 1) := by decide +kernel
theorem dX11_count_33 : decode cX11_count 33 = .ok (.invokevirtual 316, 3) := by decide +kernel
theorem dX11_count_36 : decode cX11_count 36 = .ok (.ireturn, 1) := by decide +kernel
theorem dX11_count_37 : decode cX11_count 37 = .ok (.aload_n 0, 1) := by decide +kernel
theorem dX11_count_38 : decode cX11_count 38 = .ok (.getfield 306, 3) := by decide +kernel
theorem dX11_count_41 : decode cX11_count 41 = .ok (.ireturn, 1) := by decide +kernel
theorem dX11_count_42 : decode cX11_count 42 = .ok (.aload_n 0, 1) := by decide +kernel
theorem dX11_count_43 : decode cX11_count 43 = .ok (.getfield 110, 3) := by decide +kernel
theorem dX11_count_46 : decode cX11_count 46 = .ok (.ireturn, 1) := by decide +kernel
theorem dX11_count_47 : decode cX11_count 47 = .ok (.aload_n 0, 1) := by decide +kernel
theorem dX11_count_48 : decode cX11_count 48 = .ok (.getfield 57, 3) := by decide +kernel
theorem dX11_count_51 : decode cX11_count 51 = .ok (.ireturn, 1) := by decide +kernel
theorem dX11_count_52 : decode cX11_count 52 = .ok (.iconst (-1), 1) := by decide +kernel
theorem dX11_count_53 : decode cX11_count 53 = .ok (.ireturn, 1) := by decide +kernel
end
section
/-! THE SMALL MACHINE: a judgement E over addresses counted from 0, with one rule an instruction, out of the kit's rows -/
/-- the words that hold in every frame; those of nest mates and arrays of objects are kept apart -/
def lw_ok : List Cond := lw_tbl.filter goodWord
def lw_nest : List Cond := lw_tbl.filter (fun w => match w with | .methodLinkNest .. => true | _ => false)
theorem lw_in {w : Cond} (h : w ∈ lw_tbl) (hg : goodWord w = true) : w ∈ lw_ok := List.mem_filter.mpr ⟨h, hg⟩
abbrev GT : Type := Launch × va_G × (Nat → ClassId) × Nat × Nat × Nat × (Nat → Int32) × Nat
def gL (G : GT) : Launch := G.1
def gD (G : GT) : va_G := G.2.1
def gC (G : GT) : Nat → ClassId := G.2.2.1
def gB (G : GT) : Nat := G.2.2.2.1
def gS (G : GT) : Nat := G.2.2.2.2.1
def gN (G : GT) : Nat := G.2.2.2.2.2.1
def gX (G : GT) : Nat → Int32 := G.2.2.2.2.2.2.1
def gT (G : GT) : Nat := G.2.2.2.2.2.2.2
def tabL : List Int32 := [0, 1, 2, 3, 4, 5, 1, 2, 0, 4, 5, 3, 2, 0, 1, 5, 3, 4, 3, 5, 4, 0, 2, 1, 4, 3, 5, 1, 0, 2, 5, 4, 3, 2, 1, 0]
def tabF : Nat → Int32 := fun j => tabL.getD j 0
abbrev HV : Type := List va_E
def vi (x : Int) : Value := .int (Int32.ofInt x)
def vl (x : Int) : Value := .long (Int64.ofInt x)
def mv (G : GT) : Value → Value
  | .ref r => .ref (gB G + r)
  | .retAddr k => if k = 1 then .ref (gS G) else if k = 2 then .ref (gT G) else .retAddr k
  | v => v
def mr (G : GT) (x : (Nat → Int32) ⊕ (Nat → Int64) ⊕ (Nat → UInt32) ⊕ (Nat → UInt64) ⊕ (Nat → Option Nat)) : (Nat → Int32) ⊕ (Nat → Int64) ⊕ (Nat → UInt32) ⊕ (Nat → UInt64) ⊕ (Nat → Option Nat) := match x with
  | .inl f => .inl f
  | .inr (.inl f) => .inr (.inl f)
  | .inr (.inr (.inl f)) => .inr (.inr (.inl f))
  | .inr (.inr (.inr (.inl f))) => .inr (.inr (.inr (.inl f)))
  | .inr (.inr (.inr (.inr f))) => .inr (.inr (.inr (.inr (fun i => (f i).map (fun r => gB G + r)))))
def me (G : GT) (c : va_E) : va_E := match c with
  | .inl a => .inl (gC G a.1, a.2.1, mr G a.2.2)
  | .inr o => .inr (o.1, o.2.map (mv G))
def mw (G : GT) (M : HV) : va_W := M.mapIdx (fun i c => (gB G + i, me G c))
theorem mw_get {G : GT} {M : HV} {r : Nat} {c : va_E} (h : M[r]? = some c) : (mw G M)[r]? = some (gB G + r, me G c) := by
  simp [mw, List.getElem?_mapIdx, h]
theorem mw_len (G : GT) (M : HV) : (mw G M).length = M.length := by simp [mw]
theorem mw_set {G : GT} {M : HV} {r : Nat} {c : va_E} : (mw G M).set r (gB G + r, me G c) = mw G (M.set r c) := by
  apply List.ext_getElem?
  intro i
  by_cases h : r = i
  · subst h
    by_cases hr : r < M.length
    · rw [List.getElem?_set_self (by rw [mw_len]; exact hr), mw_get (List.getElem?_set_self hr)]
    · rw [List.getElem?_eq_none (by simp [mw_len]; omega), List.getElem?_eq_none (by simp [mw_len]; omega)]
  · rw [List.getElem?_set_ne h]
    simp [mw, List.getElem?_mapIdx, List.getElem?_set_ne h]
theorem mw_push {G : GT} {M : HV} {c : va_E} : mw G (M ++ [c]) = mw G M ++ [(gB G + M.length, me G c)] := by
  simp [mw, List.mapIdx_append]
def mA (G : GT) : Nat → Prop := fun q => gB G ≤ q
theorem mw_D (G : GT) (M : HV) : va_D (mA G) (mw G M) := by
  refine ⟨fun i j p q hp hq e => ?_, fun k q hq => ?_⟩
  · simp only [mw, List.getElem?_mapIdx, Option.map_eq_some_iff] at hp hq
    obtain ⟨_, _, rfl⟩ := hp
    obtain ⟨_, _, rfl⟩ := hq
    simp at e
    exact e
  · simp only [mw, List.getElem?_mapIdx, Option.map_eq_some_iff] at hq
    obtain ⟨_, _, rfl⟩ := hq
    exact Nat.le_add_right _ _
def tyG (G : GT) : List (ClassId × FieldType) := [(gC G 0, .int), (gC G 1, .long), (gC G 2, .boolean), (gC G 3, .object "FibredSpaces$Shelf"), (gC G 4, .object "FibredSpaces$Space")]
/-- what is fixed, at the state in which a frame begins -/
def Wo (G : GT) (U : State) : Prop := va_K (gD G) vwCl (tyG G) U ∧ va_X (gS G) (gN G) (gX G) U U.heap ∧ gS G < gB G ∧ va_X (gT G) 36 tabF U U.heap ∧ gT G < gB G ∧ va_Z "FibredSpaces$Permuting" "PRODUCTS" "[I" (.ref (gT G)) (mA G) U U.heap ∧ gB G ≤ U.heap.size ∧ va_AO "FibredSpaces$Shelf" U ∧ va_AO "FibredSpaces$Space" U ∧ ∀ w ∈ lw_nest, va_Nw w U
def Wd (G : GT) (M : HV) (H : Heap) : Prop := va_P (gD G) vwCl (mw G M) H
def World (G : GT) (M : HV) (U : State) : Prop := Wo G U ∧ Wd G M U.heap ∧ U.heap.size = gB G + M.length
/-- a method: name, code, locals, answer, frames, words of locals, new cells, new slots -/
abbrev MI : Type := MethodName × ByteArray × Nat × Option FieldType × Nat × Nat × Nat × Nat
def iY (y : MI) : MethodName := y.1
def iC (y : MI) : ByteArray := y.2.1
def iL (y : MI) : Nat := y.2.2.1
def iR (y : MI) : Option FieldType := y.2.2.2.1
def iF (y : MI) : Nat := y.2.2.2.2.1
def iO (y : MI) : Nat := y.2.2.2.2.2.1
def iM (y : MI) : Nat := y.2.2.2.2.2.2.1
def iS (y : MI) : Nat := y.2.2.2.2.2.2.2
def rmI (y : MI) : Room := { frames := iF y, cells := iM y, slots := iS y, locals := iO y }
def wsI (y : MI) : List Cond := .code (iY y) (iC y) (iL y) (iR y) :: lw_ok
abbrev QT : Type := Option Value → HV → Prop
def Qm (G : GT) (y : MI) (Q : QT) : Array Value → State → Outcome → State → Prop := fun _ st oc t =>
  (∃ (v : Option Value) (M' : HV), oc = .returned (v.map (mv G)) ∧ Q v M' ∧ st.heap.size + iM y = gB G + M'.length ∧ World G M' t) ∧ va_F (mA G) st t
def Ctr (G : GT) (y : MI) (a : List Value) (M : HV) (Q : QT) : Prop := Met (gL G) (iY y) (wsI y) (rmI y) (va_Pc (a.map (mv G)) (World G M)) (Qm G y Q) (iM y) (iS y) (mA G)
def Fr (G : GT) (y : MI) (k : Nat) (p : Program) (s : State) (m : MethodId) (args : Array Value) (meth : Method) (c : Code) (H : Heap) (locs : List Loc) (M : HV) : Prop :=
  p.tables.exec = Jvm.exec ∧ c.code = iC y ∧ c.maxLocals = iL y ∧ meth.sig.returnType = iR y ∧ meth.locks = false ∧ meth.name = (iY y).name ∧ s.vm.findClass (iY y).cls = some m.cls ∧ (∀ w ∈ lw_ok, w.before args s = true) ∧
  Wo G s ∧ Wd G M H ∧ va_S (mA G) s.heap H locs ∧ s.heap.size + k = gB G + M.length
def Lo (G : GT) (n : Nat) (arr : Array Slot) (ls : List Value) : Prop := arr.size = n ∧ lv_wf arr ∧ ∀ (i : Nat) (v : Value), ls[i]? = some v → v ≠ .retAddr 0 → arr[i]? = some (.val (mv G v))
abbrev ZT : Type := List Frame → Array Value → State → State → Prop
def E (G : GT) (y : MI) (Z : ZT) (k n pc : Nat) (ls st : List Value) (M : HV) : Prop :=
  ∀ (p : Program) (e : Env) (s : State) (m : MethodId) (args : Array Value) (below : List Frame) (meth : Method) (c : Code) (H : Heap) (locs : List Loc) (arr : Array Slot),
    Fr G y k p s m args meth c H locs M → Lo G (iL y) arr ls → W p (gL G) e (rmI y) s m args below meth c H locs k n (Z below args s) (F0 m pc arr (st.map (mv G)))
def Zq (G : GT) (y : MI) (Q : QT) : ZT := fun below args s => MQ below (Qm G y Q) args s (iM y) (iS y) (mA G)
theorem Fr.size {G : GT} {y : MI} {k n : Nat} {p : Program} {l : Launch} {e : Env} {R : Room} {s : State} {m : MethodId} {args : Array Value} {below : List Frame} {meth : Method} {c : Code} {T : State} {locs : List Loc} {M : HV}
    (F : Fr G y k p s m args meth c T.heap locs M) (X : Stand p l e R s m args below meth c T locs k n) : T.heap.size = gB G + M.length := by
  obtain ⟨-, -, -, -, -, -, -, -, hW, hP, hS, hz⟩ := F
  have h1 := X.heapSize
  have h2 : gB G + M.length ≤ T.heap.size := by
    by_cases h : M.length = 0
    · have h3 := hS.1
      have h4 : gB G ≤ s.heap.size := hW.2.2.2.2.2.2.1
      omega
    · obtain ⟨c, hc⟩ : ∃ c, M[M.length - 1]? = some c := ⟨_, List.getElem?_eq_getElem (by omega)⟩
      have h5 := (hP _ _ (mw_get hc)).lt
      have h5 : gB G + (M.length - 1) < T.heap.size := h5
      omega
  omega
/-! locals -/
def clr : Value → Value
  | .long _ => .retAddr 0
  | .double _ => .retAddr 0
  | v => v
def s1 : List Value → Nat → Value → List Value
  | [], _, _ => []
  | _ :: t, 0, v => v :: t
  | a :: t, 1, v => clr a :: s1 t 0 v
  | a :: t, i + 2, v => a :: s1 t (i + 1) v
def s2 : List Value → Nat → Value → List Value
  | [], _, _ => []
  | [_], 0, v => [v]
  | _ :: _ :: t, 0, v => v :: .retAddr 0 :: t
  | a :: t, 1, v => clr a :: s2 t 0 v
  | a :: t, i + 2, v => a :: s2 t (i + 1) v
theorem s1_get : ∀ (ls : List Value) (i : Nat) (v : Value) (j : Nat) (w : Value), (s1 ls i v)[j]? = some w → (j = i ∧ w = v) ∨ (j ≠ i ∧ j + 1 ≠ i ∧ ls[j]? = some w) ∨ (j + 1 = i ∧ ∃ u, ls[j]? = some u ∧ w = clr u)
  | [], _, _, _, _, h => by simp [s1] at h
  | a :: t, 0, v, 0, w, h => by simp [s1] at h; exact Or.inl ⟨rfl, h.symm⟩
  | a :: t, 0, v, j + 1, w, h => by simp [s1] at h; exact Or.inr (Or.inl ⟨by omega, by omega, by simpa using h⟩)
  | a :: t, 1, v, 0, w, h => by simp [s1] at h; exact Or.inr (Or.inr ⟨rfl, a, by simp, h.symm⟩)
  | a :: t, 1, v, j + 1, w, h => by
    simp only [s1, List.getElem?_cons_succ] at h
    rcases s1_get t 0 v j w h with ⟨h1, h2⟩ | ⟨h1, h2, h3⟩ | ⟨h1, u, h2, h3⟩
    · exact Or.inl ⟨by omega, h2⟩
    · exact Or.inr (Or.inl ⟨by omega, by omega, by simpa using h3⟩)
    · omega
  | a :: t, i + 2, v, 0, w, h => by simp [s1] at h; exact Or.inr (Or.inl ⟨by omega, by omega, by simpa using h⟩)
  | a :: t, i + 2, v, j + 1, w, h => by
    simp only [s1, List.getElem?_cons_succ] at h
    rcases s1_get t (i + 1) v j w h with ⟨h1, h2⟩ | ⟨h1, h2, h3⟩ | ⟨h1, u, h2, h3⟩
    · exact Or.inl ⟨by omega, h2⟩
    · exact Or.inr (Or.inl ⟨by omega, by omega, by simpa using h3⟩)
    · exact Or.inr (Or.inr ⟨by omega, u, by simpa using h2, h3⟩)
theorem s2_get : ∀ (ls : List Value) (i : Nat) (v : Value) (j : Nat) (w : Value), (s2 ls i v)[j]? = some w → (j = i ∧ w = v) ∨ (j = i + 1 ∧ w = .retAddr 0) ∨ (j ≠ i ∧ j ≠ i + 1 ∧ j + 1 ≠ i ∧ ls[j]? = some w) ∨ (j + 1 = i ∧ ∃ u, ls[j]? = some u ∧ w = clr u)
  | [], _, _, _, _, h => by simp [s2] at h
  | [a], 0, v, 0, w, h => by simp [s2] at h; exact Or.inl ⟨rfl, h.symm⟩
  | [a], 0, v, j + 1, w, h => by simp [s2] at h
  | a :: b :: t, 0, v, 0, w, h => by simp [s2] at h; exact Or.inl ⟨rfl, h.symm⟩
  | a :: b :: t, 0, v, 1, w, h => by simp [s2] at h; exact Or.inr (Or.inl ⟨rfl, h.symm⟩)
  | a :: b :: t, 0, v, j + 2, w, h => by simp [s2] at h; exact Or.inr (Or.inr (Or.inl ⟨by omega, by omega, by omega, by simpa using h⟩))
  | a :: t, 1, v, 0, w, h => by simp [s2] at h; exact Or.inr (Or.inr (Or.inr ⟨rfl, a, by simp, h.symm⟩))
  | a :: t, 1, v, j + 1, w, h => by
    simp only [s2, List.getElem?_cons_succ] at h
    rcases s2_get t 0 v j w h with ⟨h1, h2⟩ | ⟨h1, h2⟩ | ⟨h1, h2, h4, h3⟩ | ⟨h1, u, h2, h3⟩
    · exact Or.inl ⟨by omega, h2⟩
    · exact Or.inr (Or.inl ⟨by omega, h2⟩)
    · exact Or.inr (Or.inr (Or.inl ⟨by omega, by omega, by omega, by simpa using h3⟩))
    · omega
  | a :: t, i + 2, v, 0, w, h => by simp [s2] at h; exact Or.inr (Or.inr (Or.inl ⟨by omega, by omega, by omega, by simpa using h⟩))
  | a :: t, i + 2, v, j + 1, w, h => by
    simp only [s2, List.getElem?_cons_succ] at h
    rcases s2_get t (i + 1) v j w h with ⟨h1, h2⟩ | ⟨h1, h2⟩ | ⟨h1, h2, h4, h3⟩ | ⟨h1, u, h2, h3⟩
    · exact Or.inl ⟨by omega, h2⟩
    · exact Or.inr (Or.inl ⟨by omega, h2⟩)
    · exact Or.inr (Or.inr (Or.inl ⟨by omega, by omega, by omega, by simpa using h3⟩))
    · exact Or.inr (Or.inr (Or.inr ⟨by omega, u, by simpa using h2, h3⟩))
def loL (G : GT) (ls : List Value) : List (Nat × Value) := (List.range ls.length).filterMap fun i => match ls[i]? with
  | none => none
  | some v => if v = .retAddr 0 then none else some (i, mv G v)
theorem loL_mem {G : GT} {ls : List Value} {i : Nat} {v : Value} (h : ls[i]? = some v) (hv : v ≠ .retAddr 0) : (i, mv G v) ∈ loL G ls := by
  refine List.mem_filterMap.mpr ⟨i, List.mem_range.mpr (List.getElem?_eq_some_iff.mp h).1, ?_⟩
  simp [h, hv]
theorem Lo.has {G : GT} {n : Nat} {arr : Array Slot} {ls : List Value} (h : Lo G n arr ls) : lv_has arr n (loL G ls) := by
  refine ⟨h.1, h.2.1, fun q hq => ?_⟩
  obtain ⟨i, -, hi⟩ := List.mem_filterMap.mp hq
  split at hi
  · cases hi
  · next v hv =>
    split at hi
    · cases hi
    · next hne =>
      obtain rfl := Option.some.inj hi
      exact h.2.2 i v hv hne
theorem clr_cat {u w : Value} (h : w = clr u) (hw : w ≠ .retAddr 0) : w = u ∧ u.category ≠ 2 := by
  cases u <;> simp [clr] at h <;> first | exact absurd h hw | exact ⟨h, by simp [Value.category]⟩
theorem mv_cat (G : GT) (u : Value) : (mv G u).category = u.category := by
  cases u with
  | retAddr k =>
    by_cases h1 : k = 1
    · simp [mv, h1, Value.category]
    · by_cases h2 : k = 2 <;> simp [mv, h1, h2, Value.category]
  | _ => rfl
theorem mv_ne0 {G : GT} {u : Value} (h : u.category = 2) : u ≠ .retAddr 0 := by rintro rfl; cases h
theorem Lo.st1 {G : GT} {n i : Nat} {arr arr' : Array Slot} {ls : List Value} {v v' : Value} (hv : v' = mv G v) (h : Lo G n arr ls)
    (h' : lv_has arr' n ((i, v') :: (loL G ls).filter (fun q => !(q.1 == i) && !(q.1 + 1 == i && q.2.category == 2)))) : Lo G n arr' (s1 ls i v) := by
  refine ⟨h'.1, h'.2.1, fun j w hj hw => ?_⟩
  rcases s1_get ls i v j w hj with ⟨rfl, rfl⟩ | ⟨h1, h2, h3⟩ | ⟨h1, u, h2, h3⟩
  · rw [← hv]; exact h'.2.2 _ List.mem_cons_self
  · refine h'.2.2 (j, mv G w) (List.mem_cons_of_mem _ (List.mem_filter.mpr ⟨loL_mem h3 hw, ?_⟩))
    simp [h1, h2]
  · obtain ⟨rfl, hc⟩ := clr_cat h3 hw
    refine h'.2.2 (j, mv G w) (List.mem_cons_of_mem _ (List.mem_filter.mpr ⟨loL_mem h2 hw, ?_⟩))
    simp [mv_cat, hc]
    omega
theorem Lo.st2 {G : GT} {n i : Nat} {arr arr' : Array Slot} {ls : List Value} {v v' : Value} (hv : v' = mv G v) (h : Lo G n arr ls)
    (h' : lv_has arr' n ((i, v') :: (loL G ls).filter (fun q => !(q.1 == i) && (!(q.1 == i + 1) && !(q.1 + 1 == i && q.2.category == 2))))) : Lo G n arr' (s2 ls i v) := by
  refine ⟨h'.1, h'.2.1, fun j w hj hw => ?_⟩
  rcases s2_get ls i v j w hj with ⟨rfl, rfl⟩ | ⟨-, h2⟩ | ⟨h1, h4, h2, h3⟩ | ⟨h1, u, h2, h3⟩
  · rw [← hv]; exact h'.2.2 _ List.mem_cons_self
  · exact absurd h2 hw
  · refine h'.2.2 (j, mv G w) (List.mem_cons_of_mem _ (List.mem_filter.mpr ⟨loL_mem h3 hw, ?_⟩))
    simp [h1, h2, h4]
  · obtain ⟨rfl, hc⟩ := clr_cat h3 hw
    refine h'.2.2 (j, mv G w) (List.mem_cons_of_mem _ (List.mem_filter.mpr ⟨loL_mem h2 hw, ?_⟩))
    simp [mv_cat, hc]
    omega
def enA : List Value → List Value
  | [] => []
  | .long x :: t => .long x :: .retAddr 0 :: enA t
  | .double x :: t => .double x :: .retAddr 0 :: enA t
  | v :: t => v :: enA t
def en (a : List Value) (n : Nat) : List Value := enA a ++ List.replicate (n - (enA a).length) (.retAddr 0)
theorem en_mem {G : GT} : ∀ (a : List Value) (j i : Nat) (v : Value), (enA a)[i]? = some v → v ≠ .retAddr 0 → (j + i, mv G v) ∈ lv_args j (a.map (mv G))
  | [], j, i, v, h, hv => by simp [enA] at h
  | w :: t, j, i, v, h, hv => by
    by_cases hc : w.category = 2
    · have e : enA (w :: t) = w :: .retAddr 0 :: enA t := by cases w <;> first | rfl | (simp [Value.category] at hc)
      rw [e] at h
      match i, h with
      | 0, h => simp at h; subst h; simp [lv_args]
      | 1, h => simp at h; exact absurd h.symm hv
      | i + 2, h =>
        simp at h
        have h2 := en_mem (G := G) t (j + 2) i v h hv
        simp only [List.map_cons, lv_args, mv_cat, hc, if_true]
        refine List.mem_cons_of_mem _ ?_
        rw [show j + (i + 2) = j + 2 + i by omega]; exact h2
    · have e : enA (w :: t) = w :: enA t := by cases w <;> first | rfl | (simp [Value.category] at hc)
      rw [e] at h
      match i, h with
      | 0, h => simp at h; subst h; simp [lv_args]
      | i + 1, h =>
        simp at h
        have h2 := en_mem (G := G) t (j + 1) i v h hv
        simp only [List.map_cons, lv_args, mv_cat, hc, if_false]
        refine List.mem_cons_of_mem _ ?_
        rw [show j + (i + 1) = j + 1 + i by omega]; exact h2
theorem Lo_en {G : GT} {n : Nat} {arr : Array Slot} {a : List Value} (h : lv_has arr n (lv_args 0 (a.map (mv G)))) : Lo G n arr (en a n) := by
  refine ⟨h.1, h.2.1, fun i v hi hv => ?_⟩
  unfold en at hi
  by_cases hl : i < (enA a).length
  · rw [List.getElem?_append_left hl] at hi
    have := h.2.2 _ (en_mem (G := G) a 0 i v hi hv)
    simpa using this
  · rw [List.getElem?_append_right (by omega)] at hi
    have := List.mem_of_getElem? hi
    exact absurd (List.eq_of_mem_replicate this) hv
end
section
theorem i_in {x : Int} (h : -2147483648 ≤ x ∧ x < 2147483648) : (Int32.ofInt x).toInt = x := Int32.toInt_ofInt_of_le (by simpa using h.1) (by simpa using h.2)
theorem l_in {x : Int} (h : -9223372036854775808 ≤ x ∧ x < 9223372036854775808) : (Int64.ofInt x).toInt = x := Int64.toInt_ofInt_of_le (by simpa using h.1) (by simpa using h.2)
theorem i_le {x z : Int} (hx : -2147483648 ≤ x ∧ x < 2147483648) (hz : -2147483648 ≤ z ∧ z < 2147483648) : Int32.ofInt x ≤ Int32.ofInt z ↔ x ≤ z := by rw [Int32.le_iff_toInt_le, i_in hx, i_in hz]
theorem i_lt {x z : Int} (hx : -2147483648 ≤ x ∧ x < 2147483648) (hz : -2147483648 ≤ z ∧ z < 2147483648) : Int32.ofInt x < Int32.ofInt z ↔ x < z := by rw [Int32.lt_iff_toInt_lt, i_in hx, i_in hz]
theorem i_eq {x z : Int} (hx : -2147483648 ≤ x ∧ x < 2147483648) (hz : -2147483648 ≤ z ∧ z < 2147483648) : Int32.ofInt x = Int32.ofInt z ↔ x = z := by rw [← Int32.toInt_inj, i_in hx, i_in hz]
theorem l_le {x z : Int} (hx : -9223372036854775808 ≤ x ∧ x < 9223372036854775808) (hz : -9223372036854775808 ≤ z ∧ z < 9223372036854775808) : Int64.ofInt x ≤ Int64.ofInt z ↔ x ≤ z := by rw [Int64.le_iff_toInt_le, l_in hx, l_in hz]
theorem l_lt {x z : Int} (hx : -9223372036854775808 ≤ x ∧ x < 9223372036854775808) (hz : -9223372036854775808 ≤ z ∧ z < 9223372036854775808) : Int64.ofInt x < Int64.ofInt z ↔ x < z := by rw [Int64.lt_iff_toInt_lt, l_in hx, l_in hz]
theorem l_eq {x z : Int} (hx : -9223372036854775808 ≤ x ∧ x < 9223372036854775808) (hz : -9223372036854775808 ≤ z ∧ z < 9223372036854775808) : Int64.ofInt x = Int64.ofInt z ↔ x = z := by rw [← Int64.toInt_inj, l_in hx, l_in hz]
theorem i_0 : Int32.ofInt 0 = 0 := rfl
theorem i_div {x z : Int} (hx : -2147483648 ≤ x ∧ x < 2147483648) (hz : -2147483648 ≤ z ∧ z < 2147483648) : Int32.ofInt x / Int32.ofInt z = Int32.ofInt (x.tdiv z) := by
  rw [← Int32.toInt_inj, Int32.toInt_div, i_in hx, i_in hz, Int32.toInt_ofInt]
theorem l_div {x z : Int} (hx : -9223372036854775808 ≤ x ∧ x < 9223372036854775808) (hz : -9223372036854775808 ≤ z ∧ z < 9223372036854775808) : Int64.ofInt x / Int64.ofInt z = Int64.ofInt (x.tdiv z) := by
  rw [← Int64.toInt_inj, Int64.toInt_div, l_in hx, l_in hz, Int64.toInt_ofInt]
theorem i_rem {x z : Int} (hx : -2147483648 ≤ x ∧ x < 2147483648) (hz : -2147483648 ≤ z ∧ z < 2147483648) : Int32.ofInt x - Int32.ofInt x / Int32.ofInt z * Int32.ofInt z = Int32.ofInt (x.tmod z) := by
  rw [i_div hx hz, ← Int32.ofInt_mul, ← Int32.ofInt_sub, Int.tmod_def, Int.mul_comm z]
theorem l_rem {x z : Int} (hx : -9223372036854775808 ≤ x ∧ x < 9223372036854775808) (hz : -9223372036854775808 ≤ z ∧ z < 9223372036854775808) : Int64.ofInt x - Int64.ofInt x / Int64.ofInt z * Int64.ofInt z = Int64.ofInt (x.tmod z) := by
  rw [l_div hx hz, ← Int64.ofInt_mul, ← Int64.ofInt_sub, Int.tmod_def, Int.mul_comm z]
theorem i2l_e {x : Int} (hx : -2147483648 ≤ x ∧ x < 2147483648) : (Int32.ofInt x).toInt64 = Int64.ofInt x := by
  rw [← Int64.toInt_inj, Int32.toInt_toInt64, i_in hx, l_in (by omega)]
theorem l2i_e (x : Int) : (Int64.ofInt x).toInt32 = Int32.ofInt x := by
  rw [← Int32.toInt_inj, Int64.toInt_toInt32, Int64.toInt_ofInt, Int32.toInt_ofInt]
  exact Int.bmod_bmod_of_dvd (by decide)
theorem E.eq {G : GT} {y : MI} {Z : ZT} {k n pc : Nat} {ls st : List Value} {M : HV} {pc' : Nat} {ls' st' : List Value} {M' : HV} (h : E G y Z k n pc' ls' st' M') (e1 : pc = pc') (e2 : ls = ls') (e3 : st = st') (e4 : M = M') : E G y Z k n pc ls st M := by
  subst e1 e2 e3 e4; exact h

theorem E_iconst {G : GT} {y : MI} {Z : ZT} {k n pc : Nat} {ls st : List Value} {M : HV} {a : Int} (hd : decode (iC y) pc = .ok (.iconst a, 1)) (h : E G y Z k n (pc + 1) ls (vi a :: st) M) : E G y Z k n pc ls st M := by
  intro p e s m args below meth c H locs arr F hl
  obtain ⟨hx, hb, -⟩ := id F
  exact lv_iconst hx hb hd rfl (h p e s m args below meth c H locs arr F hl)
theorem bi_e {a : Int} (ha : -128 ≤ a ∧ a < 128) : (Int8.ofInt a).toInt32 = Int32.ofInt a := by
  rw [← Int32.toInt_inj, Int8.toInt_toInt32, Int8.toInt_ofInt_of_le (by simpa using ha.1) (by simpa using ha.2), i_in (by omega)]
theorem si_e {a : Int} (ha : -32768 ≤ a ∧ a < 32768) : (Int16.ofInt a).toInt32 = Int32.ofInt a := by
  rw [← Int32.toInt_inj, Int16.toInt_toInt32, Int16.toInt_ofInt_of_le (by simpa using ha.1) (by simpa using ha.2), i_in (by omega)]
theorem E_bipush {G : GT} {y : MI} {Z : ZT} {k n pc : Nat} {ls st : List Value} {M : HV} {a : Int} (hd : decode (iC y) pc = .ok (.bipush a, 2)) (h : E G y Z k n (pc + 2) ls (vi a :: st) M) (ha : -128 ≤ a ∧ a < 128 := by decide) : E G y Z k n pc ls st M := by
  intro p e s m args below meth c H locs arr F hl
  obtain ⟨hx, hb, -⟩ := id F
  exact lv_bipush hx hb hd (bi_e ha) (h p e s m args below meth c H locs arr F hl)
theorem E_sipush {G : GT} {y : MI} {Z : ZT} {k n pc : Nat} {ls st : List Value} {M : HV} {a : Int} (hd : decode (iC y) pc = .ok (.sipush a, 3)) (h : E G y Z k n (pc + 3) ls (vi a :: st) M) (ha : -32768 ≤ a ∧ a < 32768 := by decide) : E G y Z k n pc ls st M := by
  intro p e s m args below meth c H locs arr F hl
  obtain ⟨hx, hb, -⟩ := id F
  exact lv_sipush hx hb hd (si_e ha) (h p e s m args below meth c H locs arr F hl)
theorem E_lconst {G : GT} {y : MI} {Z : ZT} {k n pc : Nat} {ls st : List Value} {M : HV} {a : Fin 2} (hd : decode (iC y) pc = .ok (.lconst a, 1)) (h : E G y Z k n (pc + 1) ls (vl ((a : Nat) : Int) :: st) M) : E G y Z k n pc ls st M := by
  intro p e s m args below meth c H locs arr F hl
  obtain ⟨hx, hb, -⟩ := id F
  exact lv_lconst hx hb hd rfl (h p e s m args below meth c H locs arr F hl)
theorem E_lconst0 {G : GT} {y : MI} {Z : ZT} {k n pc : Nat} {ls st : List Value} {M : HV} (hd : decode (iC y) pc = .ok (.lconst 0, 1)) (h : E G y Z k n (pc + 1) ls (vl 0 :: st) M) : E G y Z k n pc ls st M := E_lconst hd h
theorem E_lconst1 {G : GT} {y : MI} {Z : ZT} {k n pc : Nat} {ls st : List Value} {M : HV} (hd : decode (iC y) pc = .ok (.lconst 1, 1)) (h : E G y Z k n (pc + 1) ls (vl 1 :: st) M) : E G y Z k n pc ls st M := E_lconst hd h
theorem E_ldc2 {G : GT} {y : MI} {Z : ZT} {k n pc : Nat} {ls st : List Value} {M : HV} {i : Nat} {a : Int} (hd : decode (iC y) pc = .ok (.ldc2_w i, 3)) (hw : Cond.constantLong (iY y).cls i (Int64.ofInt a) ∈ lw_ok) (h : E G y Z k n (pc + 3) ls (vl a :: st) M) : E G y Z k n pc ls st M := by
  intro p e s m args below meth c H locs arr F hl
  obtain ⟨hx, hb, -⟩ := id F
  exact lv_ldc2 hx hb F.2.2.2.2.2.2.1 (F.2.2.2.2.2.2.2.1 _ hw) hd (h p e s m args below meth c H locs arr F hl)
theorem E_ldcw {G : GT} {y : MI} {Z : ZT} {k n pc : Nat} {ls st : List Value} {M : HV} {i : Nat} {a : Int} (hd : decode (iC y) pc = .ok (.ldc_w i, 3)) (hw : Cond.constant (iY y).cls i (Int32.ofInt a) ∈ lw_ok) (h : E G y Z k n (pc + 3) ls (vi a :: st) M) : E G y Z k n pc ls st M := by
  intro p e s m args below meth c H locs arr F hl
  obtain ⟨hx, hb, -⟩ := id F
  exact lv_ldcw hx hb F.2.2.2.2.2.2.1 (F.2.2.2.2.2.2.2.1 _ hw) hd (h p e s m args below meth c H locs arr F hl)
theorem Lo.at {G : GT} {n i : Nat} {arr : Array Slot} {ls : List Value} {v : Value} (h : Lo G n arr ls) (hi : ls[i]? = some v) (hv : v ≠ .retAddr 0) : arr[i]? = some (.val (mv G v)) := h.2.2 i v hi hv
theorem E_iload {G : GT} {y : MI} {Z : ZT} {k n pc : Nat} {ls st : List Value} {M : HV} {i : Nat} {x : Int} (hd : decode (iC y) pc = .ok (.iload i, 2)) (hi : ls[i]? = some (vi x)) (h : E G y Z k n (pc + 2) ls (vi x :: st) M) : E G y Z k n pc ls st M := by
  intro p e s m args below meth c H locs arr F hl
  obtain ⟨hx, hb, -⟩ := id F
  exact lv_iload hx hb hd (hl.at hi (by simp [vi])) (h p e s m args below meth c H locs arr F hl)
theorem E_iload_n {G : GT} {y : MI} {Z : ZT} {k n pc : Nat} {ls st : List Value} {M : HV} {i : Fin 4} {x : Int} (hd : decode (iC y) pc = .ok (.iload_n i, 1)) (hi : ls[(i : Nat)]? = some (vi x)) (h : E G y Z k n (pc + 1) ls (vi x :: st) M) : E G y Z k n pc ls st M := by
  intro p e s m args below meth c H locs arr F hl
  obtain ⟨hx, hb, -⟩ := id F
  exact lv_iload_n hx hb hd rfl (hl.at hi (by simp [vi])) (h p e s m args below meth c H locs arr F hl)
theorem E_lload {G : GT} {y : MI} {Z : ZT} {k n pc : Nat} {ls st : List Value} {M : HV} {i : Nat} {x : Int} (hd : decode (iC y) pc = .ok (.lload i, 2)) (hi : ls[i]? = some (vl x)) (h : E G y Z k n (pc + 2) ls (vl x :: st) M) : E G y Z k n pc ls st M := by
  intro p e s m args below meth c H locs arr F hl
  obtain ⟨hx, hb, -⟩ := id F
  exact lv_lload hx hb hd (hl.at hi (by simp [vl])) (h p e s m args below meth c H locs arr F hl)
theorem E_lload_n {G : GT} {y : MI} {Z : ZT} {k n pc : Nat} {ls st : List Value} {M : HV} {i : Fin 4} {x : Int} (hd : decode (iC y) pc = .ok (.lload_n i, 1)) (hi : ls[(i : Nat)]? = some (vl x)) (h : E G y Z k n (pc + 1) ls (vl x :: st) M) : E G y Z k n pc ls st M := by
  intro p e s m args below meth c H locs arr F hl
  obtain ⟨hx, hb, -⟩ := id F
  exact lv_lload_n hx hb hd rfl (hl.at hi (by simp [vl])) (h p e s m args below meth c H locs arr F hl)
theorem E_aload {G : GT} {y : MI} {Z : ZT} {k n pc : Nat} {ls st : List Value} {M : HV} {i : Nat} {r : Nat} (hd : decode (iC y) pc = .ok (.aload i, 2)) (hi : ls[i]? = some (.ref r)) (h : E G y Z k n (pc + 2) ls (.ref r :: st) M) : E G y Z k n pc ls st M := by
  intro p e s m args below meth c H locs arr F hl
  obtain ⟨hx, hb, -⟩ := id F
  exact lv_aload hx hb hd (hl.at hi (by simp)) (h p e s m args below meth c H locs arr F hl)
theorem E_aload_n {G : GT} {y : MI} {Z : ZT} {k n pc : Nat} {ls st : List Value} {M : HV} {i : Fin 4} {r : Nat} (hd : decode (iC y) pc = .ok (.aload_n i, 1)) (hi : ls[(i : Nat)]? = some (.ref r)) (h : E G y Z k n (pc + 1) ls (.ref r :: st) M) : E G y Z k n pc ls st M := by
  intro p e s m args below meth c H locs arr F hl
  obtain ⟨hx, hb, -⟩ := id F
  exact lv_aload_n hx hb hd rfl (hl.at hi (by simp)) (h p e s m args below meth c H locs arr F hl)
theorem E_aload_s {G : GT} {y : MI} {Z : ZT} {k n pc : Nat} {ls st : List Value} {M : HV} {i : Fin 4} (hd : decode (iC y) pc = .ok (.aload_n i, 1)) (hi : ls[(i : Nat)]? = some (.retAddr 1)) (h : E G y Z k n (pc + 1) ls (.retAddr 1 :: st) M) : E G y Z k n pc ls st M := by
  intro p e s m args below meth c H locs arr F hl
  obtain ⟨hx, hb, -⟩ := id F
  exact lv_aload_n hx hb hd rfl (hl.at hi (by simp)) (h p e s m args below meth c H locs arr F hl)
theorem E_istore {G : GT} {y : MI} {Z : ZT} {k n pc : Nat} {ls st : List Value} {M : HV} {i : Nat} {x : Int} (hd : decode (iC y) pc = .ok (.istore i, 2)) (h : E G y Z k n (pc + 2) (s1 ls i (vi x)) st M) (hn : i < iL y := by decide) : E G y Z k n pc ls (vi x :: st) M := by
  intro p e s m args below meth c H locs arr F hl
  obtain ⟨hx, hb, -⟩ := id F
  exact lv_istore hx hb hd hl.has hn rfl (fun arr' h' => h p e s m args below meth c H locs arr' F (hl.st1 rfl h'))
theorem E_istore_n {G : GT} {y : MI} {Z : ZT} {k n pc : Nat} {ls st : List Value} {M : HV} {i : Fin 4} {x : Int} (hd : decode (iC y) pc = .ok (.istore_n i, 1)) (h : E G y Z k n (pc + 1) (s1 ls (i : Nat) (vi x)) st M) (hn : (i : Nat) < iL y := by decide) : E G y Z k n pc ls (vi x :: st) M := by
  intro p e s m args below meth c H locs arr F hl
  obtain ⟨hx, hb, -⟩ := id F
  exact lv_istore_n hx hb hd rfl hl.has hn rfl (fun arr' h' => h p e s m args below meth c H locs arr' F (hl.st1 rfl h'))
theorem E_lstore {G : GT} {y : MI} {Z : ZT} {k n pc : Nat} {ls st : List Value} {M : HV} {i : Nat} {x : Int} (hd : decode (iC y) pc = .ok (.lstore i, 2)) (h : E G y Z k n (pc + 2) (s2 ls i (vl x)) st M) (hn : i + 1 < iL y := by decide) : E G y Z k n pc ls (vl x :: st) M := by
  intro p e s m args below meth c H locs arr F hl
  obtain ⟨hx, hb, -⟩ := id F
  exact lv_lstore hx hb hd hl.has hn rfl (fun arr' h' => h p e s m args below meth c H locs arr' F (hl.st2 rfl h'))
theorem E_lstore_n {G : GT} {y : MI} {Z : ZT} {k n pc : Nat} {ls st : List Value} {M : HV} {i : Fin 4} {x : Int} (hd : decode (iC y) pc = .ok (.lstore_n i, 1)) (h : E G y Z k n (pc + 1) (s2 ls (i : Nat) (vl x)) st M) (hn : (i : Nat) + 1 < iL y := by decide) : E G y Z k n pc ls (vl x :: st) M := by
  intro p e s m args below meth c H locs arr F hl
  obtain ⟨hx, hb, -⟩ := id F
  exact lv_lstore_n hx hb hd rfl hl.has hn rfl (fun arr' h' => h p e s m args below meth c H locs arr' F (hl.st2 rfl h'))
theorem E_astore {G : GT} {y : MI} {Z : ZT} {k n pc : Nat} {ls st : List Value} {M : HV} {i : Nat} {r : Nat} (hd : decode (iC y) pc = .ok (.astore i, 2)) (h : E G y Z k n (pc + 2) (s1 ls i (.ref r)) st M) (hn : i < iL y := by decide) : E G y Z k n pc ls (.ref r :: st) M := by
  intro p e s m args below meth c H locs arr F hl
  obtain ⟨hx, hb, -⟩ := id F
  exact lv_astore hx hb hd hl.has hn rfl (fun arr' h' => h p e s m args below meth c H locs arr' F (hl.st1 rfl h'))
theorem E_astore_n {G : GT} {y : MI} {Z : ZT} {k n pc : Nat} {ls st : List Value} {M : HV} {i : Fin 4} {r : Nat} (hd : decode (iC y) pc = .ok (.astore_n i, 1)) (h : E G y Z k n (pc + 1) (s1 ls (i : Nat) (.ref r)) st M) (hn : (i : Nat) < iL y := by decide) : E G y Z k n pc ls (.ref r :: st) M := by
  intro p e s m args below meth c H locs arr F hl
  obtain ⟨hx, hb, -⟩ := id F
  exact lv_astore_n hx hb hd rfl hl.has hn rfl (fun arr' h' => h p e s m args below meth c H locs arr' F (hl.st1 rfl h'))
theorem E_iinc {G : GT} {y : MI} {Z : ZT} {k n pc : Nat} {ls st : List Value} {M : HV} {i : Nat} {a x : Int} (hd : decode (iC y) pc = .ok (.iinc i a, 3)) (hi : ls[i]? = some (vi x)) (h : E G y Z k n (pc + 3) (s1 ls i (vi (x + a))) st M) (hn : i < iL y := by decide) : E G y Z k n pc ls st M := by
  intro p e s m args below meth c H locs arr F hl
  obtain ⟨hx, hb, -⟩ := id F
  obtain ⟨q, hq⟩ := List.getElem?_of_mem (loL_mem (G := G) hi (by simp [vi]))
  exact lv_iinc hx hb hd hl.has hq (Int32.ofInt_add x a).symm hn rfl (fun arr' h' => h p e s m args below meth c H locs arr' F (hl.st1 rfl h'))
theorem E_iadd {G : GT} {y : MI} {Z : ZT} {k n pc : Nat} {ls st : List Value} {M : HV} {x z : Int} (hd : decode (iC y) pc = .ok (.iadd, 1)) (h : E G y Z k n (pc + 1) ls (vi (x + z) :: st) M) : E G y Z k n pc ls (vi z :: vi x :: st) M := by
  intro p e s m args below meth c H locs arr F hl
  obtain ⟨hx, hb, -⟩ := id F
  refine lv_iadd hx hb hd ?_
  rw [← Int32.ofInt_add]
  exact h p e s m args below meth c H locs arr F hl
theorem E_ladd {G : GT} {y : MI} {Z : ZT} {k n pc : Nat} {ls st : List Value} {M : HV} {x z : Int} (hd : decode (iC y) pc = .ok (.ladd, 1)) (h : E G y Z k n (pc + 1) ls (vl (x + z) :: st) M) : E G y Z k n pc ls (vl z :: vl x :: st) M := by
  intro p e s m args below meth c H locs arr F hl
  obtain ⟨hx, hb, -⟩ := id F
  refine lv_ladd hx hb hd ?_
  rw [← Int64.ofInt_add]
  exact h p e s m args below meth c H locs arr F hl
theorem E_isub {G : GT} {y : MI} {Z : ZT} {k n pc : Nat} {ls st : List Value} {M : HV} {x z : Int} (hd : decode (iC y) pc = .ok (.isub, 1)) (h : E G y Z k n (pc + 1) ls (vi (x - z) :: st) M) : E G y Z k n pc ls (vi z :: vi x :: st) M := by
  intro p e s m args below meth c H locs arr F hl
  obtain ⟨hx, hb, -⟩ := id F
  refine lv_isub hx hb hd ?_
  rw [← Int32.ofInt_sub]
  exact h p e s m args below meth c H locs arr F hl
theorem E_lsub {G : GT} {y : MI} {Z : ZT} {k n pc : Nat} {ls st : List Value} {M : HV} {x z : Int} (hd : decode (iC y) pc = .ok (.lsub, 1)) (h : E G y Z k n (pc + 1) ls (vl (x - z) :: st) M) : E G y Z k n pc ls (vl z :: vl x :: st) M := by
  intro p e s m args below meth c H locs arr F hl
  obtain ⟨hx, hb, -⟩ := id F
  refine lv_lsub hx hb hd ?_
  rw [← Int64.ofInt_sub]
  exact h p e s m args below meth c H locs arr F hl
theorem E_imul {G : GT} {y : MI} {Z : ZT} {k n pc : Nat} {ls st : List Value} {M : HV} {x z : Int} (hd : decode (iC y) pc = .ok (.imul, 1)) (h : E G y Z k n (pc + 1) ls (vi (x * z) :: st) M) : E G y Z k n pc ls (vi z :: vi x :: st) M := by
  intro p e s m args below meth c H locs arr F hl
  obtain ⟨hx, hb, -⟩ := id F
  refine lv_imul hx hb hd ?_
  rw [← Int32.ofInt_mul]
  exact h p e s m args below meth c H locs arr F hl
theorem E_lmul {G : GT} {y : MI} {Z : ZT} {k n pc : Nat} {ls st : List Value} {M : HV} {x z : Int} (hd : decode (iC y) pc = .ok (.lmul, 1)) (h : E G y Z k n (pc + 1) ls (vl (x * z) :: st) M) : E G y Z k n pc ls (vl z :: vl x :: st) M := by
  intro p e s m args below meth c H locs arr F hl
  obtain ⟨hx, hb, -⟩ := id F
  refine lv_lmul hx hb hd ?_
  rw [← Int64.ofInt_mul]
  exact h p e s m args below meth c H locs arr F hl
theorem E_idiv {G : GT} {y : MI} {Z : ZT} {k n pc : Nat} {ls st : List Value} {M : HV} {x z : Int} (hd : decode (iC y) pc = .ok (.idiv, 1)) (h : E G y Z k n (pc + 1) ls (vi (x.tdiv z) :: st) M) (hz0 : z ≠ 0 := by omega) (hrx : -2147483648 ≤ x ∧ x < 2147483648 := by omega) (hrz : -2147483648 ≤ z ∧ z < 2147483648 := by omega) : E G y Z k n pc ls (vi z :: vi x :: st) M := by
  intro p e s m args below meth c H locs arr F hl
  obtain ⟨hx, hb, -⟩ := id F
  refine lv_idiv hx hb hd (fun e0 => hz0 ((i_eq hrz (by omega)).mp e0)) ?_
  rw [i_div hrx hrz]
  exact h p e s m args below meth c H locs arr F hl
theorem E_irem {G : GT} {y : MI} {Z : ZT} {k n pc : Nat} {ls st : List Value} {M : HV} {x z : Int} (hd : decode (iC y) pc = .ok (.irem, 1)) (h : E G y Z k n (pc + 1) ls (vi (x.tmod z) :: st) M) (hz0 : z ≠ 0 := by omega) (hrx : -2147483648 ≤ x ∧ x < 2147483648 := by omega) (hrz : -2147483648 ≤ z ∧ z < 2147483648 := by omega) : E G y Z k n pc ls (vi z :: vi x :: st) M := by
  intro p e s m args below meth c H locs arr F hl
  obtain ⟨hx, hb, -⟩ := id F
  refine lv_irem hx hb hd (fun e0 => hz0 ((i_eq hrz (by omega)).mp e0)) ?_
  rw [i_rem hrx hrz]
  exact h p e s m args below meth c H locs arr F hl
theorem E_ineg {G : GT} {y : MI} {Z : ZT} {k n pc : Nat} {ls st : List Value} {M : HV} {x : Int} (hd : decode (iC y) pc = .ok (.ineg, 1)) (h : E G y Z k n (pc + 1) ls (vi (-x) :: st) M) : E G y Z k n pc ls (vi x :: st) M := by
  intro p e s m args below meth c H locs arr F hl
  obtain ⟨hx, hb, -⟩ := id F
  refine lv_ineg hx hb hd ?_
  rw [← Int32.ofInt_neg]
  exact h p e s m args below meth c H locs arr F hl
theorem E_ldiv {G : GT} {y : MI} {Z : ZT} {k n pc : Nat} {ls st : List Value} {M : HV} {x z : Int} (hd : decode (iC y) pc = .ok (.ldiv, 1)) (h : E G y Z k n (pc + 1) ls (vl (x.tdiv z) :: st) M) (hz0 : z ≠ 0 := by omega) (hrx : -9223372036854775808 ≤ x ∧ x < 9223372036854775808 := by omega) (hrz : -9223372036854775808 ≤ z ∧ z < 9223372036854775808 := by omega) : E G y Z k n pc ls (vl z :: vl x :: st) M := by
  intro p e s m args below meth c H locs arr F hl
  obtain ⟨hx, hb, -⟩ := id F
  refine lv_ldiv hx hb hd (fun e0 => hz0 ((l_eq hrz (by omega)).mp e0)) ?_
  rw [l_div hrx hrz]
  exact h p e s m args below meth c H locs arr F hl
theorem E_lrem {G : GT} {y : MI} {Z : ZT} {k n pc : Nat} {ls st : List Value} {M : HV} {x z : Int} (hd : decode (iC y) pc = .ok (.lrem, 1)) (h : E G y Z k n (pc + 1) ls (vl (x.tmod z) :: st) M) (hz0 : z ≠ 0 := by omega) (hrx : -9223372036854775808 ≤ x ∧ x < 9223372036854775808 := by omega) (hrz : -9223372036854775808 ≤ z ∧ z < 9223372036854775808 := by omega) : E G y Z k n pc ls (vl z :: vl x :: st) M := by
  intro p e s m args below meth c H locs arr F hl
  obtain ⟨hx, hb, -⟩ := id F
  refine lv_lrem hx hb hd (fun e0 => hz0 ((l_eq hrz (by omega)).mp e0)) ?_
  rw [l_rem hrx hrz]
  exact h p e s m args below meth c H locs arr F hl
theorem E_lneg {G : GT} {y : MI} {Z : ZT} {k n pc : Nat} {ls st : List Value} {M : HV} {x : Int} (hd : decode (iC y) pc = .ok (.lneg, 1)) (h : E G y Z k n (pc + 1) ls (vl (-x) :: st) M) : E G y Z k n pc ls (vl x :: st) M := by
  intro p e s m args below meth c H locs arr F hl
  obtain ⟨hx, hb, -⟩ := id F
  refine lv_lneg hx hb hd ?_
  rw [← Int64.ofInt_neg]
  exact h p e s m args below meth c H locs arr F hl
theorem E_iand {G : GT} {y : MI} {Z : ZT} {k n pc : Nat} {ls st : List Value} {M : HV} {x z : Int} (u : Int) (hd : decode (iC y) pc = .ok (.iand, 1)) (hu : Int32.ofInt x &&& Int32.ofInt z = Int32.ofInt u) (h : E G y Z k n (pc + 1) ls (vi u :: st) M) : E G y Z k n pc ls (vi z :: vi x :: st) M := by
  intro p e s m args below meth c H locs arr F hl
  obtain ⟨hx, hb, -⟩ := id F
  refine lv_iand hx hb hd ?_
  rw [hu]
  exact h p e s m args below meth c H locs arr F hl
theorem E_ior {G : GT} {y : MI} {Z : ZT} {k n pc : Nat} {ls st : List Value} {M : HV} {x z : Int} (u : Int) (hd : decode (iC y) pc = .ok (.ior, 1)) (hu : Int32.ofInt x ||| Int32.ofInt z = Int32.ofInt u) (h : E G y Z k n (pc + 1) ls (vi u :: st) M) : E G y Z k n pc ls (vi z :: vi x :: st) M := by
  intro p e s m args below meth c H locs arr F hl
  obtain ⟨hx, hb, -⟩ := id F
  refine lv_ior hx hb hd ?_
  rw [hu]
  exact h p e s m args below meth c H locs arr F hl
theorem E_ixor {G : GT} {y : MI} {Z : ZT} {k n pc : Nat} {ls st : List Value} {M : HV} {x z : Int} (u : Int) (hd : decode (iC y) pc = .ok (.ixor, 1)) (hu : Int32.ofInt x ^^^ Int32.ofInt z = Int32.ofInt u) (h : E G y Z k n (pc + 1) ls (vi u :: st) M) : E G y Z k n pc ls (vi z :: vi x :: st) M := by
  intro p e s m args below meth c H locs arr F hl
  obtain ⟨hx, hb, -⟩ := id F
  refine lv_ixor hx hb hd ?_
  rw [hu]
  exact h p e s m args below meth c H locs arr F hl
theorem E_land {G : GT} {y : MI} {Z : ZT} {k n pc : Nat} {ls st : List Value} {M : HV} {x z : Int} (u : Int) (hd : decode (iC y) pc = .ok (.land, 1)) (hu : Int64.ofInt x &&& Int64.ofInt z = Int64.ofInt u) (h : E G y Z k n (pc + 1) ls (vl u :: st) M) : E G y Z k n pc ls (vl z :: vl x :: st) M := by
  intro p e s m args below meth c H locs arr F hl
  obtain ⟨hx, hb, -⟩ := id F
  refine lv_land hx hb hd ?_
  rw [hu]
  exact h p e s m args below meth c H locs arr F hl
theorem E_lor {G : GT} {y : MI} {Z : ZT} {k n pc : Nat} {ls st : List Value} {M : HV} {x z : Int} (u : Int) (hd : decode (iC y) pc = .ok (.lor, 1)) (hu : Int64.ofInt x ||| Int64.ofInt z = Int64.ofInt u) (h : E G y Z k n (pc + 1) ls (vl u :: st) M) : E G y Z k n pc ls (vl z :: vl x :: st) M := by
  intro p e s m args below meth c H locs arr F hl
  obtain ⟨hx, hb, -⟩ := id F
  refine lv_lor hx hb hd ?_
  rw [hu]
  exact h p e s m args below meth c H locs arr F hl
theorem E_lxor {G : GT} {y : MI} {Z : ZT} {k n pc : Nat} {ls st : List Value} {M : HV} {x z : Int} (u : Int) (hd : decode (iC y) pc = .ok (.lxor, 1)) (hu : Int64.ofInt x ^^^ Int64.ofInt z = Int64.ofInt u) (h : E G y Z k n (pc + 1) ls (vl u :: st) M) : E G y Z k n pc ls (vl z :: vl x :: st) M := by
  intro p e s m args below meth c H locs arr F hl
  obtain ⟨hx, hb, -⟩ := id F
  refine lv_lxor hx hb hd ?_
  rw [hu]
  exact h p e s m args below meth c H locs arr F hl
theorem E_ishl {G : GT} {y : MI} {Z : ZT} {k n pc : Nat} {ls st : List Value} {M : HV} {x z : Int} (u : Int) (hd : decode (iC y) pc = .ok (.ishl, 1)) (hu : Int32.ofInt x <<< (Int32.ofInt z &&& 31) = Int32.ofInt u) (h : E G y Z k n (pc + 1) ls (vi u :: st) M) : E G y Z k n pc ls (vi z :: vi x :: st) M := by
  intro p e s m args below meth c H locs arr F hl
  obtain ⟨hx, hb, -⟩ := id F
  refine lv_ishl hx hb hd ?_
  rw [hu]
  exact h p e s m args below meth c H locs arr F hl
theorem E_ishr {G : GT} {y : MI} {Z : ZT} {k n pc : Nat} {ls st : List Value} {M : HV} {x z : Int} (u : Int) (hd : decode (iC y) pc = .ok (.ishr, 1)) (hu : Int32.ofInt x >>> (Int32.ofInt z &&& 31) = Int32.ofInt u) (h : E G y Z k n (pc + 1) ls (vi u :: st) M) : E G y Z k n pc ls (vi z :: vi x :: st) M := by
  intro p e s m args below meth c H locs arr F hl
  obtain ⟨hx, hb, -⟩ := id F
  refine lv_ishr hx hb hd ?_
  rw [hu]
  exact h p e s m args below meth c H locs arr F hl
theorem E_iushr {G : GT} {y : MI} {Z : ZT} {k n pc : Nat} {ls st : List Value} {M : HV} {x z : Int} (u : Int) (hd : decode (iC y) pc = .ok (.iushr, 1)) (hu : ((Int32.ofInt x).toUInt32 >>> ((Int32.ofInt z).toUInt32 &&& Int32.toUInt32 31)).toInt32 = Int32.ofInt u) (h : E G y Z k n (pc + 1) ls (vi u :: st) M) : E G y Z k n pc ls (vi z :: vi x :: st) M := by
  intro p e s m args below meth c H locs arr F hl
  obtain ⟨hx, hb, -⟩ := id F
  exact lv_iushr hx hb hd hu (h p e s m args below meth c H locs arr F hl)
theorem E_lshl {G : GT} {y : MI} {Z : ZT} {k n pc : Nat} {ls st : List Value} {M : HV} {x z : Int} (u : Int) (hd : decode (iC y) pc = .ok (.lshl, 1)) (hu : Int64.ofInt x <<< ((Int32.ofInt z).toInt64 &&& 63) = Int64.ofInt u) (h : E G y Z k n (pc + 1) ls (vl u :: st) M) : E G y Z k n pc ls (vi z :: vl x :: st) M := by
  intro p e s m args below meth c H locs arr F hl
  obtain ⟨hx, hb, -⟩ := id F
  exact lv_lshl hx hb hd hu (h p e s m args below meth c H locs arr F hl)
theorem E_lshr {G : GT} {y : MI} {Z : ZT} {k n pc : Nat} {ls st : List Value} {M : HV} {x z : Int} (u : Int) (hd : decode (iC y) pc = .ok (.lshr, 1)) (hu : Int64.ofInt x >>> ((Int32.ofInt z).toInt64 &&& 63) = Int64.ofInt u) (h : E G y Z k n (pc + 1) ls (vl u :: st) M) : E G y Z k n pc ls (vi z :: vl x :: st) M := by
  intro p e s m args below meth c H locs arr F hl
  obtain ⟨hx, hb, -⟩ := id F
  exact lv_lshr hx hb hd hu (h p e s m args below meth c H locs arr F hl)
theorem E_lushr {G : GT} {y : MI} {Z : ZT} {k n pc : Nat} {ls st : List Value} {M : HV} {x z : Int} (u : Int) (hd : decode (iC y) pc = .ok (.lushr, 1)) (hu : ((Int64.ofInt x).toUInt64 >>> ((Int32.ofInt z).toInt64.toUInt64 &&& Int64.toUInt64 63)).toInt64 = Int64.ofInt u) (h : E G y Z k n (pc + 1) ls (vl u :: st) M) : E G y Z k n pc ls (vi z :: vl x :: st) M := by
  intro p e s m args below meth c H locs arr F hl
  obtain ⟨hx, hb, -⟩ := id F
  exact lv_lushr hx hb hd hu (h p e s m args below meth c H locs arr F hl)
theorem E_i2l {G : GT} {y : MI} {Z : ZT} {k n pc : Nat} {ls st : List Value} {M : HV} {x : Int} (hd : decode (iC y) pc = .ok (.i2l, 1)) (h : E G y Z k n (pc + 1) ls (vl x :: st) M) (hr : -2147483648 ≤ x ∧ x < 2147483648 := by omega) : E G y Z k n pc ls (vi x :: st) M := by
  intro p e s m args below meth c H locs arr F hl
  obtain ⟨hx, hb, -⟩ := id F
  exact lv_i2l hx hb hd (i2l_e hr) (h p e s m args below meth c H locs arr F hl)
theorem E_l2i {G : GT} {y : MI} {Z : ZT} {k n pc : Nat} {ls st : List Value} {M : HV} {x : Int} (hd : decode (iC y) pc = .ok (.l2i, 1)) (h : E G y Z k n (pc + 1) ls (vi x :: st) M) : E G y Z k n pc ls (vl x :: st) M := by
  intro p e s m args below meth c H locs arr F hl
  obtain ⟨hx, hb, -⟩ := id F
  exact lv_l2i hx hb hd (l2i_e x) (h p e s m args below meth c H locs arr F hl)
theorem E_dup {G : GT} {y : MI} {Z : ZT} {k n pc : Nat} {ls st : List Value} {M : HV} {v : Value} (hd : decode (iC y) pc = .ok (.dup, 1)) (h : E G y Z k n (pc + 1) ls (v :: v :: st) M) (hc : v.category = 1 := by rfl) : E G y Z k n pc ls (v :: st) M := by
  intro p e s m args below meth c H locs arr F hl
  obtain ⟨hx, hb, -⟩ := id F
  exact lv_dup hx hb hd (by rw [mv_cat]; exact hc) (h p e s m args below meth c H locs arr F hl)
theorem E_pop {G : GT} {y : MI} {Z : ZT} {k n pc : Nat} {ls st : List Value} {M : HV} {v : Value} (hd : decode (iC y) pc = .ok (.pop, 1)) (h : E G y Z k n (pc + 1) ls st M) (hc : v.category = 1 := by rfl) : E G y Z k n pc ls (v :: st) M := by
  intro p e s m args below meth c H locs arr F hl
  obtain ⟨hx, hb, -⟩ := id F
  exact lv_pop hx hb hd (by rw [mv_cat]; exact hc) (h p e s m args below meth c H locs arr F hl)
theorem E_dup2 {G : GT} {y : MI} {Z : ZT} {k n pc : Nat} {ls st : List Value} {M : HV} {v u : Value} (hd : decode (iC y) pc = .ok (.dup2, 1)) (h : E G y Z k n (pc + 1) ls (v :: u :: v :: u :: st) M) (hc : v.category = 1 := by rfl) (hc2 : u.category = 1 := by rfl) : E G y Z k n pc ls (v :: u :: st) M := by
  intro p e s m args below meth c H locs arr F hl
  obtain ⟨hx, hb, -⟩ := id F
  exact lv_dup2_11 hx hb hd (by rw [mv_cat]; exact hc) (by rw [mv_cat]; exact hc2) (h p e s m args below meth c H locs arr F hl)
theorem E_goto {G : GT} {y : MI} {Z : ZT} {k n pc : Nat} {ls st : List Value} {M : HV} {a : Int} (t : Nat) (hd : decode (iC y) pc = .ok (.goto a, 3)) (h : E G y Z k n t ls st M) (ht : (pc : Int) + a = (t : Int) := by decide) : E G y Z k n pc ls st M := by
  intro p e s m args below meth c H locs arr F hl
  obtain ⟨hx, hb, -⟩ := id F
  exact lv_goto hx hb hd ht (h p e s m args below meth c H locs arr F hl)
theorem E_icmp_eq {G : GT} {y : MI} {Z : ZT} {k n pc : Nat} {ls st : List Value} {M : HV} {x z a : Int} (t : Nat) (hd : decode (iC y) pc = .ok (.if_icmp .eq a, 3)) (kt : x = z → E G y Z k n t ls st M) (kf : x ≠ z → E G y Z k n (pc + 3) ls st M) (hrx : -2147483648 ≤ x ∧ x < 2147483648 := by omega) (hrz : -2147483648 ≤ z ∧ z < 2147483648 := by omega) (ht : (pc : Int) + a = (t : Int) := by decide) : E G y Z k n pc ls (vi z :: vi x :: st) M := by
  intro p e s m args below meth c H locs arr F hl
  obtain ⟨hx, hb, -⟩ := id F
  refine lv_icmp_eq hx hb hd ht (fun hc => ?_) (fun hc => ?_)
  · exact kt (by simp only [i_eq hrx hrz, i_eq hrz hrx, i_lt hrx hrz, i_lt hrz hrx, i_le hrx hrz, i_le hrz hrx] at hc; omega) p e s m args below meth c H locs arr F hl
  · exact kf (by simp only [i_eq hrx hrz, i_eq hrz hrx, i_lt hrx hrz, i_lt hrz hrx, i_le hrx hrz, i_le hrz hrx] at hc; omega) p e s m args below meth c H locs arr F hl
theorem E_if_eq {G : GT} {y : MI} {Z : ZT} {k n pc : Nat} {ls st : List Value} {M : HV} {x a : Int} (t : Nat) (hd : decode (iC y) pc = .ok (.ifCond .eq a, 3)) (kt : x = 0 → E G y Z k n t ls st M) (kf : x ≠ 0 → E G y Z k n (pc + 3) ls st M) (hrx : -2147483648 ≤ x ∧ x < 2147483648 := by omega) (ht : (pc : Int) + a = (t : Int) := by decide) : E G y Z k n pc ls (vi x :: st) M := by
  intro p e s m args below meth c H locs arr F hl
  obtain ⟨hx, hb, -⟩ := id F
  have hrz : -2147483648 ≤ (0 : Int) ∧ (0 : Int) < 2147483648 := by decide
  refine lv_if_eq hx hb hd ht (fun hc => ?_) (fun hc => ?_)
  · exact kt (by rw [← i_0] at hc; simp only [i_eq hrx hrz, i_eq hrz hrx, i_lt hrx hrz, i_lt hrz hrx, i_le hrx hrz, i_le hrz hrx] at hc; omega) p e s m args below meth c H locs arr F hl
  · exact kf (by rw [← i_0] at hc; simp only [i_eq hrx hrz, i_eq hrz hrx, i_lt hrx hrz, i_lt hrz hrx, i_le hrx hrz, i_le hrz hrx] at hc; omega) p e s m args below meth c H locs arr F hl
theorem E_icmp_ne {G : GT} {y : MI} {Z : ZT} {k n pc : Nat} {ls st : List Value} {M : HV} {x z a : Int} (t : Nat) (hd : decode (iC y) pc = .ok (.if_icmp .ne a, 3)) (kt : x ≠ z → E G y Z k n t ls st M) (kf : x = z → E G y Z k n (pc + 3) ls st M) (hrx : -2147483648 ≤ x ∧ x < 2147483648 := by omega) (hrz : -2147483648 ≤ z ∧ z < 2147483648 := by omega) (ht : (pc : Int) + a = (t : Int) := by decide) : E G y Z k n pc ls (vi z :: vi x :: st) M := by
  intro p e s m args below meth c H locs arr F hl
  obtain ⟨hx, hb, -⟩ := id F
  refine lv_icmp_ne hx hb hd ht (fun hc => ?_) (fun hc => ?_)
  · exact kt (by simp only [i_eq hrx hrz, i_eq hrz hrx, i_lt hrx hrz, i_lt hrz hrx, i_le hrx hrz, i_le hrz hrx] at hc; omega) p e s m args below meth c H locs arr F hl
  · exact kf (by simp only [i_eq hrx hrz, i_eq hrz hrx, i_lt hrx hrz, i_lt hrz hrx, i_le hrx hrz, i_le hrz hrx] at hc; omega) p e s m args below meth c H locs arr F hl
theorem E_if_ne {G : GT} {y : MI} {Z : ZT} {k n pc : Nat} {ls st : List Value} {M : HV} {x a : Int} (t : Nat) (hd : decode (iC y) pc = .ok (.ifCond .ne a, 3)) (kt : x ≠ 0 → E G y Z k n t ls st M) (kf : x = 0 → E G y Z k n (pc + 3) ls st M) (hrx : -2147483648 ≤ x ∧ x < 2147483648 := by omega) (ht : (pc : Int) + a = (t : Int) := by decide) : E G y Z k n pc ls (vi x :: st) M := by
  intro p e s m args below meth c H locs arr F hl
  obtain ⟨hx, hb, -⟩ := id F
  have hrz : -2147483648 ≤ (0 : Int) ∧ (0 : Int) < 2147483648 := by decide
  refine lv_if_ne hx hb hd ht (fun hc => ?_) (fun hc => ?_)
  · exact kt (by rw [← i_0] at hc; simp only [i_eq hrx hrz, i_eq hrz hrx, i_lt hrx hrz, i_lt hrz hrx, i_le hrx hrz, i_le hrz hrx] at hc; omega) p e s m args below meth c H locs arr F hl
  · exact kf (by rw [← i_0] at hc; simp only [i_eq hrx hrz, i_eq hrz hrx, i_lt hrx hrz, i_lt hrz hrx, i_le hrx hrz, i_le hrz hrx] at hc; omega) p e s m args below meth c H locs arr F hl
theorem E_icmp_lt {G : GT} {y : MI} {Z : ZT} {k n pc : Nat} {ls st : List Value} {M : HV} {x z a : Int} (t : Nat) (hd : decode (iC y) pc = .ok (.if_icmp .lt a, 3)) (kt : x < z → E G y Z k n t ls st M) (kf : z ≤ x → E G y Z k n (pc + 3) ls st M) (hrx : -2147483648 ≤ x ∧ x < 2147483648 := by omega) (hrz : -2147483648 ≤ z ∧ z < 2147483648 := by omega) (ht : (pc : Int) + a = (t : Int) := by decide) : E G y Z k n pc ls (vi z :: vi x :: st) M := by
  intro p e s m args below meth c H locs arr F hl
  obtain ⟨hx, hb, -⟩ := id F
  refine lv_icmp_lt hx hb hd ht (fun hc => ?_) (fun hc => ?_)
  · exact kt (by simp only [i_eq hrx hrz, i_eq hrz hrx, i_lt hrx hrz, i_lt hrz hrx, i_le hrx hrz, i_le hrz hrx] at hc; omega) p e s m args below meth c H locs arr F hl
  · exact kf (by simp only [i_eq hrx hrz, i_eq hrz hrx, i_lt hrx hrz, i_lt hrz hrx, i_le hrx hrz, i_le hrz hrx] at hc; omega) p e s m args below meth c H locs arr F hl
theorem E_if_lt {G : GT} {y : MI} {Z : ZT} {k n pc : Nat} {ls st : List Value} {M : HV} {x a : Int} (t : Nat) (hd : decode (iC y) pc = .ok (.ifCond .lt a, 3)) (kt : x < 0 → E G y Z k n t ls st M) (kf : 0 ≤ x → E G y Z k n (pc + 3) ls st M) (hrx : -2147483648 ≤ x ∧ x < 2147483648 := by omega) (ht : (pc : Int) + a = (t : Int) := by decide) : E G y Z k n pc ls (vi x :: st) M := by
  intro p e s m args below meth c H locs arr F hl
  obtain ⟨hx, hb, -⟩ := id F
  have hrz : -2147483648 ≤ (0 : Int) ∧ (0 : Int) < 2147483648 := by decide
  refine lv_if_lt hx hb hd ht (fun hc => ?_) (fun hc => ?_)
  · exact kt (by rw [← i_0] at hc; simp only [i_eq hrx hrz, i_eq hrz hrx, i_lt hrx hrz, i_lt hrz hrx, i_le hrx hrz, i_le hrz hrx] at hc; omega) p e s m args below meth c H locs arr F hl
  · exact kf (by rw [← i_0] at hc; simp only [i_eq hrx hrz, i_eq hrz hrx, i_lt hrx hrz, i_lt hrz hrx, i_le hrx hrz, i_le hrz hrx] at hc; omega) p e s m args below meth c H locs arr F hl
theorem E_icmp_ge {G : GT} {y : MI} {Z : ZT} {k n pc : Nat} {ls st : List Value} {M : HV} {x z a : Int} (t : Nat) (hd : decode (iC y) pc = .ok (.if_icmp .ge a, 3)) (kt : z ≤ x → E G y Z k n t ls st M) (kf : x < z → E G y Z k n (pc + 3) ls st M) (hrx : -2147483648 ≤ x ∧ x < 2147483648 := by omega) (hrz : -2147483648 ≤ z ∧ z < 2147483648 := by omega) (ht : (pc : Int) + a = (t : Int) := by decide) : E G y Z k n pc ls (vi z :: vi x :: st) M := by
  intro p e s m args below meth c H locs arr F hl
  obtain ⟨hx, hb, -⟩ := id F
  refine lv_icmp_ge hx hb hd ht (fun hc => ?_) (fun hc => ?_)
  · exact kt (by simp only [i_eq hrx hrz, i_eq hrz hrx, i_lt hrx hrz, i_lt hrz hrx, i_le hrx hrz, i_le hrz hrx] at hc; omega) p e s m args below meth c H locs arr F hl
  · exact kf (by simp only [i_eq hrx hrz, i_eq hrz hrx, i_lt hrx hrz, i_lt hrz hrx, i_le hrx hrz, i_le hrz hrx] at hc; omega) p e s m args below meth c H locs arr F hl
theorem E_if_ge {G : GT} {y : MI} {Z : ZT} {k n pc : Nat} {ls st : List Value} {M : HV} {x a : Int} (t : Nat) (hd : decode (iC y) pc = .ok (.ifCond .ge a, 3)) (kt : 0 ≤ x → E G y Z k n t ls st M) (kf : x < 0 → E G y Z k n (pc + 3) ls st M) (hrx : -2147483648 ≤ x ∧ x < 2147483648 := by omega) (ht : (pc : Int) + a = (t : Int) := by decide) : E G y Z k n pc ls (vi x :: st) M := by
  intro p e s m args below meth c H locs arr F hl
  obtain ⟨hx, hb, -⟩ := id F
  have hrz : -2147483648 ≤ (0 : Int) ∧ (0 : Int) < 2147483648 := by decide
  refine lv_if_ge hx hb hd ht (fun hc => ?_) (fun hc => ?_)
  · exact kt (by rw [← i_0] at hc; simp only [i_eq hrx hrz, i_eq hrz hrx, i_lt hrx hrz, i_lt hrz hrx, i_le hrx hrz, i_le hrz hrx] at hc; omega) p e s m args below meth c H locs arr F hl
  · exact kf (by rw [← i_0] at hc; simp only [i_eq hrx hrz, i_eq hrz hrx, i_lt hrx hrz, i_lt hrz hrx, i_le hrx hrz, i_le hrz hrx] at hc; omega) p e s m args below meth c H locs arr F hl
theorem E_icmp_gt {G : GT} {y : MI} {Z : ZT} {k n pc : Nat} {ls st : List Value} {M : HV} {x z a : Int} (t : Nat) (hd : decode (iC y) pc = .ok (.if_icmp .gt a, 3)) (kt : z < x → E G y Z k n t ls st M) (kf : x ≤ z → E G y Z k n (pc + 3) ls st M) (hrx : -2147483648 ≤ x ∧ x < 2147483648 := by omega) (hrz : -2147483648 ≤ z ∧ z < 2147483648 := by omega) (ht : (pc : Int) + a = (t : Int) := by decide) : E G y Z k n pc ls (vi z :: vi x :: st) M := by
  intro p e s m args below meth c H locs arr F hl
  obtain ⟨hx, hb, -⟩ := id F
  refine lv_icmp_gt hx hb hd ht (fun hc => ?_) (fun hc => ?_)
  · exact kt (by simp only [i_eq hrx hrz, i_eq hrz hrx, i_lt hrx hrz, i_lt hrz hrx, i_le hrx hrz, i_le hrz hrx] at hc; omega) p e s m args below meth c H locs arr F hl
  · exact kf (by simp only [i_eq hrx hrz, i_eq hrz hrx, i_lt hrx hrz, i_lt hrz hrx, i_le hrx hrz, i_le hrz hrx] at hc; omega) p e s m args below meth c H locs arr F hl
theorem E_if_gt {G : GT} {y : MI} {Z : ZT} {k n pc : Nat} {ls st : List Value} {M : HV} {x a : Int} (t : Nat) (hd : decode (iC y) pc = .ok (.ifCond .gt a, 3)) (kt : 0 < x → E G y Z k n t ls st M) (kf : x ≤ 0 → E G y Z k n (pc + 3) ls st M) (hrx : -2147483648 ≤ x ∧ x < 2147483648 := by omega) (ht : (pc : Int) + a = (t : Int) := by decide) : E G y Z k n pc ls (vi x :: st) M := by
  intro p e s m args below meth c H locs arr F hl
  obtain ⟨hx, hb, -⟩ := id F
  have hrz : -2147483648 ≤ (0 : Int) ∧ (0 : Int) < 2147483648 := by decide
  refine lv_if_gt hx hb hd ht (fun hc => ?_) (fun hc => ?_)
  · exact kt (by rw [← i_0] at hc; simp only [i_eq hrx hrz, i_eq hrz hrx, i_lt hrx hrz, i_lt hrz hrx, i_le hrx hrz, i_le hrz hrx] at hc; omega) p e s m args below meth c H locs arr F hl
  · exact kf (by rw [← i_0] at hc; simp only [i_eq hrx hrz, i_eq hrz hrx, i_lt hrx hrz, i_lt hrz hrx, i_le hrx hrz, i_le hrz hrx] at hc; omega) p e s m args below meth c H locs arr F hl
theorem E_icmp_le {G : GT} {y : MI} {Z : ZT} {k n pc : Nat} {ls st : List Value} {M : HV} {x z a : Int} (t : Nat) (hd : decode (iC y) pc = .ok (.if_icmp .le a, 3)) (kt : x ≤ z → E G y Z k n t ls st M) (kf : z < x → E G y Z k n (pc + 3) ls st M) (hrx : -2147483648 ≤ x ∧ x < 2147483648 := by omega) (hrz : -2147483648 ≤ z ∧ z < 2147483648 := by omega) (ht : (pc : Int) + a = (t : Int) := by decide) : E G y Z k n pc ls (vi z :: vi x :: st) M := by
  intro p e s m args below meth c H locs arr F hl
  obtain ⟨hx, hb, -⟩ := id F
  refine lv_icmp_le hx hb hd ht (fun hc => ?_) (fun hc => ?_)
  · exact kt (by simp only [i_eq hrx hrz, i_eq hrz hrx, i_lt hrx hrz, i_lt hrz hrx, i_le hrx hrz, i_le hrz hrx] at hc; omega) p e s m args below meth c H locs arr F hl
  · exact kf (by simp only [i_eq hrx hrz, i_eq hrz hrx, i_lt hrx hrz, i_lt hrz hrx, i_le hrx hrz, i_le hrz hrx] at hc; omega) p e s m args below meth c H locs arr F hl
theorem E_if_le {G : GT} {y : MI} {Z : ZT} {k n pc : Nat} {ls st : List Value} {M : HV} {x a : Int} (t : Nat) (hd : decode (iC y) pc = .ok (.ifCond .le a, 3)) (kt : x ≤ 0 → E G y Z k n t ls st M) (kf : 0 < x → E G y Z k n (pc + 3) ls st M) (hrx : -2147483648 ≤ x ∧ x < 2147483648 := by omega) (ht : (pc : Int) + a = (t : Int) := by decide) : E G y Z k n pc ls (vi x :: st) M := by
  intro p e s m args below meth c H locs arr F hl
  obtain ⟨hx, hb, -⟩ := id F
  have hrz : -2147483648 ≤ (0 : Int) ∧ (0 : Int) < 2147483648 := by decide
  refine lv_if_le hx hb hd ht (fun hc => ?_) (fun hc => ?_)
  · exact kt (by rw [← i_0] at hc; simp only [i_eq hrx hrz, i_eq hrz hrx, i_lt hrx hrz, i_lt hrz hrx, i_le hrx hrz, i_le hrz hrx] at hc; omega) p e s m args below meth c H locs arr F hl
  · exact kf (by rw [← i_0] at hc; simp only [i_eq hrx hrz, i_eq hrz hrx, i_lt hrx hrz, i_lt hrz hrx, i_le hrx hrz, i_le hrz hrx] at hc; omega) p e s m args below meth c H locs arr F hl
theorem cmp_e {x z : Int} (hx : -9223372036854775808 ≤ x ∧ x < 9223372036854775808) (hz : -9223372036854775808 ≤ z ∧ z < 9223372036854775808) : lg_cmp (Int64.ofInt x) (Int64.ofInt z) = Int32.ofInt (if x < z then -1 else if x = z then 0 else 1) := by
  unfold lg_cmp
  by_cases h : x < z
  · rw [if_neg (fun q : Int64.ofInt x > Int64.ofInt z => absurd ((l_lt hz hx).mp q) (by omega)), if_neg (fun q => absurd ((l_eq hx hz).mp q) (by omega)), if_pos h]; rfl
  · by_cases h2 : x = z
    · subst h2
      rw [if_neg (fun q : Int64.ofInt x > Int64.ofInt x => absurd ((l_lt hz hx).mp q) (by omega)), if_pos rfl, if_neg h, if_pos rfl]; rfl
    · rw [if_pos (show Int64.ofInt x > Int64.ofInt z from (l_lt hz hx).mpr (by omega)), if_neg h, if_neg h2]; rfl
theorem E_lcmp_eq {G : GT} {y : MI} {Z : ZT} {k n pc : Nat} {ls st : List Value} {M : HV} {x z a : Int} (t : Nat) (hd : decode (iC y) pc = .ok (.lcmp, 1)) (hd2 : decode (iC y) (pc + 1) = .ok (.ifCond .eq a, 3)) (kt : x = z → E G y Z k n t ls st M) (kf : x ≠ z → E G y Z k n (pc + 4) ls st M) (hrx : -9223372036854775808 ≤ x ∧ x < 9223372036854775808 := by omega) (hrz : -9223372036854775808 ≤ z ∧ z < 9223372036854775808 := by omega) (ht : ((pc + 1 : Nat) : Int) + a = (t : Int) := by decide) : E G y Z k n pc ls (vl z :: vl x :: st) M := by
  intro p e s m args below meth c H locs arr F hl
  obtain ⟨hx, hb, -⟩ := id F
  refine W.lcmp hx hb hd ?_
  rw [cmp_e hrx hrz]
  exact E_if_eq (x := if x < z then -1 else if x = z then 0 else 1) t hd2 (fun hc => kt (by split at hc <;> (try split at hc) <;> omega)) (fun hc => kf (by split at hc <;> (try split at hc) <;> omega)) (by split <;> (try split) <;> omega) ht p e s m args below meth c H locs arr F hl
theorem E_lcmp_ne {G : GT} {y : MI} {Z : ZT} {k n pc : Nat} {ls st : List Value} {M : HV} {x z a : Int} (t : Nat) (hd : decode (iC y) pc = .ok (.lcmp, 1)) (hd2 : decode (iC y) (pc + 1) = .ok (.ifCond .ne a, 3)) (kt : x ≠ z → E G y Z k n t ls st M) (kf : x = z → E G y Z k n (pc + 4) ls st M) (hrx : -9223372036854775808 ≤ x ∧ x < 9223372036854775808 := by omega) (hrz : -9223372036854775808 ≤ z ∧ z < 9223372036854775808 := by omega) (ht : ((pc + 1 : Nat) : Int) + a = (t : Int) := by decide) : E G y Z k n pc ls (vl z :: vl x :: st) M := by
  intro p e s m args below meth c H locs arr F hl
  obtain ⟨hx, hb, -⟩ := id F
  refine W.lcmp hx hb hd ?_
  rw [cmp_e hrx hrz]
  exact E_if_ne (x := if x < z then -1 else if x = z then 0 else 1) t hd2 (fun hc => kt (by split at hc <;> (try split at hc) <;> omega)) (fun hc => kf (by split at hc <;> (try split at hc) <;> omega)) (by split <;> (try split) <;> omega) ht p e s m args below meth c H locs arr F hl
theorem E_lcmp_lt {G : GT} {y : MI} {Z : ZT} {k n pc : Nat} {ls st : List Value} {M : HV} {x z a : Int} (t : Nat) (hd : decode (iC y) pc = .ok (.lcmp, 1)) (hd2 : decode (iC y) (pc + 1) = .ok (.ifCond .lt a, 3)) (kt : x < z → E G y Z k n t ls st M) (kf : z ≤ x → E G y Z k n (pc + 4) ls st M) (hrx : -9223372036854775808 ≤ x ∧ x < 9223372036854775808 := by omega) (hrz : -9223372036854775808 ≤ z ∧ z < 9223372036854775808 := by omega) (ht : ((pc + 1 : Nat) : Int) + a = (t : Int) := by decide) : E G y Z k n pc ls (vl z :: vl x :: st) M := by
  intro p e s m args below meth c H locs arr F hl
  obtain ⟨hx, hb, -⟩ := id F
  refine W.lcmp hx hb hd ?_
  rw [cmp_e hrx hrz]
  exact E_if_lt (x := if x < z then -1 else if x = z then 0 else 1) t hd2 (fun hc => kt (by split at hc <;> (try split at hc) <;> omega)) (fun hc => kf (by split at hc <;> (try split at hc) <;> omega)) (by split <;> (try split) <;> omega) ht p e s m args below meth c H locs arr F hl
theorem E_lcmp_ge {G : GT} {y : MI} {Z : ZT} {k n pc : Nat} {ls st : List Value} {M : HV} {x z a : Int} (t : Nat) (hd : decode (iC y) pc = .ok (.lcmp, 1)) (hd2 : decode (iC y) (pc + 1) = .ok (.ifCond .ge a, 3)) (kt : z ≤ x → E G y Z k n t ls st M) (kf : x < z → E G y Z k n (pc + 4) ls st M) (hrx : -9223372036854775808 ≤ x ∧ x < 9223372036854775808 := by omega) (hrz : -9223372036854775808 ≤ z ∧ z < 9223372036854775808 := by omega) (ht : ((pc + 1 : Nat) : Int) + a = (t : Int) := by decide) : E G y Z k n pc ls (vl z :: vl x :: st) M := by
  intro p e s m args below meth c H locs arr F hl
  obtain ⟨hx, hb, -⟩ := id F
  refine W.lcmp hx hb hd ?_
  rw [cmp_e hrx hrz]
  exact E_if_ge (x := if x < z then -1 else if x = z then 0 else 1) t hd2 (fun hc => kt (by split at hc <;> (try split at hc) <;> omega)) (fun hc => kf (by split at hc <;> (try split at hc) <;> omega)) (by split <;> (try split) <;> omega) ht p e s m args below meth c H locs arr F hl
theorem E_lcmp_gt {G : GT} {y : MI} {Z : ZT} {k n pc : Nat} {ls st : List Value} {M : HV} {x z a : Int} (t : Nat) (hd : decode (iC y) pc = .ok (.lcmp, 1)) (hd2 : decode (iC y) (pc + 1) = .ok (.ifCond .gt a, 3)) (kt : z < x → E G y Z k n t ls st M) (kf : x ≤ z → E G y Z k n (pc + 4) ls st M) (hrx : -9223372036854775808 ≤ x ∧ x < 9223372036854775808 := by omega) (hrz : -9223372036854775808 ≤ z ∧ z < 9223372036854775808 := by omega) (ht : ((pc + 1 : Nat) : Int) + a = (t : Int) := by decide) : E G y Z k n pc ls (vl z :: vl x :: st) M := by
  intro p e s m args below meth c H locs arr F hl
  obtain ⟨hx, hb, -⟩ := id F
  refine W.lcmp hx hb hd ?_
  rw [cmp_e hrx hrz]
  exact E_if_gt (x := if x < z then -1 else if x = z then 0 else 1) t hd2 (fun hc => kt (by split at hc <;> (try split at hc) <;> omega)) (fun hc => kf (by split at hc <;> (try split at hc) <;> omega)) (by split <;> (try split) <;> omega) ht p e s m args below meth c H locs arr F hl
theorem E_lcmp_le {G : GT} {y : MI} {Z : ZT} {k n pc : Nat} {ls st : List Value} {M : HV} {x z a : Int} (t : Nat) (hd : decode (iC y) pc = .ok (.lcmp, 1)) (hd2 : decode (iC y) (pc + 1) = .ok (.ifCond .le a, 3)) (kt : x ≤ z → E G y Z k n t ls st M) (kf : z < x → E G y Z k n (pc + 4) ls st M) (hrx : -9223372036854775808 ≤ x ∧ x < 9223372036854775808 := by omega) (hrz : -9223372036854775808 ≤ z ∧ z < 9223372036854775808 := by omega) (ht : ((pc + 1 : Nat) : Int) + a = (t : Int) := by decide) : E G y Z k n pc ls (vl z :: vl x :: st) M := by
  intro p e s m args below meth c H locs arr F hl
  obtain ⟨hx, hb, -⟩ := id F
  refine W.lcmp hx hb hd ?_
  rw [cmp_e hrx hrz]
  exact E_if_le (x := if x < z then -1 else if x = z then 0 else 1) t hd2 (fun hc => kt (by split at hc <;> (try split at hc) <;> omega)) (fun hc => kf (by split at hc <;> (try split at hc) <;> omega)) (by split <;> (try split) <;> omega) ht p e s m args below meth c H locs arr F hl
end
section
section FRA
variable {G : GT} {y : MI} {k : Nat} {p : Program} {s : State} {m : MethodId} {args : Array Value} {meth : Method} {c : Code} {H : Heap} {locs : List Loc} {M : HV}
theorem Fr.own (F : Fr G y k p s m args meth c H locs M) : s.vm.findClass (iY y).cls = some m.cls := F.2.2.2.2.2.2.1
theorem Fr.hts (F : Fr G y k p s m args meth c H locs M) : ∀ w ∈ lw_ok, w.before args s = true := F.2.2.2.2.2.2.2.1
theorem Fr.wo (F : Fr G y k p s m args meth c H locs M) : Wo G s := F.2.2.2.2.2.2.2.2.1
theorem Fr.wd (F : Fr G y k p s m args meth c H locs M) : va_P (gD G) vwCl (mw G M) H := F.2.2.2.2.2.2.2.2.2.1
theorem Fr.hs (F : Fr G y k p s m args meth c H locs M) : va_S (mA G) s.heap H locs := F.2.2.2.2.2.2.2.2.2.2.1
theorem Fr.hz (F : Fr G y k p s m args meth c H locs M) : s.heap.size + k = gB G + M.length := F.2.2.2.2.2.2.2.2.2.2.2
theorem Fr.hA (F : Fr G y k p s m args meth c H locs M) : ∀ q, s.heap.size ≤ q → mA G q := fun q h => Nat.le_trans F.wo.2.2.2.2.2.2.1 h
theorem Fr.upd (F : Fr G y k p s m args meth c H locs M) {k' : Nat} {H1 : Heap} {locs1 : List Loc} {M' : HV} (hP : va_P (gD G) vwCl (mw G M') H1) (hS : va_S (mA G) s.heap H1 locs1) (hz : s.heap.size + k' = gB G + M'.length) : Fr G y k' p s m args meth c H1 locs1 M' := by
  obtain ⟨a1, a2, a3, a4, a5, a6, a7, a8, a9, -, -, -⟩ := F
  exact ⟨a1, a2, a3, a4, a5, a6, a7, a8, a9, hP, hS, hz⟩
end FRA
theorem Wo.next {G : GT} {s t : State} {H : Heap} {locs : List Loc} (h : Wo G s) (hS : va_S (mA G) s.heap H locs) (hW : s.WarmedH t.vm) (ht : t.heap = H) : Wo G t := by
  have hv := hW.alike
  obtain ⟨h1, h2, h3, h4, h5, h6, h7, h8, h9, h10⟩ := h
  have e1 : H[gS G]? = s.heap[gS G]? := hS.2.1 _ (by omega) (by unfold mA; omega)
  have e2 : H[gT G]? = s.heap[gT G]? := hS.2.1 _ (by omega) (by unfold mA; omega)
  refine ⟨va_K.moved hv h1, ?_, h3, ?_, h5, ?_, ?_, va_AO.moved hv h8, va_AO.moved hv h9, fun w hw => ?_⟩
  · rw [ht]; exact va_X.moved hv (va_X.kept h2 e1)
  · rw [ht]; exact va_X.moved hv (va_X.kept h4 e2)
  · rw [ht]; exact va_Z.moved hv (va_Z.kept h6 (fun a h8 h9 => hS.2.1 a h8 h9))
  · rw [ht]; exact Nat.le_trans h7 hS.1
  · have hn := h10 w hw
    have hm := (List.mem_filter.mp hw).2
    cases w with
    | methodLinkNest a i x h => exact va_Nw.warmM hW hn
    | _ => simp at hm
section HEAP
variable {G : GT} {y : MI} {Z : ZT} {k n pc : Nat} {ls st : List Value} {M : HV}
theorem E_get {r idx ci kf N : Nat} {C : String} {T : u_T} {fs : List Value} {v : Value} (hd : decode (iC y) pc = .ok (.getfield idx, 3)) (hc : vwCl[ci]? = some (C, T, N)) (hin : ∀ w ∈ u_ws C T N, w ∈ lw_ok) (hk : kf < N) (hlk : Cond.fieldLink (iY y).cls idx (T kf).1 (T kf).2.1 (T kf).2.2.1 ∈ lw_ok)
    (hM : M[r]? = some (.inr (ci, fs))) (hv : fs[kf]? = some v) (h : E G y Z k n (pc + 3) ls (v :: st) M) : E G y Z k n pc ls (.ref r :: st) M := by
  intro p e s m args below meth c H locs arr F hl
  exact va_get (tys := tyG G) F.1 F.2.1 F.hts hin F.own F.wo.1 F.wd r (mw_get hM) hc kf hk (F.hts _ hlk) (fun _ h9 => h9) (by rw [List.getElem?_map, hv]; rfl) hd (h p e s m args below meth c H locs arr F hl)
theorem set_len {M : HV} {r : Nat} {c : va_E} : (M.set r c).length = M.length := List.length_set
theorem E_put {r idx ci kf N : Nat} {C : String} {T : u_T} {ty0 : Nat → FieldType} {ty : FieldType} {fs : List Value} {v : Value} (hd : decode (iC y) pc = .ok (.putfield idx, 3)) (hc : vwCl[ci]? = some (C, T, N)) (hin : ∀ w ∈ u_ws C T N, w ∈ lw_ok)
    (hty : ∀ k, k < N → parseFieldDescriptor (T k).2.2.1 = some (ty0 k)) (hnm : ∀ a, a < N → ∀ b, b < N → a ≠ b → (T a).2.1 ≠ (T b).2.1) (hk : kf < N) (hlk : Cond.fieldLink (iY y).cls idx (T kf).1 (T kf).2.1 (T kf).2.2.1 ∈ lw_ok)
    (hfin : (T kf).2.2.2 = false) (hd2 : parseFieldDescriptor (T kf).2.2.1 = some ty) (hn : narrow ty (mv G v) = mv G v) (hfit : fits ty (mv G v) = true)
    (hM : M[r]? = some (.inr (ci, fs))) (hlen : kf < fs.length) (h : E G y Z k n (pc + 3) ls st (M.set r (.inr (ci, fs.set kf v)))) : E G y Z k n pc ls (v :: .ref r :: st) M := by
  intro p e s m args below meth c H locs arr F hl
  refine va_put (tys := tyG G) F.1 F.2.1 F.hts hin ty0 hty hnm F.own F.wo.1 F.wd (mw_D G M) F.hs r (mw_get hM) hc kf hk (F.hts _ hlk) (fun _ h9 => h9) hfin hd2 hn hfit (by rw [List.length_map]; exact hlen) hd (fun H1 locs1 hP hD hS => ?_)
  refine h p e s m args below meth c H1 locs1 arr (F.upd ?_ hS (by rw [set_len]; exact F.hz)) hl
  rw [← mw_set]
  have e1 : me G (.inr (ci, fs.set kf v)) = .inr (ci, (fs.map (mv G)).set kf (mv G v)) := by simp [me, List.map_set]
  rw [e1]; exact hP
theorem E_putF {r idx ci kf N : Nat} {C : String} {T : u_T} {ty0 : Nat → FieldType} {ty : FieldType} {fs : List Value} {v : Value} (hd : decode (iC y) pc = .ok (.putfield idx, 3)) (hc : vwCl[ci]? = some (C, T, N)) (hin : ∀ w ∈ u_ws C T N, w ∈ lw_ok)
    (hty : ∀ k, k < N → parseFieldDescriptor (T k).2.2.1 = some (ty0 k)) (hnm : ∀ a, a < N → ∀ b, b < N → a ≠ b → (T a).2.1 ≠ (T b).2.1) (hk : kf < N) (hlk : Cond.fieldLink (iY y).cls idx (T kf).1 (T kf).2.1 (T kf).2.2.1 ∈ lw_ok)
    (hfin : (T kf).2.2.2 = true) (hi : (iY y).name = "<init>") (hde : (T kf).1 = (iY y).cls) (hd2 : parseFieldDescriptor (T kf).2.2.1 = some ty) (hn : narrow ty (mv G v) = mv G v) (hfit : fits ty (mv G v) = true)
    (hM : M[r]? = some (.inr (ci, fs))) (hlen : kf < fs.length) (h : E G y Z k n (pc + 3) ls st (M.set r (.inr (ci, fs.set kf v)))) : E G y Z k n pc ls (v :: .ref r :: st) M := by
  intro p e s m args below meth c H locs arr F hl
  refine va_putF (tys := tyG G) F.1 F.2.1 F.hts hin ty0 hty hnm F.own F.wo.1 F.wd (mw_D G M) F.hs r (mw_get hM) hc kf hk (F.hts _ hlk) (fun _ h9 => h9) hfin (by rw [F.2.2.2.2.2.1]; exact hi) hde hd2 hn hfit (by rw [List.length_map]; exact hlen) hd (fun H1 locs1 hP hD hS => ?_)
  refine h p e s m args below meth c H1 locs1 arr (F.upd ?_ hS (by rw [set_len]; exact F.hz)) hl
  rw [← mw_set]
  have e1 : me G (.inr (ci, fs.set kf v)) = .inr (ci, (fs.map (mv G)).set kf (mv G v)) := by simp [me, List.map_set]
  rw [e1]; exact hP
theorem ix_cl {i : Int} (h0 : 0 ≤ i) (h1 : i < 2147483648) : (Int32.ofInt i).toNatClampNeg = i.toNat := by
  show (Int32.ofInt i).toInt.toNat = i.toNat
  rw [i_in (by omega)]
theorem ix_in {i : Int} {N : Nat} (h0 : 0 ≤ i) (h1 : i < N) (h2 : i < 2147483648) : vp_in (Int32.ofInt i) N := by
  rw [vp_in_iff, i_in (by omega)]
  exact ⟨h0, h1⟩
theorem E_iald {r N : Nat} {f : Nat → Int32} {i : Int} (hd : decode (iC y) pc = .ok (.iaload, 1)) (hM : M[r]? = some (.inl (0, N, .inl f))) (h0 : 0 ≤ i) (h1 : i < N) (h2 : i < 2147483648) (h : E G y Z k n (pc + 1) ls (.int (f i.toNat) :: st) M) : E G y Z k n pc ls (vi i :: .ref r :: st) M := by
  intro p e s m args below meth c H locs arr F hl
  refine va_iald (tys := tyG G) F.1 F.2.1 F.wo.1 F.wd r 0 (mw_get hM) rfl (ix_in h0 h1 h2) hd ?_
  rw [ix_cl h0 h2]
  exact h p e s m args below meth c H locs arr F hl
theorem E_lald {r N : Nat} {f : Nat → Int64} {i : Int} (hd : decode (iC y) pc = .ok (.laload, 1)) (hM : M[r]? = some (.inl (1, N, .inr (.inl f)))) (h0 : 0 ≤ i) (h1 : i < N) (h2 : i < 2147483648) (h : E G y Z k n (pc + 1) ls (.long (f i.toNat) :: st) M) : E G y Z k n pc ls (vi i :: .ref r :: st) M := by
  intro p e s m args below meth c H locs arr F hl
  refine va_lald (tys := tyG G) F.1 F.2.1 F.wo.1 F.wd r 1 (mw_get hM) rfl (ix_in h0 h1 h2) hd ?_
  rw [ix_cl h0 h2]
  exact h p e s m args below meth c H locs arr F hl
theorem E_zald {r N : Nat} {f : Nat → Int32} {i : Int} (hd : decode (iC y) pc = .ok (.baload, 1)) (hM : M[r]? = some (.inl (2, N, .inl f))) (h0 : 0 ≤ i) (h1 : i < N) (h2 : i < 2147483648) (h : E G y Z k n (pc + 1) ls (.int (f i.toNat) :: st) M) : E G y Z k n pc ls (vi i :: .ref r :: st) M := by
  intro p e s m args below meth c H locs arr F hl
  refine va_zald (tys := tyG G) F.1 F.2.1 F.wo.1 F.wd r 2 (mw_get hM) rfl (ix_in h0 h1 h2) hd ?_
  rw [ix_cl h0 h2]
  exact h p e s m args below meth c H locs arr F hl
theorem E_aald {r N t : Nat} {C : String} {f : Nat → Option Nat} {a : Nat} {i : Int} (hd : decode (iC y) pc = .ok (.aaload, 1)) (hM : M[r]? = some (.inl (t, N, .inr (.inr (.inr (.inr f)))))) (ht : (tyG G)[t]? = some (gC G t, .object C)) (h0 : 0 ≤ i) (h1 : i < N) (h2 : i < 2147483648) (hf : f i.toNat = some a) (h : E G y Z k n (pc + 1) ls (.ref a :: st) M) : E G y Z k n pc ls (vi i :: .ref r :: st) M := by
  intro p e s m args below meth c H locs arr F hl
  refine va_aldq (tys := tyG G) F.1 F.2.1 F.wo.1 F.wd r t (mw_get hM) ht (ix_in h0 h1 h2) hd ?_
  rw [ix_cl h0 h2, hf]
  exact h p e s m args below meth c H locs arr F hl
theorem E_iast {r N : Nat} {f : Nat → Int32} {i x : Int} (hd : decode (iC y) pc = .ok (.iastore, 1)) (hM : M[r]? = some (.inl (0, N, .inl f))) (h0 : 0 ≤ i) (h1 : i < N) (h2 : i < 2147483648) (h : E G y Z k n (pc + 1) ls st (M.set r (.inl (0, N, .inl (upd f i.toNat (Int32.ofInt x)))))) : E G y Z k n pc ls (vi x :: vi i :: .ref r :: st) M := by
  intro p e s m args below meth c H locs arr F hl
  refine va_iast (tys := tyG G) F.1 F.2.1 F.wo.1 F.wd (mw_D G M) F.hs r 0 (mw_get hM) rfl (ix_in h0 h1 h2) hd (fun H1 locs1 hP hD hS => ?_)
  refine h p e s m args below meth c H1 locs1 arr (F.upd ?_ hS (by rw [set_len]; exact F.hz)) hl
  rw [ix_cl h0 h2] at hP
  rw [← mw_set]; exact hP
theorem E_last {r N : Nat} {f : Nat → Int64} {i x : Int} (hd : decode (iC y) pc = .ok (.lastore, 1)) (hM : M[r]? = some (.inl (1, N, .inr (.inl f)))) (h0 : 0 ≤ i) (h1 : i < N) (h2 : i < 2147483648) (h : E G y Z k n (pc + 1) ls st (M.set r (.inl (1, N, .inr (.inl (vp_updL f i.toNat (Int64.ofInt x))))))) : E G y Z k n pc ls (vl x :: vi i :: .ref r :: st) M := by
  intro p e s m args below meth c H locs arr F hl
  refine va_last (tys := tyG G) F.1 F.2.1 F.wo.1 F.wd (mw_D G M) F.hs r 1 (mw_get hM) rfl (ix_in h0 h1 h2) hd (fun H1 locs1 hP hD hS => ?_)
  refine h p e s m args below meth c H1 locs1 arr (F.upd ?_ hS (by rw [set_len]; exact F.hz)) hl
  rw [ix_cl h0 h2] at hP
  rw [← mw_set]; exact hP
theorem E_zast {r N : Nat} {f : Nat → Int32} {i x : Int} (hd : decode (iC y) pc = .ok (.bastore, 1)) (hM : M[r]? = some (.inl (2, N, .inl f))) (h0 : 0 ≤ i) (h1 : i < N) (h2 : i < 2147483648) (hx : x = 0 ∨ x = 1) (h : E G y Z k n (pc + 1) ls st (M.set r (.inl (2, N, .inl (upd f i.toNat (Int32.ofInt x)))))) : E G y Z k n pc ls (vi x :: vi i :: .ref r :: st) M := by
  intro p e s m args below meth c H locs arr F hl
  refine va_zast (tys := tyG G) F.1 F.2.1 F.wo.1 F.wd (mw_D G M) F.hs r 2 (mw_get hM) rfl (ix_in h0 h1 h2) hd (fun H1 locs1 hP hD hS => ?_)
  refine h p e s m args below meth c H1 locs1 arr (F.upd ?_ hS (by rw [set_len]; exact F.hz)) hl
  rw [ix_cl h0 h2] at hP
  rw [← mw_set]
  rcases hx with rfl | rfl <;> exact hP
theorem E_aast {r N t v ci : Nat} {q : vw_C} {vs : List Value} {f : Nat → Option Nat} {i : Int} (hd : decode (iC y) pc = .ok (.aastore, 1)) (hM : M[r]? = some (.inl (t, N, .inr (.inr (.inr (.inr f)))))) (ht : (tyG G)[t]? = some (gC G t, .object q.1)) (hv : M[v]? = some (.inr (ci, vs))) (hc : vwCl[ci]? = some q) (h0 : 0 ≤ i) (h1 : i < N) (h2 : i < 2147483648)
    (h : E G y Z k n (pc + 1) ls st (M.set r (.inl (t, N, .inr (.inr (.inr (.inr (va_up f i.toNat (some v))))))))) : E G y Z k n pc ls (.ref v :: vi i :: .ref r :: st) M := by
  intro p e s m args below meth c H locs arr F hl
  refine va_astq (tys := tyG G) F.1 F.2.1 F.wo.1 F.wd (mw_D G M) F.hs r t v ci (mw_get hM) ht (mw_get hv) hc (ix_in h0 h1 h2) hd (fun H1 locs1 hP hD hS => ?_)
  refine h p e s m args below meth c H1 locs1 arr (F.upd ?_ hS (by rw [set_len]; exact F.hz)) hl
  rw [ix_cl h0 h2] at hP
  rw [← mw_set]
  have e1 : me G (.inl (t, N, .inr (.inr (.inr (.inr (va_up f i.toNat (some v))))))) = .inl (gC G t, N, .inr (.inr (.inr (.inr (va_up (fun i => (f i).map (fun r => gB G + r)) i.toNat (some (gB G + v))))))) := by
    simp only [me, mr]
    congr 7
    funext j
    by_cases hj : j = i.toNat <;> simp [va_up, hj]
  rw [e1]; exact hP
theorem E_alen {r t N : Nat} {x : (Nat → Int32) ⊕ (Nat → Int64) ⊕ (Nat → UInt32) ⊕ (Nat → UInt64) ⊕ (Nat → Option Nat)} {ty : FieldType} (hd : decode (iC y) pc = .ok (.arraylength, 1)) (hM : M[r]? = some (.inl (t, N, x))) (ht : (tyG G)[t]? = some (gC G t, ty)) (h : E G y Z k n (pc + 1) ls (vi N :: st) M) : E G y Z k n pc ls (.ref r :: st) M := by
  intro p e s m args below meth c H locs arr F hl
  exact va_alen (tys := tyG G) F.1 F.2.1 F.wo.1 F.wd r t (mw_get hM) ht rfl hd (h p e s m args below meth c H locs arr F hl)
theorem E_sld {i : Int} (hd : decode (iC y) pc = .ok (.iaload, 1)) (h0 : 0 ≤ i) (h1 : i < gN G) (h2 : i < 2147483648) (h : E G y Z k n (pc + 1) ls (vi (gX G i.toNat).toInt :: st) M) : E G y Z k n pc ls (vi i :: .retAddr 1 :: st) M := by
  intro p e s m args below meth c H locs arr F hl
  have hw := F.wo
  refine va_sld (A := mA G) (H0 := s.heap) F.1 F.2.1 hw.2.1 (by have := hw.2.2.1; have := hw.2.2.2.2.2.2.1; omega) (by unfold mA; have := hw.2.2.1; omega) F.hs (ix_in h0 h1 h2) hd ?_
  rw [ix_cl h0 h2]
  have := h p e s m args below meth c H locs arr F hl
  simpa only [List.map_cons, vi, mv, Int32.ofInt_toInt] using this
theorem E_slen (hd : decode (iC y) pc = .ok (.arraylength, 1)) (h : E G y Z k n (pc + 1) ls (vi (gN G) :: st) M) : E G y Z k n pc ls (.retAddr 1 :: st) M := by
  intro p e s m args below meth c H locs arr F hl
  have hw := F.wo
  exact va_slen (A := mA G) (H0 := s.heap) F.1 F.2.1 hw.2.1 (by have := hw.2.2.1; have := hw.2.2.2.2.2.2.1; omega) (by unfold mA; have := hw.2.2.1; omega) F.hs hd (h p e s m args below meth c H locs arr F hl)
theorem E_tld {i : Int} (hd : decode (iC y) pc = .ok (.iaload, 1)) (h0 : 0 ≤ i) (h1 : i < 36) (h : E G y Z k n (pc + 1) ls (vi (tabF i.toNat).toInt :: st) M) : E G y Z k n pc ls (vi i :: .retAddr 2 :: st) M := by
  intro p e s m args below meth c H locs arr F hl
  have hw := F.wo
  refine va_sld (A := mA G) (H0 := s.heap) F.1 F.2.1 hw.2.2.2.1 (by have := hw.2.2.2.2.1; have := hw.2.2.2.2.2.2.1; omega) (by unfold mA; have := hw.2.2.2.2.1; omega) F.hs (ix_in h0 h1 (by omega)) hd ?_
  rw [ix_cl h0 (by omega)]
  have := h p e s m args below meth c H locs arr F hl
  simpa only [List.map_cons, vi, mv, Int32.ofInt_toInt] using this
theorem E_gets {idx : Nat} (hd : decode (iC y) pc = .ok (.getstatic idx, 3)) (hlk : Cond.fieldLink (iY y).cls idx "FibredSpaces$Permuting" "PRODUCTS" "[I" ∈ lw_ok) (h : E G y Z k n (pc + 3) ls (.retAddr 2 :: st) M) : E G y Z k n pc ls st M := by
  intro p e s m args below meth c H locs arr F hl
  exact va_gets F.1 F.2.1 F.wo.2.2.2.2.2.1 F.hs F.own (F.hts _ hlk) (fun _ h9 => h9) hd (h p e s m args below meth c H locs arr F hl)
theorem E_tin {x dflt lo hi off : Int} {offs : Array Int} {len : Nat} (t : Nat) (hd : decode (iC y) pc = .ok (.tableswitch dflt lo hi offs, len)) (hr : -2147483648 ≤ x ∧ x < 2147483648) (h1 : lo ≤ x) (h2 : x ≤ hi) (ho : offs[(x - lo).toNat]? = some off) (ht : (pc : Int) + off = (t : Int)) (h : E G y Z k n t ls st M) : E G y Z k n pc ls (vi x :: st) M := by
  intro p e s m args below meth c H locs arr F hl
  exact lv_tableIn F.1 F.2.1 hd (by rw [i_in hr]; omega) (by rw [i_in hr]; omega) (by rw [i_in hr]; exact ho) ht (h p e s m args below meth c H locs arr F hl)
theorem E_tout {x dflt lo hi : Int} {offs : Array Int} {len : Nat} (t : Nat) (hd : decode (iC y) pc = .ok (.tableswitch dflt lo hi offs, len)) (hr : -2147483648 ≤ x ∧ x < 2147483648) (h1 : x < lo ∨ hi < x) (ht : (pc : Int) + dflt = (t : Int)) (h : E G y Z k n t ls st M) : E G y Z k n pc ls (vi x :: st) M := by
  intro p e s m args below meth c H locs arr F hl
  exact lv_tableOut F.1 F.2.1 hd (by rw [i_in hr]; exact h1) ht (h p e s m args below meth c H locs arr F hl)
end HEAP
end
section
theorem lw_good : ∀ w ∈ lw_ok, goodWord w = true := by
  intro w hw
  exact (List.mem_filter.mp hw).2
theorem wsI_good {y : MI} (h : Cond.code (iY y) (iC y) (iL y) (iR y) ∈ lw_ok) : GoodIn lw_ok (wsI y) := by
  intro w hw
  have hm : w ∈ lw_ok := by
    rcases List.mem_cons.mp hw with rfl | hw
    · exact h
    · exact hw
  exact ⟨hm, good_of_word (lw_good w hm)⟩
theorem World.blind {G : GT} {M : HV} {a : List Value} : FrameBlind (va_Pc a (World G M)) := by
  rintro v U g mk ⟨h1, ⟨h2, h3, h4⟩⟩
  refine ⟨h1, ?_, h3, h4⟩
  obtain ⟨a1, a2, a3, a4, a5, a6, a7, a8, a9, a10⟩ := h2
  have hv : U.vm.Alike (U.calling g mk v).vm := Vm.Alike.refl U.vm
  refine ⟨va_K.moved hv a1, va_X.moved hv a2, a3, va_X.moved hv a4, a5, va_Z.moved hv a6, a7, va_AO.moved hv a8, va_AO.moved hv a9, fun w hw => ?_⟩
  have hm := (List.mem_filter.mp hw).2
  cases w with
  | methodLinkNest a i x h => exact va_Nw.same rfl rfl (a10 _ hw)
  | _ => simp at hm
section CALLS
variable {G : GT} {y : MI} {Z : ZT} {k n pc : Nat} {ls st : List Value} {M : HV}
theorem new_addr {G : GT} {M : HV} {p : Program} {l : Launch} {e : Env} {R : Room} {s : State} {m : MethodId} {args : Array Value} {below : List Frame} {meth : Method} {c : Code} {T : State} {locs : List Loc} {k n q : Nat} {c1 : va_E} {D : va_G} {cl : List vw_C}
    (hP : va_P D cl (mw G M ++ [(q, c1)]) T.heap) (hD : va_D (mA G) (mw G M ++ [(q, c1)])) (hz : s.heap.size + k = gB G + M.length) (X : Stand p l e R s m args below meth c T locs (k + 1) n) : q = gB G + M.length := by
  have hq : (mw G M ++ [(q, c1)])[M.length]? = some (q, c1) := by rw [List.getElem?_append_right (by simp [mw_len])]; simp [mw_len]
  have h1 := (hP _ _ hq).lt
  have h1 : q < T.heap.size := h1
  have h2 := X.heapSize
  have h3 : gB G ≤ q := hD.2 _ _ hq
  have h4 : ∀ r, r < M.length → q ≠ gB G + r := by
    intro r hr e
    obtain ⟨c2, hc⟩ : ∃ c, M[r]? = some c := ⟨_, List.getElem?_eq_getElem hr⟩
    have h5 : (mw G M ++ [(q, c1)])[r]? = some (gB G + r, me G c2) := by rw [List.getElem?_append_left (by rw [mw_len]; exact hr)]; exact mw_get hc
    have := hD.1 _ _ _ _ hq h5 e
    omega
  by_cases h : q < gB G + M.length
  · exact absurd (show q = gB G + (q - gB G) by omega) (h4 (q - gB G) (by omega))
  · omega
theorem E_new {idx ci N : Nat} {C : String} {T : u_T} {ty : Nat → FieldType} (fs : List Value) (hd : decode (iC y) pc = .ok (.new idx, 3)) (hc : vwCl[ci]? = some (C, T, N)) (hin : ∀ w ∈ u_ws C T N, w ∈ lw_ok) (hty : ∀ k, k < N → parseFieldDescriptor (T k).2.2.1 = some (ty k))
    (h1 : Cond.classLink (iY y).cls idx C ∈ lw_ok) (h2 : Cond.instantiable C N ∈ lw_ok) (h3 : Cond.initialized C ∈ lw_ok) (hfs : ∀ j, j < N → defaultValue (ty j) = vp_V fs j) (hfm : ∀ G : GT, fs.map (mv G) = fs) (h : E G y Z (k + 1) (n + N) (pc + 3) ls (.ref M.length :: st) (M ++ [.inr (ci, fs)]))
    (hr1 : k + 1 ≤ iM y := by decide) (hr2 : n + N ≤ iS y := by decide) : E G y Z k n pc ls st M := by
  intro p e s m args below meth c H locs arr F hl
  refine va_new (tys := tyG G) F.1 F.2.1 F.hts hin ty hty F.own (F.hts _ h1) (F.hts _ h2) (F.hts _ h3) F.wo.1 F.wd (mw_D G M) F.hs F.hA hc (fs := fs) hfs hr1 hr2 hd (fun q H1 hP hD hS => ?_)
  intro T1 hT1 X
  subst hT1
  have hq := new_addr hP hD F.hz X
  subst hq
  refine h p e s m args below meth c T1.heap locs arr (F.upd ?_ hS (by have := F.hz; simp; omega)) hl T1 rfl X
  rw [mw_push]
  simp only [me, hfm]; exact hP
theorem E_newa {idx t N : Nat} {a : Int} (aty : ArrayType) (ty : FieldType) (a0 : (Nat → Int32) ⊕ (Nat → Int64) ⊕ (Nat → UInt32) ⊕ (Nat → UInt64) ⊕ (Nat → Option Nat)) (hd : decode (iC y) pc = .ok (.newarray aty, 2)) (h1 : Cond.arrayClass (newarray.typeOf aty) ∈ lw_ok) (hty : newarray.typeOf aty = ty) (ht : (tyG G)[t]? = some (gC G t, ty)) (hra : ∀ (U : State) (c : ClassId), va_RA U c ty = (U.vm.findClass ("[" ++ ty.toString) = some c))
    (ha : ∀ cA : ClassId, vp_cell cA (N, a0) = arrV cA N (fun _ => defaultValue ty)) (hm0 : mr G a0 = a0) (hN : a = N) (hb : N * componentBytes ty ≤ 536870912) (hN2 : N < 2147483648) (h : E G y Z (k + 1) (n + N) (pc + 2) ls (.ref M.length :: st) (M ++ [.inl (t, N, a0)]))
    (hr1 : k + 1 ≤ iM y := by decide) (hr2 : n + N ≤ iS y := by decide) : E G y Z k n pc ls (vi a :: st) M := by
  subst hN
  intro p e s m args below meth c H locs arr F hl
  refine va_newa (tys := tyG G) (atype := aty) F.1 F.2.1 (F.hts _ h1) hty F.wo.1 F.wd (mw_D G M) F.hs F.hA (a0 := (N, a0)) ha (n := Int32.ofInt N) (N' := N) (fun q => absurd ((i_lt (by omega) (by omega)).mp (show Int32.ofInt N < Int32.ofInt 0 from q)) (by omega)) (by rw [ix_cl (by omega) (by omega)]; simp) hb hr1 hr2 hd (fun q cA H1 hK hP hD hS => ?_)
  have hc1 : va_RA s cA ty := (hK.2 (tyG G).length (cA, ty) (by simp)).2
  have hc2 : va_RA s (gC G t) ty := (F.wo.1.2 t _ ht).2
  rw [hra] at hc1 hc2
  have hcA : cA = gC G t := Option.some.inj (hc1.symm.trans hc2)
  subst hcA
  intro T1 hT1 X
  subst hT1
  have hq := new_addr hP hD F.hz X
  subst hq
  refine h p e s m args below meth c T1.heap locs arr (F.upd ?_ hS (by have := F.hz; simp; omega)) hl T1 rfl X
  rw [mw_push]
  simp only [me, hm0]; exact hP
theorem E_newq {idx t N : Nat} {a : Int} {C : String} (hd : decode (iC y) pc = .ok (.anewarray idx, 3)) (h1 : Cond.classLink (iY y).cls idx C ∈ lw_ok) (h2 : ∀ U, Wo G U → va_AO C U) (ht : (tyG G)[t]? = some (gC G t, .object C)) (hN : a = N) (hN2 : N * 4 ≤ 536870912) (h : E G y Z (k + 1) (n + N) (pc + 3) ls (.ref M.length :: st) (M ++ [.inl (t, N, .inr (.inr (.inr (.inr (fun _ => none)))))]))
    (hr1 : k + 1 ≤ iM y := by decide) (hr2 : n + N ≤ iS y := by decide) : E G y Z k n pc ls (vi a :: st) M := by
  subst hN
  intro p e s m args below meth c H locs arr F hl
  refine va_newq (tys := tyG G) F.1 F.2.1 F.own (F.hts _ h1) (h2 _ F.wo) F.wo.1 F.wd (mw_D G M) F.hs F.hA (n := Int32.ofInt N) (N' := N) (fun q => absurd ((i_lt (by omega) (by omega)).mp (show Int32.ofInt N < Int32.ofInt 0 from q)) (by omega)) (by rw [ix_cl (by omega) (by omega)]; simp) hN2 hr1 hr2 hd (fun q cA H1 hK hP hD hS => ?_)
  have hc1 : va_RA s cA (.object C) := (hK.2 (tyG G).length (cA, .object C) (by simp)).2
  have hc2 : va_RA s (gC G t) (.object C) := (F.wo.1.2 t _ ht).2
  obtain ⟨-, -, -, -, -, hc1⟩ := hc1
  obtain ⟨-, -, -, -, -, hc2⟩ := hc2
  have hcA : cA = gC G t := Option.some.inj (hc1.symm.trans hc2)
  subst hcA
  intro T1 hT1 X
  subst hT1
  have hq := new_addr hP hD F.hz X
  subst hq
  refine h p e s m args below meth c T1.heap locs arr (F.upd ?_ hS (by have := F.hz; simp; omega)) hl T1 rfl X
  rw [mw_push]
  exact hP
theorem E_objinit {idx r : Nat} (hd : decode (iC y) pc = .ok (.invokespecial idx, 3)) (h1 : Cond.methodLink (iY y).cls idx Lib.objectInit ∈ lw_ok) (h2 : Cond.instanceMethod Lib.objectInit ∈ lw_ok) (h3 : Cond.code Lib.objectInit ⟨#[0xb1]⟩ 1 none ∈ lw_ok) (h : E G y Z k n (pc + 3) ls st M)
    (hf : 1 ≤ iF y := by decide) (ho : (st.map fun v => v.category).sum + 12 ≤ iO y := by decide) : E G y Z k n pc ls (.ref r :: st) M := by
  intro p e s m args below meth c H locs arr F hl
  refine W.objInit F.1 F.2.1 F.own (F.hts _ h1) (F.hts _ h2) (F.hts _ h3) rfl (by rw [F.2.2.1]; exact hl.1) rfl hd hf ?_ (h p e s m args below meth c H locs arr F hl)
  show 2 * 0 + ((st.map (mv G)).map fun v => v.category).sum + 12 ≤ iO y
  rw [List.map_map]
  have e1 : ((fun v : Value => v.category) ∘ mv G) = fun v => v.category := funext (mv_cat G)
  rw [e1]; omega
theorem cat_room {st : List Value} {m : MethodId} {arr : Array Slot} {stk : List Value} (h : (st.map fun v => v.category).sum ≤ 8) : 2 * (F0 m pc arr stk).monitorRoom + (((st.map (mv G))).map fun v => v.category).sum ≤ 8 := by
  refine lv_room ?_
  rw [List.map_map]
  have e1 : ((fun v : Value => v.category) ∘ mv G) = fun v => v.category := funext (mv_cat G)
  rw [e1]; exact h
/-- behind a call -/
theorem E_run {y' : MI} {a : Array Value} {Qc : QT} {stk : List Value} {p : Program} {e : Env} {s : State} {m : MethodId} {args : Array Value} {below : List Frame} {meth : Method} {c : Code} {H : Heap} {locs : List Loc} {arr : Array Slot}
    (F : Fr G y k p s m args meth c H locs M) (hl : Lo G (iL y) arr ls) (hr : va_Run p (gL G) e (rmI y) s m args below meth c H locs k n (iM y') (iS y') (F0 m pc arr stk) (st.map (mv G)) (Qm G y' Qc a) (mA G))
    (h : ∀ v M', Qc v M' → E G y Z (k + iM y') (n + iS y') (pc + 3) ls (v.toList ++ st) M') : W p (gL G) e (rmI y) s m args below meth c H locs k n (Z below args s) (F0 m pc arr stk) := by
  intro T hT X
  obtain ⟨v, st₀, t, T', L, h0, X', hL, e1, e2, ⟨⟨v', M', hv, hq, hz, hW, hWd, hsz⟩, hF1, hF2⟩, hg⟩ := hr T hT X
  cases hv
  subst hT
  have hS := F.hs
  rw [h0] at hz hF1 hF2
  have hsz0 := F.size X
  have hz0 := F.hz
  have hS1 : va_S (mA G) s.heap t.heap (locs ++ L) := by
    refine ⟨Nat.le_trans hS.1 hF1, fun q h1 h2 => ?_, fun q hq => ?_⟩
    · rw [hF2 q (Nat.lt_of_lt_of_le h1 hS.1) h2]; exact hS.2.1 q h1 h2
    · rcases List.mem_append.mp hq with h | h
      · exact hS.2.2 q h
      · exact hL q h
  obtain ⟨t2, a1, b1⟩ := h v' M' hq p e s m args below meth c t.heap (locs ++ L) arr (F.upd hWd hS1 (by omega)) hl T' e1 X'
  refine ⟨t2, hg _ ?_, b1⟩
  have e3 : (v'.toList ++ st).map (mv G) = (v'.map (mv G)).toList ++ st.map (mv G) := by cases v' <;> simp
  rw [e3] at a1
  exact a1
/-- the words of a call: own class, index, callee, number of parameters -/
def LB (own : String) (idx : Nat) (y' : MI) (na : Nat) : Prop := Cond.methodLink own idx (iY y') ∈ lw_ok ∧ Cond.initialized (iY y').cls ∈ lw_ok ∧ Cond.code (iY y') (iC y') (iL y') (iR y') ∈ lw_ok ∧
  ((iY y').cls ≠ "java/lang/invoke/MethodHandle" ∧ (iY y').cls ≠ "java/lang/invoke/VarHandle" ∧ (parseMethodDescriptor (iY y').desc).map (fun d => d.parameters.length) = some na)
def LV (own : String) (idx : Nat) (y' : MI) (na ci : Nat) : Prop := LB own idx y' na ∧ Cond.instanceMethod (iY y') ∈ lw_ok ∧ Cond.selects (iY y').cls (iY y') (iY y') ∈ lw_ok ∧ ∃ q : vw_C, vwCl[ci]? = some q ∧ q.1 = (iY y').cls
def LSt (own : String) (idx : Nat) (y' : MI) (na : Nat) : Prop := LB own idx y' na ∧ Cond.static (iY y') ∈ lw_ok
def LI (own : String) (idx : Nat) (y' : MI) (na : Nat) : Prop := LB own idx y' na ∧ (iY y').name = "<init>" ∧ Cond.instanceMethod (iY y') ∈ lw_ok ∧ iR y' = none
def LN (own : String) (idx : Nat) (y' : MI) (na : Nat) : Prop := (∃ host, Cond.methodLinkNest own idx (iY y') host ∈ lw_nest) ∧ Cond.initialized (iY y').cls ∈ lw_ok ∧ Cond.code (iY y') (iC y') (iL y') (iR y') ∈ lw_ok ∧
  ((iY y').cls ≠ "java/lang/invoke/MethodHandle" ∧ (iY y').cls ≠ "java/lang/invoke/VarHandle" ∧ (parseMethodDescriptor (iY y').desc).map (fun d => d.parameters.length) = some na) ∧ (iY y').name = "<init>" ∧ Cond.instanceMethod (iY y') ∈ lw_ok ∧ iR y' = none
def LR (y y' : MI) : Prop := iF y' + 1 ≤ iF y ∧ 8 + (iL y' + 11) + iO y' ≤ iO y
theorem callB {own : String} {idx na : Nat} {y y' : MI} {s : State} {args : Array Value} (h : LB own idx y' na) (hR : LR y y') (hts : ∀ w ∈ lw_ok, w.before args s = true) : CallB (rmI y) s args own idx (iY y') (iC y') (iL y') (iR y') (wsI y') (rmI y') (iM y') (iS y') na :=
  callB_of na hts (wsI_good h.2.2.1) rfl rfl rfl (hts _ h.2.1) (hts _ h.1) h.2.2.2 hR
theorem E_callV {y' : MI} {idx r na ci : Nat} {a stk fs : List Value} {Qc : QT} (hd : decode (iC y) pc = .ok (.invokevirtual idx, 3)) (hL : LV (iY y).cls idx y' na ci) (hM : M[r]? = some (.inr (ci, fs))) (hC : Ctr G y' (.ref r :: a) M Qc)
    (h : ∀ v M', Qc v M' → E G y Z (k + iM y') (n + iS y') (pc + 3) ls (v.toList ++ st) M') (hs : stk = a.reverse ++ .ref r :: st := by rfl) (hna : a.length = na := by rfl) (hR : LR y y' := by decide) (hw : (st.map fun v => v.category).sum ≤ 8 := by decide) (hr1 : k + iM y' ≤ iM y := by decide) (hr2 : n + iS y' ≤ iS y := by decide) : E G y Z k n pc ls stk M := by
  subst hs
  intro p e s m args below meth c H locs arr F hl
  obtain ⟨hB, h1, h2, q, hq1, hq2⟩ := hL
  intro T hT X
  subst hT
  have hsz := F.size X
  refine E_run (y' := y') (a := (Value.ref (gB G + r) :: a.map (mv G)).toArray) F hl (va_runV (y := iY y') (C := (iY y').cls) (b := gB G + r) (As := a.map (mv G)) ⟨F.1, F.2.1, F.2.2.1, F.own, F.hts⟩ hC ⟨callB hB hR F.hts, F.hts _ h1, F.hts _ h2⟩ ⟨World.blind, ?_, fun U hU hW => ⟨rfl, F.wo.next F.hs hW hU, by rw [hU]; exact F.wd, by rw [hU]; exact hsz⟩⟩ rfl (by rw [List.length_map]; exact hna) hl.1 ?_ (cat_room hw) hd ⟨hr1, hr2⟩) h T rfl X
  · have := va_recv F.wo.1 F.wd hq1 (mw_get hM)
    rw [hq2] at this
    exact this
  · show List.map (mv G) (a.reverse ++ .ref r :: st) = _
    simp [mv]
theorem E_callS {y' : MI} {idx na : Nat} {a stk : List Value} {Qc : QT} (hd : decode (iC y) pc = .ok (.invokestatic idx, 3)) (hL : LSt (iY y).cls idx y' na) (hC : Ctr G y' a M Qc)
    (h : ∀ v M', Qc v M' → E G y Z (k + iM y') (n + iS y') (pc + 3) ls (v.toList ++ st) M') (hs : stk = a.reverse ++ st := by rfl) (hna : a.length = na := by rfl) (hR : LR y y' := by decide) (hw : (st.map fun v => v.category).sum ≤ 8 := by decide) (hr1 : k + iM y' ≤ iM y := by decide) (hr2 : n + iS y' ≤ iS y := by decide) : E G y Z k n pc ls stk M := by
  subst hs
  intro p e s m args below meth c H locs arr F hl
  obtain ⟨hB, h1⟩ := hL
  intro T hT X
  subst hT
  have hsz := F.size X
  refine E_run (y' := y') (a := (a.map (mv G)).toArray) F hl (va_runS (y := iY y') (As := a.map (mv G)) ⟨F.1, F.2.1, F.2.2.1, F.own, F.hts⟩ hC ⟨callB hB hR F.hts, F.hts _ h1⟩ ⟨World.blind, fun U hU hW => ⟨rfl, F.wo.next F.hs hW hU, by rw [hU]; exact F.wd, by rw [hU]; exact hsz⟩⟩ rfl (by rw [List.length_map]; exact hna) hl.1 ?_ (cat_room hw) hd ⟨hr1, hr2⟩) h T rfl X
  show List.map (mv G) (a.reverse ++ st) = _
  simp
theorem E_callI {y' : MI} {idx r na : Nat} {a stk : List Value} {Qc : QT} (hd : decode (iC y) pc = .ok (.invokespecial idx, 3)) (hL : LI (iY y).cls idx y' na) (hC : Ctr G y' (.ref r :: a) M Qc)
    (h : ∀ v M', Qc v M' → E G y Z (k + iM y') (n + iS y') (pc + 3) ls (v.toList ++ st) M') (hs : stk = a.reverse ++ .ref r :: st := by rfl) (hna : a.length = na := by rfl) (hR : LR y y' := by decide) (hw : (st.map fun v => v.category).sum ≤ 8 := by decide) (hr1 : k + iM y' ≤ iM y := by decide) (hr2 : n + iS y' ≤ iS y := by decide) : E G y Z k n pc ls stk M := by
  subst hs
  intro p e s m args below meth c H locs arr F hl
  obtain ⟨hB, h1, h2, h3⟩ := hL
  intro T hT X
  subst hT
  have hsz := F.size X
  have hcb := callB hB hR F.hts
  rw [h3] at hcb
  refine E_run (y' := y') (a := (Value.ref (gB G + r) :: a.map (mv G)).toArray) F hl (va_runI (y := iY y') (b := gB G + r) (As := a.map (mv G)) ⟨F.1, F.2.1, F.2.2.1, F.own, F.hts⟩ hC ⟨hcb, h1, F.hts _ h2⟩ ⟨World.blind, fun U hU hW => ⟨rfl, F.wo.next F.hs hW hU, by rw [hU]; exact F.wd, by rw [hU]; exact hsz⟩⟩ rfl (by rw [List.length_map]; exact hna) hl.1 ?_ (cat_room hw) hd ⟨hr1, hr2⟩) h T rfl X
  show List.map (mv G) (a.reverse ++ .ref r :: st) = _
  simp [mv]
theorem E_callN {y' : MI} {idx r na : Nat} {a stk : List Value} {Qc : QT} (hd : decode (iC y) pc = .ok (.invokespecial idx, 3)) (hL : LN (iY y).cls idx y' na) (hC : Ctr G y' (.ref r :: a) M Qc)
    (h : ∀ v M', Qc v M' → E G y Z (k + iM y') (n + iS y') (pc + 3) ls (v.toList ++ st) M') (hs : stk = a.reverse ++ .ref r :: st := by rfl) (hna : a.length = na := by rfl) (hR : LR y y' := by decide) (hw : (st.map fun v => v.category).sum ≤ 8 := by decide) (hr1 : k + iM y' ≤ iM y := by decide) (hr2 : n + iS y' ≤ iS y := by decide) : E G y Z k n pc ls stk M := by
  subst hs
  intro p e s m args below meth c H locs arr F hl
  obtain ⟨⟨host, h1⟩, h2, h3, h4, h5, h6, h7⟩ := hL
  intro T hT X
  subst hT
  have hsz := F.size X
  have hcb := va_cnB (R := rmI y) (bytes := iC y') (maxL := iL y') (ret := iR y') (ws := wsI y') (rm := rmI y') (mc := iM y') (ms := iS y') na F.hts (wsI_good h3) rfl rfl rfl (F.wo.2.2.2.2.2.2.2.2.2 _ h1) (F.hts _ h2) h4 hR
  rw [h7] at hcb
  refine E_run (y' := y') (a := (Value.ref (gB G + r) :: a.map (mv G)).toArray) F hl (va_runIN (y := iY y') (b := gB G + r) (As := a.map (mv G)) ⟨F.1, F.2.1, F.2.2.1, F.own, F.hts⟩ hC ⟨hcb, h5, F.hts _ h6⟩ ⟨World.blind, fun U hU hW => ⟨rfl, F.wo.next F.hs hW hU, by rw [hU]; exact F.wd, by rw [hU]; exact hsz⟩⟩ rfl (by rw [List.length_map]; exact hna) hl.1 ?_ (cat_room hw) hd ⟨hr1, hr2⟩) h T rfl X
  show List.map (mv G) (a.reverse ++ .ref r :: st) = _
  simp [mv]
/-! the ends -/
variable {Q : QT}
theorem end_of {v : Option Value} {p : Program} {e : Env} {s : State} {m : MethodId} {args : Array Value} {below : List Frame} {meth : Method} {c : Code} {locs : List Loc} {T : State} (F : Fr G y k p s m args meth c T.heap locs M) (X : Stand p (gL G) e (rmI y) s m args below meth c T locs k n) (hq : Q v M) (hk : k = iM y) (t : State) (ht : t.heap = T.heap) (hW : s.WarmedH t.vm) :
    Qm G y Q args s (.returned (v.map (mv G))) t := by
  refine ⟨⟨v, M, rfl, hq, by rw [← hk]; exact F.hz, F.wo.next F.hs hW ht, by rw [ht]; exact F.wd, by rw [ht]; exact F.size X⟩, F.hs.F ht⟩
theorem E_iret {x : Int} (hd : decode (iC y) pc = .ok (.ireturn, 1)) (hq : Q (some (vi x)) M) (hR : iR y = some .int := by rfl) (hk : k = iM y := by rfl) (hn : n = iS y := by rfl) : E G y (Zq G y Q) k n pc ls [vi x] M := by
  intro p e s m args below meth c H locs arr F hl T hT X
  subst hT
  have hlk := F.2.2.2.2.1
  have hz := W.iret (p := p) (l := gL G) (e := e) (R := rmI y) (s := s) (m := m) (args := args) (below := below) (meth := meth) (c := c) (H := T.heap) (locs := locs) (cells := k) (slots := n) (Qc := Qm G y Q) (free := mA G) (v := Int32.ofInt x) (ls := arr) F.1 F.2.1 (by rw [F.2.2.2.1]; exact hR) (fun t ht hW => end_of (v := some (vi x)) F X hq hk t ht hW) F.hs.2.2 hd hlk
  unfold Zq
  rw [← hk, ← hn]
  exact hz T rfl X
theorem E_zret {x : Int} (hd : decode (iC y) pc = .ok (.ireturn, 1)) (hq : Q (some (vi x)) M) (hx : x = 0 ∨ x = 1) (hR : iR y = some .boolean := by rfl) (hk : k = iM y := by rfl) (hn : n = iS y := by rfl) : E G y (Zq G y Q) k n pc ls [vi x] M := by
  intro p e s m args below meth c H locs arr F hl T hT X
  subst hT
  have hlk := F.2.2.2.2.1
  have hz := W.zret (p := p) (l := gL G) (e := e) (R := rmI y) (s := s) (m := m) (args := args) (below := below) (meth := meth) (c := c) (H := T.heap) (locs := locs) (cells := k) (slots := n) (Qc := Qm G y Q) (free := mA G) (v := Int32.ofInt x) (ty := .boolean) (ls := arr) F.1 F.2.1 (by rw [F.2.2.2.1]; exact hR) (by rcases hx with rfl | rfl <;> rfl) (fun t ht hW => end_of (v := some (vi x)) F X hq hk t ht hW) F.hs.2.2 hd hlk
  unfold Zq
  rw [← hk, ← hn]
  exact hz T rfl X
theorem E_lret {x : Int} (hd : decode (iC y) pc = .ok (.lreturn, 1)) (hq : Q (some (vl x)) M) (hR : iR y = some .long := by rfl) (hk : k = iM y := by rfl) (hn : n = iS y := by rfl) : E G y (Zq G y Q) k n pc ls [vl x] M := by
  intro p e s m args below meth c H locs arr F hl T hT X
  subst hT
  have hlk := F.2.2.2.2.1
  have hz := W.lret (p := p) (l := gL G) (e := e) (R := rmI y) (s := s) (m := m) (args := args) (below := below) (meth := meth) (c := c) (H := T.heap) (locs := locs) (cells := k) (slots := n) (Qc := Qm G y Q) (free := mA G) (v := Int64.ofInt x) (ls := arr) F.1 F.2.1 (by rw [F.2.2.2.1]; exact hR) (fun t ht hW => end_of (v := some (vl x)) F X hq hk t ht hW) F.hs.2.2 hd hlk
  unfold Zq
  rw [← hk, ← hn]
  exact hz T rfl X
theorem E_vret (hd : decode (iC y) pc = .ok (.return_, 1)) (hq : Q none M) (hR : iR y = none := by rfl) (hk : k = iM y := by rfl) (hn : n = iS y := by rfl) : E G y (Zq G y Q) k n pc ls [] M := by
  intro p e s m args below meth c H locs arr F hl T hT X
  subst hT
  have hlk := F.2.2.2.2.1
  have hz := W.vret (p := p) (l := gL G) (e := e) (R := rmI y) (s := s) (m := m) (args := args) (below := below) (meth := meth) (c := c) (H := T.heap) (locs := locs) (cells := k) (slots := n) (Qc := Qm G y Q) (free := mA G) (ls := arr) F.1 F.2.1 (by rw [F.2.2.2.1]; exact hR) (fun t ht hW => end_of (v := none) F X hq hk t ht hW) F.hs.2.2 hd hlk
  unfold Zq
  rw [← hk, ← hn]
  exact hz T rfl X
theorem lg_len : ∀ a : List Value, (lg_sl (a.map (mv G))).length = (enA a).length
  | [] => rfl
  | v :: t => by
    have ih := lg_len t
    have hc := mv_cat G v
    have e1 : lg_sl ((v :: t).map (mv G)) = (if (mv G v).category = 2 then [.val (mv G v), .second] else [.val (mv G v)]) ++ lg_sl (t.map (mv G)) := by simp [lg_sl]
    rw [e1, List.length_append, ih, hc]
    cases v <;> simp [enA, Value.category] <;> omega
theorem Ctr.of {a : List Value} (hE : E G y (Zq G y Q) 0 0 0 (en a (iL y)) [] M) (hp : plainName (iY y).cls = true := by decide) (hlen : (enA a).length ≤ iL y := by decide) : Ctr G y a M Q := by
  refine Met.ofW (cc := iC y) (maxL := iL y) (ret := iR y) hp rfl ?_
  intro p e s m args below meth c s₁ B hml hv
  obtain ⟨rfl, hWo, hWd, hsz⟩ := hv
  have hts : ∀ w ∈ lw_ok, w.before (a.map (mv G)).toArray s = true := fun w hw => atoms_spec (ws := wsI y) B.pre w (List.mem_cons_of_mem _ hw)
  have hl := lv_entry (a.map (mv G)) (n := iL y) (by rw [lg_len]; exact hlen)
  rw [lg_entry_eq]
  refine hE p e s m _ below meth c s.heap [] _ ⟨B.exec, B.bytes, hml, B.returns, B.notSynchronized, (name_of_methodNamed B.named B.method).1, findClass_of_methodNamed B.named, hts, hWo, hWd, va_S.rf, hsz⟩ (Lo_en hl)
end CALLS
end
