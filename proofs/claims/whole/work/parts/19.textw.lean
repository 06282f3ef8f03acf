def yt_len : MethodName := ⟨"java/lang/String", "length", "()I"⟩
set_option maxRecDepth 100000 in
theorem wt_code_len : (Jvm.Cond.code ({ cls := "java/lang/String", name := "length", desc := "()I" } : Jvm.MethodName) prog_19_method_54_code (1 : Nat) (Option.some Jvm.ClassFile.FieldType.int)) ∈ lw_tbl := List.mem_of_getElem? (i := 547) rfl
set_option maxRecDepth 100000 in
theorem wt_inst_len : (Jvm.Cond.instanceMethod ({ cls := "java/lang/String", name := "length", desc := "()I" } : Jvm.MethodName)) ∈ lw_tbl := List.mem_of_getElem? (i := 545) rfl
set_option maxRecDepth 100000 in
theorem wt_sel_len : (Jvm.Cond.selects "java/lang/String" ({ cls := "java/lang/String", name := "length", desc := "()I" } : Jvm.MethodName) ({ cls := "java/lang/String", name := "length", desc := "()I" } : Jvm.MethodName)) ∈ lw_tbl := List.mem_of_getElem? (i := 546) rfl
def yt_coder : MethodName := ⟨"java/lang/String", "coder", "()B"⟩
set_option maxRecDepth 100000 in
theorem wt_code_coder : (Jvm.Cond.code ({ cls := "java/lang/String", name := "coder", desc := "()B" } : Jvm.MethodName) prog_19_method_152_code (1 : Nat) (Option.some Jvm.ClassFile.FieldType.byte)) ∈ lw_tbl := List.mem_of_getElem? (i := 551) rfl
set_option maxRecDepth 100000 in
theorem wt_inst_coder : (Jvm.Cond.instanceMethod ({ cls := "java/lang/String", name := "coder", desc := "()B" } : Jvm.MethodName)) ∈ lw_tbl := List.mem_of_getElem? (i := 549) rfl
set_option maxRecDepth 100000 in
theorem wt_sel_coder : (Jvm.Cond.selects "java/lang/String" ({ cls := "java/lang/String", name := "coder", desc := "()B" } : Jvm.MethodName) ({ cls := "java/lang/String", name := "coder", desc := "()B" } : Jvm.MethodName)) ∈ lw_tbl := List.mem_of_getElem? (i := 550) rfl
def yt_charAt : MethodName := ⟨"java/lang/String", "charAt", "(I)C"⟩
set_option maxRecDepth 100000 in
theorem wt_code_charAt : (Jvm.Cond.code ({ cls := "java/lang/String", name := "charAt", desc := "(I)C" } : Jvm.MethodName) prog_19_method_56_code (2 : Nat) (Option.some Jvm.ClassFile.FieldType.char)) ∈ lw_tbl := List.mem_of_getElem? (i := 557) rfl
set_option maxRecDepth 100000 in
theorem wt_inst_charAt : (Jvm.Cond.instanceMethod ({ cls := "java/lang/String", name := "charAt", desc := "(I)C" } : Jvm.MethodName)) ∈ lw_tbl := List.mem_of_getElem? (i := 555) rfl
set_option maxRecDepth 100000 in
theorem wt_sel_charAt : (Jvm.Cond.selects "java/lang/String" ({ cls := "java/lang/String", name := "charAt", desc := "(I)C" } : Jvm.MethodName) ({ cls := "java/lang/String", name := "charAt", desc := "(I)C" } : Jvm.MethodName)) ∈ lw_tbl := List.mem_of_getElem? (i := 556) rfl
def yt_isL : MethodName := ⟨"java/lang/String", "isLatin1", "()Z"⟩
set_option maxRecDepth 100000 in
theorem wt_code_isL : (Jvm.Cond.code ({ cls := "java/lang/String", name := "isLatin1", desc := "()Z" } : Jvm.MethodName) prog_19_method_154_code (1 : Nat) (Option.some Jvm.ClassFile.FieldType.boolean)) ∈ lw_tbl := List.mem_of_getElem? (i := 561) rfl
set_option maxRecDepth 100000 in
theorem wt_inst_isL : (Jvm.Cond.instanceMethod ({ cls := "java/lang/String", name := "isLatin1", desc := "()Z" } : Jvm.MethodName)) ∈ lw_tbl := List.mem_of_getElem? (i := 559) rfl
set_option maxRecDepth 100000 in
theorem wt_sel_isL : (Jvm.Cond.selects "java/lang/String" ({ cls := "java/lang/String", name := "isLatin1", desc := "()Z" } : Jvm.MethodName) ({ cls := "java/lang/String", name := "isLatin1", desc := "()Z" } : Jvm.MethodName)) ∈ lw_tbl := List.mem_of_getElem? (i := 560) rfl
def yt_ci : MethodName := ⟨"java/lang/String", "checkIndex", "(II)V"⟩
set_option maxRecDepth 100000 in
theorem wt_code_ci : (Jvm.Cond.code ({ cls := "java/lang/String", name := "checkIndex", desc := "(II)V" } : Jvm.MethodName) prog_19_method_155_code (2 : Nat) (Option.none : Option Jvm.ClassFile.FieldType)) ∈ lw_tbl := List.mem_of_getElem? (i := 567) rfl
set_option maxRecDepth 100000 in
theorem wt_stat_ci : (Jvm.Cond.static ({ cls := "java/lang/String", name := "checkIndex", desc := "(II)V" } : Jvm.MethodName)) ∈ lw_tbl := List.mem_of_getElem? (i := 566) rfl
def yt_lch : MethodName := ⟨"java/lang/StringLatin1", "charAt", "([BI)C"⟩
set_option maxRecDepth 100000 in
theorem wt_code_lch : (Jvm.Cond.code ({ cls := "java/lang/StringLatin1", name := "charAt", desc := "([BI)C" } : Jvm.MethodName) prog_20_method_2_code (2 : Nat) (Option.some Jvm.ClassFile.FieldType.char)) ∈ lw_tbl := List.mem_of_getElem? (i := 564) rfl
set_option maxRecDepth 100000 in
theorem wt_stat_lch : (Jvm.Cond.static ({ cls := "java/lang/StringLatin1", name := "charAt", desc := "([BI)C" } : Jvm.MethodName)) ∈ lw_tbl := List.mem_of_getElem? (i := 563) rfl
def yt_pci : MethodName := ⟨"jdk/internal/util/Preconditions", "checkIndex", "(IILjava/util/function/BiFunction;)I"⟩
set_option maxRecDepth 100000 in
theorem wt_code_pci : (Jvm.Cond.code ({ cls := "jdk/internal/util/Preconditions", name := "checkIndex", desc := "(IILjava/util/function/BiFunction;)I" } : Jvm.MethodName) prog_28_method_11_code (3 : Nat) (Option.some Jvm.ClassFile.FieldType.int)) ∈ lw_tbl := List.mem_of_getElem? (i := 572) rfl
set_option maxRecDepth 100000 in
theorem wt_stat_pci : (Jvm.Cond.static ({ cls := "jdk/internal/util/Preconditions", name := "checkIndex", desc := "(IILjava/util/function/BiFunction;)I" } : Jvm.MethodName)) ∈ lw_tbl := List.mem_of_getElem? (i := 571) rfl
set_option maxRecDepth 100000 in
theorem wt_ini_S : (Jvm.Cond.initialized "java/lang/String") ∈ lw_tbl := List.mem_of_getElem? (i := 148) rfl
set_option maxRecDepth 100000 in
theorem wt_ini_L : (Jvm.Cond.initialized "java/lang/StringLatin1") ∈ lw_tbl := List.mem_of_getElem? (i := 149) rfl
set_option maxRecDepth 100000 in
theorem wt_ini_P : (Jvm.Cond.initialized "jdk/internal/util/Preconditions") ∈ lw_tbl := List.mem_of_getElem? (i := 150) rfl
set_option maxRecDepth 100000 in
theorem wt_ml_len_coder : (Jvm.Cond.methodLink "java/lang/String" (335 : Nat) ({ cls := "java/lang/String", name := "coder", desc := "()B" } : Jvm.MethodName)) ∈ lw_tbl := List.mem_of_getElem? (i := 548) rfl
set_option maxRecDepth 100000 in
theorem wt_ml_charAt_isL : (Jvm.Cond.methodLink "java/lang/String" (492 : Nat) ({ cls := "java/lang/String", name := "isLatin1", desc := "()Z" } : Jvm.MethodName)) ∈ lw_tbl := List.mem_of_getElem? (i := 558) rfl
set_option maxRecDepth 100000 in
theorem wt_ml_charAt_lch : (Jvm.Cond.methodLink "java/lang/String" (495 : Nat) ({ cls := "java/lang/StringLatin1", name := "charAt", desc := "([BI)C" } : Jvm.MethodName)) ∈ lw_tbl := List.mem_of_getElem? (i := 562) rfl
set_option maxRecDepth 100000 in
theorem wt_ml_lch_ci : (Jvm.Cond.methodLink "java/lang/StringLatin1" (9 : Nat) ({ cls := "java/lang/String", name := "checkIndex", desc := "(II)V" } : Jvm.MethodName)) ∈ lw_tbl := List.mem_of_getElem? (i := 565) rfl
set_option maxRecDepth 100000 in
theorem wt_ml_ci_pci : (Jvm.Cond.methodLink "java/lang/String" (1059 : Nat) ({ cls := "jdk/internal/util/Preconditions", name := "checkIndex", desc := "(IILjava/util/function/BiFunction;)I" } : Jvm.MethodName)) ∈ lw_tbl := List.mem_of_getElem? (i := 570) rfl
set_option maxRecDepth 100000 in
theorem wt_f_value : (Jvm.Cond.fieldLink "java/lang/String" (9 : Nat) "java/lang/String" "value" "[B") ∈ lw_tbl := List.mem_of_getElem? (i := 2112) rfl
set_option maxRecDepth 100000 in
theorem wt_f_coder : (Jvm.Cond.fieldLink "java/lang/String" (15 : Nat) "java/lang/String" "coder" "B") ∈ lw_tbl := List.mem_of_getElem? (i := 2113) rfl
set_option maxRecDepth 100000 in
theorem wt_f_comp : (Jvm.Cond.fieldLink "java/lang/String" (38 : Nat) "java/lang/String" "COMPACT_STRINGS" "Z") ∈ lw_tbl := List.mem_of_getElem? (i := 552) rfl
set_option maxRecDepth 100000 in
theorem wt_f_sio : (Jvm.Cond.fieldLink "java/lang/String" (1053 : Nat) "jdk/internal/util/Preconditions" "SIOOBE_FORMATTER" "Ljava/util/function/BiFunction;") ∈ lw_tbl := List.mem_of_getElem? (i := 568) rfl
abbrev ct_len : ByteArray := prog_19_method_54_code
abbrev ct_coder : ByteArray := prog_19_method_152_code
abbrev ct_charAt : ByteArray := prog_19_method_56_code
abbrev ct_isL : ByteArray := prog_19_method_154_code
abbrev ct_ci : ByteArray := prog_19_method_155_code
abbrev ct_lch : ByteArray := prog_20_method_2_code
abbrev ct_pci : ByteArray := prog_28_method_11_code
theorem dt_len_0 : decode ct_len 0 = .ok (.aload_n 0, 1) := by decide +kernel
theorem dt_len_1 : decode ct_len 1 = .ok (.getfield 9, 3) := by decide +kernel
theorem dt_len_4 : decode ct_len 4 = .ok (.arraylength, 1) := by decide +kernel
theorem dt_len_5 : decode ct_len 5 = .ok (.aload_n 0, 1) := by decide +kernel
theorem dt_len_6 : decode ct_len 6 = .ok (.invokevirtual 335, 3) := by decide +kernel
theorem dt_len_9 : decode ct_len 9 = .ok (.ishr, 1) := by decide +kernel
theorem dt_len_10 : decode ct_len 10 = .ok (.ireturn, 1) := by decide +kernel
theorem dt_coder_0 : decode ct_coder 0 = .ok (.getstatic 38, 3) := by decide +kernel
theorem dt_coder_3 : decode ct_coder 3 = .ok (.ifCond .eq 10, 3) := by decide +kernel
theorem dt_coder_6 : decode ct_coder 6 = .ok (.aload_n 0, 1) := by decide +kernel
theorem dt_coder_7 : decode ct_coder 7 = .ok (.getfield 15, 3) := by decide +kernel
theorem dt_coder_10 : decode ct_coder 10 = .ok (.goto 4, 3) := by decide +kernel
theorem dt_coder_13 : decode ct_coder 13 = .ok (.iconst 1, 1) := by decide +kernel
theorem dt_coder_14 : decode ct_coder 14 = .ok (.ireturn, 1) := by decide +kernel
theorem dt_charAt_0 : decode ct_charAt 0 = .ok (.aload_n 0, 1) := by decide +kernel
theorem dt_charAt_1 : decode ct_charAt 1 = .ok (.invokevirtual 492, 3) := by decide +kernel
theorem dt_charAt_4 : decode ct_charAt 4 = .ok (.ifCond .eq 12, 3) := by decide +kernel
theorem dt_charAt_7 : decode ct_charAt 7 = .ok (.aload_n 0, 1) := by decide +kernel
theorem dt_charAt_8 : decode ct_charAt 8 = .ok (.getfield 9, 3) := by decide +kernel
theorem dt_charAt_11 : decode ct_charAt 11 = .ok (.iload_n 1, 1) := by decide +kernel
theorem dt_charAt_12 : decode ct_charAt 12 = .ok (.invokestatic 495, 3) := by decide +kernel
theorem dt_charAt_15 : decode ct_charAt 15 = .ok (.ireturn, 1) := by decide +kernel
theorem dt_charAt_16 : decode ct_charAt 16 = .ok (.aload_n 0, 1) := by decide +kernel
theorem dt_charAt_17 : decode ct_charAt 17 = .ok (.getfield 9, 3) := by decide +kernel
theorem dt_charAt_20 : decode ct_charAt 20 = .ok (.iload_n 1, 1) := by decide +kernel
theorem dt_charAt_21 : decode ct_charAt 21 = .ok (.invokestatic 498, 3) := by decide +kernel
theorem dt_charAt_24 : decode ct_charAt 24 = .ok (.ireturn, 1) := by decide +kernel
theorem dt_isL_0 : decode ct_isL 0 = .ok (.getstatic 38, 3) := by decide +kernel
theorem dt_isL_3 : decode ct_isL 3 = .ok (.ifCond .eq 14, 3) := by decide +kernel
theorem dt_isL_6 : decode ct_isL 6 = .ok (.aload_n 0, 1) := by decide +kernel
theorem dt_isL_7 : decode ct_isL 7 = .ok (.getfield 15, 3) := by decide +kernel
theorem dt_isL_10 : decode ct_isL 10 = .ok (.ifCond .ne 7, 3) := by decide +kernel
theorem dt_isL_13 : decode ct_isL 13 = .ok (.iconst 1, 1) := by decide +kernel
theorem dt_isL_14 : decode ct_isL 14 = .ok (.goto 4, 3) := by decide +kernel
theorem dt_isL_17 : decode ct_isL 17 = .ok (.iconst 0, 1) := by decide +kernel
theorem dt_isL_18 : decode ct_isL 18 = .ok (.ireturn, 1) := by decide +kernel
theorem dt_ci_0 : decode ct_ci 0 = .ok (.iload_n 0, 1) := by decide +kernel
theorem dt_ci_1 : decode ct_ci 1 = .ok (.iload_n 1, 1) := by decide +kernel
theorem dt_ci_2 : decode ct_ci 2 = .ok (.getstatic 1053, 3) := by decide +kernel
theorem dt_ci_5 : decode ct_ci 5 = .ok (.invokestatic 1059, 3) := by decide +kernel
theorem dt_ci_8 : decode ct_ci 8 = .ok (.pop, 1) := by decide +kernel
theorem dt_ci_9 : decode ct_ci 9 = .ok (.return_, 1) := by decide +kernel
theorem dt_lch_0 : decode ct_lch 0 = .ok (.iload_n 1, 1) := by decide +kernel
theorem dt_lch_1 : decode ct_lch 1 = .ok (.aload_n 0, 1) := by decide +kernel
theorem dt_lch_2 : decode ct_lch 2 = .ok (.arraylength, 1) := by decide +kernel
theorem dt_lch_3 : decode ct_lch 3 = .ok (.invokestatic 9, 3) := by decide +kernel
theorem dt_lch_6 : decode ct_lch 6 = .ok (.aload_n 0, 1) := by decide +kernel
theorem dt_lch_7 : decode ct_lch 7 = .ok (.iload_n 1, 1) := by decide +kernel
theorem dt_lch_8 : decode ct_lch 8 = .ok (.baload, 1) := by decide +kernel
theorem dt_lch_9 : decode ct_lch 9 = .ok (.sipush 255, 3) := by decide +kernel
theorem dt_lch_12 : decode ct_lch 12 = .ok (.iand, 1) := by decide +kernel
theorem dt_lch_13 : decode ct_lch 13 = .ok (.i2c, 1) := by decide +kernel
theorem dt_lch_14 : decode ct_lch 14 = .ok (.ireturn, 1) := by decide +kernel
theorem dt_pci_0 : decode ct_pci 0 = .ok (.iload_n 0, 1) := by decide +kernel
theorem dt_pci_1 : decode ct_pci 1 = .ok (.ifCond .lt 8, 3) := by decide +kernel
theorem dt_pci_4 : decode ct_pci 4 = .ok (.iload_n 0, 1) := by decide +kernel
theorem dt_pci_5 : decode ct_pci 5 = .ok (.iload_n 1, 1) := by decide +kernel
theorem dt_pci_6 : decode ct_pci 6 = .ok (.if_icmp .lt 10, 3) := by decide +kernel
theorem dt_pci_9 : decode ct_pci 9 = .ok (.aload_n 2, 1) := by decide +kernel
theorem dt_pci_10 : decode ct_pci 10 = .ok (.iload_n 0, 1) := by decide +kernel
theorem dt_pci_11 : decode ct_pci 11 = .ok (.iload_n 1, 1) := by decide +kernel
theorem dt_pci_12 : decode ct_pci 12 = .ok (.invokestatic 95, 3) := by decide +kernel
theorem dt_pci_15 : decode ct_pci 15 = .ok (.athrow, 1) := by decide +kernel
theorem dt_pci_16 : decode ct_pci 16 = .ok (.iload_n 0, 1) := by decide +kernel
theorem dt_pci_17 : decode ct_pci 17 = .ok (.ireturn, 1) := by decide +kernel
