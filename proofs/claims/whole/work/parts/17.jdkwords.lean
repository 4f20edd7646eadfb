/-! The JDK's String members that are reached: names, words, code. -/
def jy_charAt : MethodName := ⟨"java/lang/String", "charAt", "(I)C"⟩
def jy_isLatin1 : MethodName := ⟨"java/lang/String", "isLatin1", "()Z"⟩
def jy_lcharAt : MethodName := ⟨"java/lang/StringLatin1", "charAt", "([BI)C"⟩
def jy_checkIndex : MethodName := ⟨"java/lang/String", "checkIndex", "(II)V"⟩
def jy_pcheck : MethodName := ⟨"jdk/internal/util/Preconditions", "checkIndex", "(IILjava/util/function/BiFunction;)I"⟩
def jy_length : MethodName := ⟨"java/lang/String", "length", "()I"⟩
def jy_coder : MethodName := ⟨"java/lang/String", "coder", "()B"⟩
abbrev jb_charAt : ByteArray := prog_23_method_56_code
theorem jw_c_charAt : Cond.code jy_charAt jb_charAt 2 (some .char) ∈ sr_tb := sr_wd_in (j := 166) (by decide +kernel)
theorem jw_i_charAt : Cond.instanceMethod jy_charAt ∈ sr_tb := sr_wd_in (j := 164) (by decide +kernel)
theorem jw_v_charAt : Cond.selects "java/lang/String" jy_charAt jy_charAt ∈ sr_tb := sr_wd_in (j := 165) (by decide +kernel)
abbrev jb_isLatin1 : ByteArray := prog_23_method_154_code
theorem jw_c_isLatin1 : Cond.code jy_isLatin1 jb_isLatin1 1 (some .boolean) ∈ sr_tb := sr_wd_in (j := 170) (by decide +kernel)
theorem jw_i_isLatin1 : Cond.instanceMethod jy_isLatin1 ∈ sr_tb := sr_wd_in (j := 168) (by decide +kernel)
theorem jw_v_isLatin1 : Cond.selects "java/lang/String" jy_isLatin1 jy_isLatin1 ∈ sr_tb := sr_wd_in (j := 169) (by decide +kernel)
abbrev jb_lcharAt : ByteArray := prog_24_method_2_code
theorem jw_c_lcharAt : Cond.code jy_lcharAt jb_lcharAt 2 (some .char) ∈ sr_tb := sr_wd_in (j := 175) (by decide +kernel)
theorem jw_s_lcharAt : Cond.static jy_lcharAt ∈ sr_tb := sr_wd_in (j := 174) (by decide +kernel)
abbrev jb_checkIndex : ByteArray := prog_23_method_155_code
theorem jw_c_checkIndex : Cond.code jy_checkIndex jb_checkIndex 2 none ∈ sr_tb := sr_wd_in (j := 178) (by decide +kernel)
theorem jw_s_checkIndex : Cond.static jy_checkIndex ∈ sr_tb := sr_wd_in (j := 177) (by decide +kernel)
abbrev jb_pcheck : ByteArray := prog_31_method_11_code
theorem jw_c_pcheck : Cond.code jy_pcheck jb_pcheck 3 (some .int) ∈ sr_tb := sr_wd_in (j := 183) (by decide +kernel)
theorem jw_s_pcheck : Cond.static jy_pcheck ∈ sr_tb := sr_wd_in (j := 182) (by decide +kernel)
abbrev jb_length : ByteArray := prog_23_method_54_code
theorem jw_c_length : Cond.code jy_length jb_length 1 (some .int) ∈ sr_tb := sr_wd_in (j := 1760) (by decide +kernel)
theorem jw_i_length : Cond.instanceMethod jy_length ∈ sr_tb := sr_wd_in (j := 1758) (by decide +kernel)
theorem jw_v_length : Cond.selects "java/lang/String" jy_length jy_length ∈ sr_tb := sr_wd_in (j := 1759) (by decide +kernel)
abbrev jb_coder : ByteArray := prog_23_method_152_code
theorem jw_c_coder : Cond.code jy_coder jb_coder 1 (some .byte) ∈ sr_tb := sr_wd_in (j := 1764) (by decide +kernel)
theorem jw_i_coder : Cond.instanceMethod jy_coder ∈ sr_tb := sr_wd_in (j := 1762) (by decide +kernel)
theorem jw_v_coder : Cond.selects "java/lang/String" jy_coder jy_coder ∈ sr_tb := sr_wd_in (j := 1763) (by decide +kernel)
theorem jw_l_isLatin1 : Cond.methodLink "java/lang/String" 492 jy_isLatin1 ∈ sr_tb := sr_wd_in (j := 167) (by decide +kernel)
theorem jw_l_lcharAt : Cond.methodLink "java/lang/String" 495 jy_lcharAt ∈ sr_tb := sr_wd_in (j := 173) (by decide +kernel)
theorem jw_l_checkIndex : Cond.methodLink "java/lang/StringLatin1" 9 jy_checkIndex ∈ sr_tb := sr_wd_in (j := 176) (by decide +kernel)
theorem jw_l_pcheck : Cond.methodLink "java/lang/String" 1059 jy_pcheck ∈ sr_tb := sr_wd_in (j := 181) (by decide +kernel)
theorem jw_l_coder : Cond.methodLink "java/lang/String" 335 jy_coder ∈ sr_tb := sr_wd_in (j := 1761) (by decide +kernel)
theorem jw_f_value : Cond.fieldLink "java/lang/String" 9 "java/lang/String" "value" "[B" ∈ sr_tb := sr_wd_in (j := 2264) (by decide +kernel)
theorem jw_f_coderf : Cond.fieldLink "java/lang/String" 15 "java/lang/String" "coder" "B" ∈ sr_tb := sr_wd_in (j := 2263) (by decide +kernel)
theorem jw_f_compact : Cond.fieldLink "java/lang/String" 38 "java/lang/String" "COMPACT_STRINGS" "Z" ∈ sr_tb := sr_wd_in (j := 171) (by decide +kernel)
theorem jw_f_fmt : Cond.fieldLink "java/lang/String" 1053 "jdk/internal/util/Preconditions" "SIOOBE_FORMATTER" "Ljava/util/function/BiFunction;" ∈ sr_tb := sr_wd_in (j := 179) (by decide +kernel)
theorem jw_n_S : Cond.initialized "java/lang/String" ∈ sr_tb := sr_wd_in (j := 120) (by decide +kernel)
theorem jw_n_S1 : Cond.initialized "java/lang/StringLatin1" ∈ sr_tb := sr_wd_in (j := 121) (by decide +kernel)
theorem jw_n_P : Cond.initialized "jdk/internal/util/Preconditions" ∈ sr_tb := sr_wd_in (j := 122) (by decide +kernel)
theorem jd_charAt_0 : decode jb_charAt 0 = .ok (.aload_n 0, 1) := by decide +kernel
theorem jd_charAt_1 : decode jb_charAt 1 = .ok (.invokevirtual 492, 3) := by decide +kernel
theorem jd_charAt_4 : decode jb_charAt 4 = .ok (.ifCond .eq 12, 3) := by decide +kernel
theorem jd_charAt_7 : decode jb_charAt 7 = .ok (.aload_n 0, 1) := by decide +kernel
theorem jd_charAt_8 : decode jb_charAt 8 = .ok (.getfield 9, 3) := by decide +kernel
theorem jd_charAt_11 : decode jb_charAt 11 = .ok (.iload_n 1, 1) := by decide +kernel
theorem jd_charAt_12 : decode jb_charAt 12 = .ok (.invokestatic 495, 3) := by decide +kernel
theorem jd_charAt_15 : decode jb_charAt 15 = .ok (.ireturn, 1) := by decide +kernel
theorem jd_charAt_16 : decode jb_charAt 16 = .ok (.aload_n 0, 1) := by decide +kernel
theorem jd_charAt_17 : decode jb_charAt 17 = .ok (.getfield 9, 3) := by decide +kernel
theorem jd_charAt_20 : decode jb_charAt 20 = .ok (.iload_n 1, 1) := by decide +kernel
theorem jd_charAt_21 : decode jb_charAt 21 = .ok (.invokestatic 498, 3) := by decide +kernel
theorem jd_charAt_24 : decode jb_charAt 24 = .ok (.ireturn, 1) := by decide +kernel
theorem jd_isLatin1_0 : decode jb_isLatin1 0 = .ok (.getstatic 38, 3) := by decide +kernel
theorem jd_isLatin1_3 : decode jb_isLatin1 3 = .ok (.ifCond .eq 14, 3) := by decide +kernel
theorem jd_isLatin1_6 : decode jb_isLatin1 6 = .ok (.aload_n 0, 1) := by decide +kernel
theorem jd_isLatin1_7 : decode jb_isLatin1 7 = .ok (.getfield 15, 3) := by decide +kernel
theorem jd_isLatin1_10 : decode jb_isLatin1 10 = .ok (.ifCond .ne 7, 3) := by decide +kernel
theorem jd_isLatin1_13 : decode jb_isLatin1 13 = .ok (.iconst 1, 1) := by decide +kernel
theorem jd_isLatin1_14 : decode jb_isLatin1 14 = .ok (.goto 4, 3) := by decide +kernel
theorem jd_isLatin1_17 : decode jb_isLatin1 17 = .ok (.iconst 0, 1) := by decide +kernel
theorem jd_isLatin1_18 : decode jb_isLatin1 18 = .ok (.ireturn, 1) := by decide +kernel
theorem jd_lcharAt_0 : decode jb_lcharAt 0 = .ok (.iload_n 1, 1) := by decide +kernel
theorem jd_lcharAt_1 : decode jb_lcharAt 1 = .ok (.aload_n 0, 1) := by decide +kernel
theorem jd_lcharAt_2 : decode jb_lcharAt 2 = .ok (.arraylength, 1) := by decide +kernel
theorem jd_lcharAt_3 : decode jb_lcharAt 3 = .ok (.invokestatic 9, 3) := by decide +kernel
theorem jd_lcharAt_6 : decode jb_lcharAt 6 = .ok (.aload_n 0, 1) := by decide +kernel
theorem jd_lcharAt_7 : decode jb_lcharAt 7 = .ok (.iload_n 1, 1) := by decide +kernel
theorem jd_lcharAt_8 : decode jb_lcharAt 8 = .ok (.baload, 1) := by decide +kernel
theorem jd_lcharAt_9 : decode jb_lcharAt 9 = .ok (.sipush 255, 3) := by decide +kernel
theorem jd_lcharAt_12 : decode jb_lcharAt 12 = .ok (.iand, 1) := by decide +kernel
theorem jd_lcharAt_13 : decode jb_lcharAt 13 = .ok (.i2c, 1) := by decide +kernel
theorem jd_lcharAt_14 : decode jb_lcharAt 14 = .ok (.ireturn, 1) := by decide +kernel
theorem jd_checkIndex_0 : decode jb_checkIndex 0 = .ok (.iload_n 0, 1) := by decide +kernel
theorem jd_checkIndex_1 : decode jb_checkIndex 1 = .ok (.iload_n 1, 1) := by decide +kernel
theorem jd_checkIndex_2 : decode jb_checkIndex 2 = .ok (.getstatic 1053, 3) := by decide +kernel
theorem jd_checkIndex_5 : decode jb_checkIndex 5 = .ok (.invokestatic 1059, 3) := by decide +kernel
theorem jd_checkIndex_8 : decode jb_checkIndex 8 = .ok (.pop, 1) := by decide +kernel
theorem jd_checkIndex_9 : decode jb_checkIndex 9 = .ok (.return_, 1) := by decide +kernel
theorem jd_pcheck_0 : decode jb_pcheck 0 = .ok (.iload_n 0, 1) := by decide +kernel
theorem jd_pcheck_1 : decode jb_pcheck 1 = .ok (.ifCond .lt 8, 3) := by decide +kernel
theorem jd_pcheck_4 : decode jb_pcheck 4 = .ok (.iload_n 0, 1) := by decide +kernel
theorem jd_pcheck_5 : decode jb_pcheck 5 = .ok (.iload_n 1, 1) := by decide +kernel
theorem jd_pcheck_6 : decode jb_pcheck 6 = .ok (.if_icmp .lt 10, 3) := by decide +kernel
theorem jd_pcheck_9 : decode jb_pcheck 9 = .ok (.aload_n 2, 1) := by decide +kernel
theorem jd_pcheck_10 : decode jb_pcheck 10 = .ok (.iload_n 0, 1) := by decide +kernel
theorem jd_pcheck_11 : decode jb_pcheck 11 = .ok (.iload_n 1, 1) := by decide +kernel
theorem jd_pcheck_12 : decode jb_pcheck 12 = .ok (.invokestatic 95, 3) := by decide +kernel
theorem jd_pcheck_15 : decode jb_pcheck 15 = .ok (.athrow, 1) := by decide +kernel
theorem jd_pcheck_16 : decode jb_pcheck 16 = .ok (.iload_n 0, 1) := by decide +kernel
theorem jd_pcheck_17 : decode jb_pcheck 17 = .ok (.ireturn, 1) := by decide +kernel
theorem jd_length_0 : decode jb_length 0 = .ok (.aload_n 0, 1) := by decide +kernel
theorem jd_length_1 : decode jb_length 1 = .ok (.getfield 9, 3) := by decide +kernel
theorem jd_length_4 : decode jb_length 4 = .ok (.arraylength, 1) := by decide +kernel
theorem jd_length_5 : decode jb_length 5 = .ok (.aload_n 0, 1) := by decide +kernel
theorem jd_length_6 : decode jb_length 6 = .ok (.invokevirtual 335, 3) := by decide +kernel
theorem jd_length_9 : decode jb_length 9 = .ok (.ishr, 1) := by decide +kernel
theorem jd_length_10 : decode jb_length 10 = .ok (.ireturn, 1) := by decide +kernel
theorem jd_coder_0 : decode jb_coder 0 = .ok (.getstatic 38, 3) := by decide +kernel
theorem jd_coder_3 : decode jb_coder 3 = .ok (.ifCond .eq 10, 3) := by decide +kernel
theorem jd_coder_6 : decode jb_coder 6 = .ok (.aload_n 0, 1) := by decide +kernel
theorem jd_coder_7 : decode jb_coder 7 = .ok (.getfield 15, 3) := by decide +kernel
theorem jd_coder_10 : decode jb_coder 10 = .ok (.goto 4, 3) := by decide +kernel
theorem jd_coder_13 : decode jb_coder 13 = .ok (.iconst 1, 1) := by decide +kernel
theorem jd_coder_14 : decode jb_coder 14 = .ok (.ireturn, 1) := by decide +kernel
