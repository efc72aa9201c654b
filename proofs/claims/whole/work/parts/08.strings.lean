/-! members of String constants -/
theorem zq_79 : Cond.initialized RJ1 ∈ zj_T := zj_mem (i := 79) (by decide +kernel) rfl
theorem zq_80 : Cond.initialized RJ3 ∈ zj_T := zj_mem (i := 80) (by decide +kernel) rfl
theorem zq_403 : Cond.methodLink RJ0 335 yJ0_coder_7d493 ∈ zj_T := zj_mem (i := 403) (by decide +kernel) rfl
theorem zq_404 : Cond.instanceMethod yJ0_coder_7d493 ∈ zj_T := zj_mem (i := 404) (by decide +kernel) rfl
theorem zq_405 : Cond.selects RJ0 yJ0_coder_7d493 yJ0_coder_7d493 ∈ zj_T := zj_mem (i := 405) (by decide +kernel) rfl
theorem zq_406 : Cond.code yJ0_coder_7d493 cJ0_coder_7d493 1 (some .byte) ∈ zj_T := zj_mem (i := 406) (by decide +kernel) rfl
theorem zq_407 : Cond.fieldLink RJ0 38 "java/lang/String" "COMPACT_STRINGS" "Z" ∈ zj_T := zj_mem (i := 407) (by decide +kernel) rfl
theorem zq_413 : Cond.methodLink RJ0 492 yJ0_isLatin1_aae02 ∈ zj_T := zj_mem (i := 413) (by decide +kernel) rfl
theorem zq_414 : Cond.instanceMethod yJ0_isLatin1_aae02 ∈ zj_T := zj_mem (i := 414) (by decide +kernel) rfl
theorem zq_415 : Cond.selects RJ0 yJ0_isLatin1_aae02 yJ0_isLatin1_aae02 ∈ zj_T := zj_mem (i := 415) (by decide +kernel) rfl
theorem zq_416 : Cond.code yJ0_isLatin1_aae02 cJ0_isLatin1_aae02 1 (some .boolean) ∈ zj_T := zj_mem (i := 416) (by decide +kernel) rfl
theorem zq_417 : Cond.methodLink RJ0 495 yJ1_charAt_3b067 ∈ zj_T := zj_mem (i := 417) (by decide +kernel) rfl
theorem zq_418 : Cond.static yJ1_charAt_3b067 ∈ zj_T := zj_mem (i := 418) (by decide +kernel) rfl
theorem zq_419 : Cond.code yJ1_charAt_3b067 cJ1_charAt_3b067 2 (some .char) ∈ zj_T := zj_mem (i := 419) (by decide +kernel) rfl
theorem zq_420 : Cond.methodLink RJ1 9 yJ0_checkIndex_df160 ∈ zj_T := zj_mem (i := 420) (by decide +kernel) rfl
theorem zq_421 : Cond.static yJ0_checkIndex_df160 ∈ zj_T := zj_mem (i := 421) (by decide +kernel) rfl
theorem zq_422 : Cond.code yJ0_checkIndex_df160 cJ0_checkIndex_df160 2 none ∈ zj_T := zj_mem (i := 422) (by decide +kernel) rfl
theorem zq_423 : Cond.fieldLink RJ0 1053 "jdk/internal/util/Preconditions" "SIOOBE_FORMATTER" "Ljava/util/function/BiFunction;" ∈ zj_T := zj_mem (i := 423) (by decide +kernel) rfl
theorem zq_425 : Cond.methodLink RJ0 1059 yJ3_checkIndex_8e157 ∈ zj_T := zj_mem (i := 425) (by decide +kernel) rfl
theorem zq_426 : Cond.static yJ3_checkIndex_8e157 ∈ zj_T := zj_mem (i := 426) (by decide +kernel) rfl
theorem zq_427 : Cond.code yJ3_checkIndex_8e157 cJ3_checkIndex_8e157 3 (some .int) ∈ zj_T := zj_mem (i := 427) (by decide +kernel) rfl
theorem zq_494 : Cond.methodLink RJ0 633 yJ0_indexOf_7cf53 ∈ zj_T := zj_mem (i := 494) (by decide +kernel) rfl
theorem zq_495 : Cond.instanceMethod yJ0_indexOf_7cf53 ∈ zj_T := zj_mem (i := 495) (by decide +kernel) rfl
theorem zq_496 : Cond.selects RJ0 yJ0_indexOf_7cf53 yJ0_indexOf_7cf53 ∈ zj_T := zj_mem (i := 496) (by decide +kernel) rfl
theorem zq_497 : Cond.code yJ0_indexOf_7cf53 cJ0_indexOf_7cf53 3 (some .int) ∈ zj_T := zj_mem (i := 497) (by decide +kernel) rfl
theorem zq_498 : Cond.methodLink RJ0 505 yJ0_length_8abf5 ∈ zj_T := zj_mem (i := 498) (by decide +kernel) rfl
theorem zq_499 : Cond.methodLink RJ0 637 yJ1_indexOf_4cfef ∈ zj_T := zj_mem (i := 499) (by decide +kernel) rfl
theorem zq_500 : Cond.static yJ1_indexOf_4cfef ∈ zj_T := zj_mem (i := 500) (by decide +kernel) rfl
theorem zq_501 : Cond.code yJ1_indexOf_4cfef cJ1_indexOf_4cfef 4 (some .int) ∈ zj_T := zj_mem (i := 501) (by decide +kernel) rfl
theorem zq_502 : Cond.methodLink RJ1 88 yJ1_canEncode_9a6ad ∈ zj_T := zj_mem (i := 502) (by decide +kernel) rfl
theorem zq_503 : Cond.static yJ1_canEncode_9a6ad ∈ zj_T := zj_mem (i := 503) (by decide +kernel) rfl
theorem zq_504 : Cond.code yJ1_canEncode_9a6ad cJ1_canEncode_9a6ad 1 (some .boolean) ∈ zj_T := zj_mem (i := 504) (by decide +kernel) rfl
theorem zq_505 : Cond.methodLink RJ1 92 Lib.Math.max.name ∈ zj_T := zj_mem (i := 505) (by decide +kernel) rfl
theorem zq_508 : Cond.methodLink RJ1 38 Lib.Math.min.name ∈ zj_T := zj_mem (i := 508) (by decide +kernel) rfl
theorem zq_511 : Cond.methodLink RJ1 95 yJ1_indexOfChar_4cfef ∈ zj_T := zj_mem (i := 511) (by decide +kernel) rfl
theorem zq_512 : Cond.static yJ1_indexOfChar_4cfef ∈ zj_T := zj_mem (i := 512) (by decide +kernel) rfl
theorem zq_513 : Cond.code yJ1_indexOfChar_4cfef cJ1_indexOfChar_4cfef 6 (some .int) ∈ zj_T := zj_mem (i := 513) (by decide +kernel) rfl
theorem zq_1399 : Cond.fieldLink RJ0 9 "java/lang/String" "value" "[B" ∈ zj_T := zj_mem (i := 1399) (by decide +kernel) rfl
theorem zq_1400 : Cond.fieldLink RJ0 15 "java/lang/String" "coder" "B" ∈ zj_T := zj_mem (i := 1400) (by decide +kernel) rfl
theorem dJ0_length_8abf5_0 : decode cJ0_length_8abf5 0 = .ok (.aload_n 0, 1) := by decide +kernel
theorem dJ0_length_8abf5_1 : decode cJ0_length_8abf5 1 = .ok (.getfield 9, 3) := by decide +kernel
theorem dJ0_length_8abf5_4 : decode cJ0_length_8abf5 4 = .ok (.arraylength, 1) := by decide +kernel
theorem dJ0_length_8abf5_5 : decode cJ0_length_8abf5 5 = .ok (.aload_n 0, 1) := by decide +kernel
theorem dJ0_length_8abf5_6 : decode cJ0_length_8abf5 6 = .ok (.invokevirtual 335, 3) := by decide +kernel
theorem dJ0_length_8abf5_9 : decode cJ0_length_8abf5 9 = .ok (.ishr, 1) := by decide +kernel
theorem dJ0_length_8abf5_10 : decode cJ0_length_8abf5 10 = .ok (.ireturn, 1) := by decide +kernel
theorem dJ0_coder_7d493_0 : decode cJ0_coder_7d493 0 = .ok (.getstatic 38, 3) := by decide +kernel
theorem dJ0_coder_7d493_3 : decode cJ0_coder_7d493 3 = .ok (.ifCond .eq 10, 3) := by decide +kernel
theorem dJ0_coder_7d493_6 : decode cJ0_coder_7d493 6 = .ok (.aload_n 0, 1) := by decide +kernel
theorem dJ0_coder_7d493_7 : decode cJ0_coder_7d493 7 = .ok (.getfield 15, 3) := by decide +kernel
theorem dJ0_coder_7d493_10 : decode cJ0_coder_7d493 10 = .ok (.goto 4, 3) := by decide +kernel
theorem dJ0_coder_7d493_13 : decode cJ0_coder_7d493 13 = .ok (.iconst 1, 1) := by decide +kernel
theorem dJ0_coder_7d493_14 : decode cJ0_coder_7d493 14 = .ok (.ireturn, 1) := by decide +kernel
theorem dJ0_isLatin1_aae02_0 : decode cJ0_isLatin1_aae02 0 = .ok (.getstatic 38, 3) := by decide +kernel
theorem dJ0_isLatin1_aae02_3 : decode cJ0_isLatin1_aae02 3 = .ok (.ifCond .eq 14, 3) := by decide +kernel
theorem dJ0_isLatin1_aae02_6 : decode cJ0_isLatin1_aae02 6 = .ok (.aload_n 0, 1) := by decide +kernel
theorem dJ0_isLatin1_aae02_7 : decode cJ0_isLatin1_aae02 7 = .ok (.getfield 15, 3) := by decide +kernel
theorem dJ0_isLatin1_aae02_10 : decode cJ0_isLatin1_aae02 10 = .ok (.ifCond .ne 7, 3) := by decide +kernel
theorem dJ0_isLatin1_aae02_13 : decode cJ0_isLatin1_aae02 13 = .ok (.iconst 1, 1) := by decide +kernel
theorem dJ0_isLatin1_aae02_14 : decode cJ0_isLatin1_aae02 14 = .ok (.goto 4, 3) := by decide +kernel
theorem dJ0_isLatin1_aae02_17 : decode cJ0_isLatin1_aae02 17 = .ok (.iconst 0, 1) := by decide +kernel
theorem dJ0_isLatin1_aae02_18 : decode cJ0_isLatin1_aae02 18 = .ok (.ireturn, 1) := by decide +kernel
theorem dJ0_checkIndex_df160_0 : decode cJ0_checkIndex_df160 0 = .ok (.iload_n 0, 1) := by decide +kernel
theorem dJ0_checkIndex_df160_1 : decode cJ0_checkIndex_df160 1 = .ok (.iload_n 1, 1) := by decide +kernel
theorem dJ0_checkIndex_df160_2 : decode cJ0_checkIndex_df160 2 = .ok (.getstatic 1053, 3) := by decide +kernel
theorem dJ0_checkIndex_df160_5 : decode cJ0_checkIndex_df160 5 = .ok (.invokestatic 1059, 3) := by decide +kernel
theorem dJ0_checkIndex_df160_8 : decode cJ0_checkIndex_df160 8 = .ok (.pop, 1) := by decide +kernel
theorem dJ0_checkIndex_df160_9 : decode cJ0_checkIndex_df160 9 = .ok (.return_, 1) := by decide +kernel
theorem dJ3_checkIndex_8e157_0 : decode cJ3_checkIndex_8e157 0 = .ok (.iload_n 0, 1) := by decide +kernel
theorem dJ3_checkIndex_8e157_1 : decode cJ3_checkIndex_8e157 1 = .ok (.ifCond .lt 8, 3) := by decide +kernel
theorem dJ3_checkIndex_8e157_4 : decode cJ3_checkIndex_8e157 4 = .ok (.iload_n 0, 1) := by decide +kernel
theorem dJ3_checkIndex_8e157_5 : decode cJ3_checkIndex_8e157 5 = .ok (.iload_n 1, 1) := by decide +kernel
theorem dJ3_checkIndex_8e157_6 : decode cJ3_checkIndex_8e157 6 = .ok (.if_icmp .lt 10, 3) := by decide +kernel
theorem dJ3_checkIndex_8e157_9 : decode cJ3_checkIndex_8e157 9 = .ok (.aload_n 2, 1) := by decide +kernel
theorem dJ3_checkIndex_8e157_10 : decode cJ3_checkIndex_8e157 10 = .ok (.iload_n 0, 1) := by decide +kernel
theorem dJ3_checkIndex_8e157_11 : decode cJ3_checkIndex_8e157 11 = .ok (.iload_n 1, 1) := by decide +kernel
theorem dJ3_checkIndex_8e157_12 : decode cJ3_checkIndex_8e157 12 = .ok (.invokestatic 95, 3) := by decide +kernel
theorem dJ3_checkIndex_8e157_15 : decode cJ3_checkIndex_8e157 15 = .ok (.athrow, 1) := by decide +kernel
theorem dJ3_checkIndex_8e157_16 : decode cJ3_checkIndex_8e157 16 = .ok (.iload_n 0, 1) := by decide +kernel
theorem dJ3_checkIndex_8e157_17 : decode cJ3_checkIndex_8e157 17 = .ok (.ireturn, 1) := by decide +kernel
theorem dJ1_charAt_3b067_0 : decode cJ1_charAt_3b067 0 = .ok (.iload_n 1, 1) := by decide +kernel
theorem dJ1_charAt_3b067_1 : decode cJ1_charAt_3b067 1 = .ok (.aload_n 0, 1) := by decide +kernel
theorem dJ1_charAt_3b067_2 : decode cJ1_charAt_3b067 2 = .ok (.arraylength, 1) := by decide +kernel
theorem dJ1_charAt_3b067_3 : decode cJ1_charAt_3b067 3 = .ok (.invokestatic 9, 3) := by decide +kernel
theorem dJ1_charAt_3b067_6 : decode cJ1_charAt_3b067 6 = .ok (.aload_n 0, 1) := by decide +kernel
theorem dJ1_charAt_3b067_7 : decode cJ1_charAt_3b067 7 = .ok (.iload_n 1, 1) := by decide +kernel
theorem dJ1_charAt_3b067_8 : decode cJ1_charAt_3b067 8 = .ok (.baload, 1) := by decide +kernel
theorem dJ1_charAt_3b067_9 : decode cJ1_charAt_3b067 9 = .ok (.sipush 255, 3) := by decide +kernel
theorem dJ1_charAt_3b067_12 : decode cJ1_charAt_3b067 12 = .ok (.iand, 1) := by decide +kernel
theorem dJ1_charAt_3b067_13 : decode cJ1_charAt_3b067 13 = .ok (.i2c, 1) := by decide +kernel
theorem dJ1_charAt_3b067_14 : decode cJ1_charAt_3b067 14 = .ok (.ireturn, 1) := by decide +kernel
theorem dJ0_charAt_5068e_0 : decode cJ0_charAt_5068e 0 = .ok (.aload_n 0, 1) := by decide +kernel
theorem dJ0_charAt_5068e_1 : decode cJ0_charAt_5068e 1 = .ok (.invokevirtual 492, 3) := by decide +kernel
theorem dJ0_charAt_5068e_4 : decode cJ0_charAt_5068e 4 = .ok (.ifCond .eq 12, 3) := by decide +kernel
theorem dJ0_charAt_5068e_7 : decode cJ0_charAt_5068e 7 = .ok (.aload_n 0, 1) := by decide +kernel
theorem dJ0_charAt_5068e_8 : decode cJ0_charAt_5068e 8 = .ok (.getfield 9, 3) := by decide +kernel
theorem dJ0_charAt_5068e_11 : decode cJ0_charAt_5068e 11 = .ok (.iload_n 1, 1) := by decide +kernel
theorem dJ0_charAt_5068e_12 : decode cJ0_charAt_5068e 12 = .ok (.invokestatic 495, 3) := by decide +kernel
theorem dJ0_charAt_5068e_15 : decode cJ0_charAt_5068e 15 = .ok (.ireturn, 1) := by decide +kernel
theorem dJ0_charAt_5068e_16 : decode cJ0_charAt_5068e 16 = .ok (.aload_n 0, 1) := by decide +kernel
theorem dJ0_charAt_5068e_17 : decode cJ0_charAt_5068e 17 = .ok (.getfield 9, 3) := by decide +kernel
theorem dJ0_charAt_5068e_20 : decode cJ0_charAt_5068e 20 = .ok (.iload_n 1, 1) := by decide +kernel
theorem dJ0_charAt_5068e_21 : decode cJ0_charAt_5068e 21 = .ok (.invokestatic 498, 3) := by decide +kernel
theorem dJ0_charAt_5068e_24 : decode cJ0_charAt_5068e 24 = .ok (.ireturn, 1) := by decide +kernel
theorem dJ0_indexOf_0f7a4_0 : decode cJ0_indexOf_0f7a4 0 = .ok (.aload_n 0, 1) := by decide +kernel
theorem dJ0_indexOf_0f7a4_1 : decode cJ0_indexOf_0f7a4 1 = .ok (.iload_n 1, 1) := by decide +kernel
theorem dJ0_indexOf_0f7a4_2 : decode cJ0_indexOf_0f7a4 2 = .ok (.iconst 0, 1) := by decide +kernel
theorem dJ0_indexOf_0f7a4_3 : decode cJ0_indexOf_0f7a4 3 = .ok (.invokevirtual 633, 3) := by decide +kernel
theorem dJ0_indexOf_0f7a4_6 : decode cJ0_indexOf_0f7a4 6 = .ok (.ireturn, 1) := by decide +kernel
theorem dJ0_indexOf_7cf53_0 : decode cJ0_indexOf_7cf53 0 = .ok (.aload_n 0, 1) := by decide +kernel
theorem dJ0_indexOf_7cf53_1 : decode cJ0_indexOf_7cf53 1 = .ok (.invokevirtual 492, 3) := by decide +kernel
theorem dJ0_indexOf_7cf53_4 : decode cJ0_indexOf_7cf53 4 = .ok (.ifCond .eq 19, 3) := by decide +kernel
theorem dJ0_indexOf_7cf53_7 : decode cJ0_indexOf_7cf53 7 = .ok (.aload_n 0, 1) := by decide +kernel
theorem dJ0_indexOf_7cf53_8 : decode cJ0_indexOf_7cf53 8 = .ok (.getfield 9, 3) := by decide +kernel
theorem dJ0_indexOf_7cf53_11 : decode cJ0_indexOf_7cf53 11 = .ok (.iload_n 1, 1) := by decide +kernel
theorem dJ0_indexOf_7cf53_12 : decode cJ0_indexOf_7cf53 12 = .ok (.iload_n 2, 1) := by decide +kernel
theorem dJ0_indexOf_7cf53_13 : decode cJ0_indexOf_7cf53 13 = .ok (.aload_n 0, 1) := by decide +kernel
theorem dJ0_indexOf_7cf53_14 : decode cJ0_indexOf_7cf53 14 = .ok (.invokevirtual 505, 3) := by decide +kernel
theorem dJ0_indexOf_7cf53_17 : decode cJ0_indexOf_7cf53 17 = .ok (.invokestatic 637, 3) := by decide +kernel
theorem dJ0_indexOf_7cf53_20 : decode cJ0_indexOf_7cf53 20 = .ok (.goto 16, 3) := by decide +kernel
theorem dJ0_indexOf_7cf53_23 : decode cJ0_indexOf_7cf53 23 = .ok (.aload_n 0, 1) := by decide +kernel
theorem dJ0_indexOf_7cf53_24 : decode cJ0_indexOf_7cf53 24 = .ok (.getfield 9, 3) := by decide +kernel
theorem dJ0_indexOf_7cf53_27 : decode cJ0_indexOf_7cf53 27 = .ok (.iload_n 1, 1) := by decide +kernel
theorem dJ0_indexOf_7cf53_28 : decode cJ0_indexOf_7cf53 28 = .ok (.iload_n 2, 1) := by decide +kernel
theorem dJ0_indexOf_7cf53_29 : decode cJ0_indexOf_7cf53 29 = .ok (.aload_n 0, 1) := by decide +kernel
theorem dJ0_indexOf_7cf53_30 : decode cJ0_indexOf_7cf53 30 = .ok (.invokevirtual 505, 3) := by decide +kernel
theorem dJ0_indexOf_7cf53_33 : decode cJ0_indexOf_7cf53 33 = .ok (.invokestatic 640, 3) := by decide +kernel
theorem dJ0_indexOf_7cf53_36 : decode cJ0_indexOf_7cf53 36 = .ok (.ireturn, 1) := by decide +kernel
theorem dJ1_indexOf_4cfef_0 : decode cJ1_indexOf_4cfef 0 = .ok (.iload_n 1, 1) := by decide +kernel
theorem dJ1_indexOf_4cfef_1 : decode cJ1_indexOf_4cfef 1 = .ok (.invokestatic 88, 3) := by decide +kernel
theorem dJ1_indexOf_4cfef_4 : decode cJ1_indexOf_4cfef 4 = .ok (.ifCond .ne 5, 3) := by decide +kernel
theorem dJ1_indexOf_4cfef_7 : decode cJ1_indexOf_4cfef 7 = .ok (.iconst (-1), 1) := by decide +kernel
theorem dJ1_indexOf_4cfef_8 : decode cJ1_indexOf_4cfef 8 = .ok (.ireturn, 1) := by decide +kernel
theorem dJ1_indexOf_4cfef_9 : decode cJ1_indexOf_4cfef 9 = .ok (.iload_n 2, 1) := by decide +kernel
theorem dJ1_indexOf_4cfef_10 : decode cJ1_indexOf_4cfef 10 = .ok (.iconst 0, 1) := by decide +kernel
theorem dJ1_indexOf_4cfef_11 : decode cJ1_indexOf_4cfef 11 = .ok (.invokestatic 92, 3) := by decide +kernel
theorem dJ1_indexOf_4cfef_14 : decode cJ1_indexOf_4cfef 14 = .ok (.istore_n 2, 1) := by decide +kernel
theorem dJ1_indexOf_4cfef_15 : decode cJ1_indexOf_4cfef 15 = .ok (.iload_n 3, 1) := by decide +kernel
theorem dJ1_indexOf_4cfef_16 : decode cJ1_indexOf_4cfef 16 = .ok (.aload_n 0, 1) := by decide +kernel
theorem dJ1_indexOf_4cfef_17 : decode cJ1_indexOf_4cfef 17 = .ok (.arraylength, 1) := by decide +kernel
theorem dJ1_indexOf_4cfef_18 : decode cJ1_indexOf_4cfef 18 = .ok (.invokestatic 38, 3) := by decide +kernel
theorem dJ1_indexOf_4cfef_21 : decode cJ1_indexOf_4cfef 21 = .ok (.istore_n 3, 1) := by decide +kernel
theorem dJ1_indexOf_4cfef_22 : decode cJ1_indexOf_4cfef 22 = .ok (.iload_n 2, 1) := by decide +kernel
theorem dJ1_indexOf_4cfef_23 : decode cJ1_indexOf_4cfef 23 = .ok (.iload_n 3, 1) := by decide +kernel
theorem dJ1_indexOf_4cfef_24 : decode cJ1_indexOf_4cfef 24 = .ok (.if_icmp .lt 5, 3) := by decide +kernel
theorem dJ1_indexOf_4cfef_27 : decode cJ1_indexOf_4cfef 27 = .ok (.iconst (-1), 1) := by decide +kernel
theorem dJ1_indexOf_4cfef_28 : decode cJ1_indexOf_4cfef 28 = .ok (.ireturn, 1) := by decide +kernel
theorem dJ1_indexOf_4cfef_29 : decode cJ1_indexOf_4cfef 29 = .ok (.aload_n 0, 1) := by decide +kernel
theorem dJ1_indexOf_4cfef_30 : decode cJ1_indexOf_4cfef 30 = .ok (.iload_n 1, 1) := by decide +kernel
theorem dJ1_indexOf_4cfef_31 : decode cJ1_indexOf_4cfef 31 = .ok (.iload_n 2, 1) := by decide +kernel
theorem dJ1_indexOf_4cfef_32 : decode cJ1_indexOf_4cfef 32 = .ok (.iload_n 3, 1) := by decide +kernel
theorem dJ1_indexOf_4cfef_33 : decode cJ1_indexOf_4cfef 33 = .ok (.invokestatic 95, 3) := by decide +kernel
theorem dJ1_indexOf_4cfef_36 : decode cJ1_indexOf_4cfef 36 = .ok (.ireturn, 1) := by decide +kernel
theorem dJ1_canEncode_9a6ad_0 : decode cJ1_canEncode_9a6ad 0 = .ok (.iload_n 0, 1) := by decide +kernel
theorem dJ1_canEncode_9a6ad_1 : decode cJ1_canEncode_9a6ad 1 = .ok (.ifCond .lt 14, 3) := by decide +kernel
theorem dJ1_canEncode_9a6ad_4 : decode cJ1_canEncode_9a6ad 4 = .ok (.iload_n 0, 1) := by decide +kernel
theorem dJ1_canEncode_9a6ad_5 : decode cJ1_canEncode_9a6ad 5 = .ok (.sipush 255, 3) := by decide +kernel
theorem dJ1_canEncode_9a6ad_8 : decode cJ1_canEncode_9a6ad 8 = .ok (.if_icmp .gt 7, 3) := by decide +kernel
theorem dJ1_canEncode_9a6ad_11 : decode cJ1_canEncode_9a6ad 11 = .ok (.iconst 1, 1) := by decide +kernel
theorem dJ1_canEncode_9a6ad_12 : decode cJ1_canEncode_9a6ad 12 = .ok (.goto 4, 3) := by decide +kernel
theorem dJ1_canEncode_9a6ad_15 : decode cJ1_canEncode_9a6ad 15 = .ok (.iconst 0, 1) := by decide +kernel
theorem dJ1_canEncode_9a6ad_16 : decode cJ1_canEncode_9a6ad 16 = .ok (.ireturn, 1) := by decide +kernel
theorem dJ1_indexOfChar_4cfef_0 : decode cJ1_indexOfChar_4cfef 0 = .ok (.iload_n 1, 1) := by decide +kernel
theorem dJ1_indexOfChar_4cfef_1 : decode cJ1_indexOfChar_4cfef 1 = .ok (.i2b, 1) := by decide +kernel
theorem dJ1_indexOfChar_4cfef_2 : decode cJ1_indexOfChar_4cfef 2 = .ok (.istore 4, 2) := by decide +kernel
theorem dJ1_indexOfChar_4cfef_4 : decode cJ1_indexOfChar_4cfef 4 = .ok (.iload_n 2, 1) := by decide +kernel
theorem dJ1_indexOfChar_4cfef_5 : decode cJ1_indexOfChar_4cfef 5 = .ok (.istore 5, 2) := by decide +kernel
theorem dJ1_indexOfChar_4cfef_7 : decode cJ1_indexOfChar_4cfef 7 = .ok (.iload 5, 2) := by decide +kernel
theorem dJ1_indexOfChar_4cfef_9 : decode cJ1_indexOfChar_4cfef 9 = .ok (.iload_n 3, 1) := by decide +kernel
theorem dJ1_indexOfChar_4cfef_10 : decode cJ1_indexOfChar_4cfef 10 = .ok (.if_icmp .ge 21, 3) := by decide +kernel
theorem dJ1_indexOfChar_4cfef_13 : decode cJ1_indexOfChar_4cfef 13 = .ok (.aload_n 0, 1) := by decide +kernel
theorem dJ1_indexOfChar_4cfef_14 : decode cJ1_indexOfChar_4cfef 14 = .ok (.iload 5, 2) := by decide +kernel
theorem dJ1_indexOfChar_4cfef_16 : decode cJ1_indexOfChar_4cfef 16 = .ok (.baload, 1) := by decide +kernel
theorem dJ1_indexOfChar_4cfef_17 : decode cJ1_indexOfChar_4cfef 17 = .ok (.iload 4, 2) := by decide +kernel
theorem dJ1_indexOfChar_4cfef_19 : decode cJ1_indexOfChar_4cfef 19 = .ok (.if_icmp .ne 6, 3) := by decide +kernel
theorem dJ1_indexOfChar_4cfef_22 : decode cJ1_indexOfChar_4cfef 22 = .ok (.iload 5, 2) := by decide +kernel
theorem dJ1_indexOfChar_4cfef_24 : decode cJ1_indexOfChar_4cfef 24 = .ok (.ireturn, 1) := by decide +kernel
theorem dJ1_indexOfChar_4cfef_25 : decode cJ1_indexOfChar_4cfef 25 = .ok (.iinc 5 1, 3) := by decide +kernel
theorem dJ1_indexOfChar_4cfef_28 : decode cJ1_indexOfChar_4cfef 28 = .ok (.goto (-21), 3) := by decide +kernel
theorem dJ1_indexOfChar_4cfef_31 : decode cJ1_indexOfChar_4cfef 31 = .ok (.iconst (-1), 1) := by decide +kernel
theorem dJ1_indexOfChar_4cfef_32 : decode cJ1_indexOfChar_4cfef 32 = .ok (.ireturn, 1) := by decide +kernel
def zf_J0_length_8abf5 : zj_F := fun as m => match as with
  | [.ref t] => if zj_isS t = true then some ([.int (nI (zj_len.getD (t - 1000) 0))], m) else none
  | _ => none
def zf_J0_charAt_5068e : zj_F := fun as m => match as with
  | [.ref t, .int i] => if zj_isS t = true ∧ ¬ i < 0 ∧ i.toNatClampNeg < zj_len.getD (t - 1000) 0 then some ([.int ((zj_byt.getD (t - 1000) []).getD i.toNatClampNeg 0)], m) else none
  | _ => none
def zj_ix (c : Int32) : List Int32 → Nat → Int32
  | [], _ => -1
  | b :: l, k => if b = c then nI k else zj_ix c l (k + 1)
def zf_J0_indexOf_0f7a4 : zj_F := fun as m => match as with
  | [.ref t, .int c] => if zj_isS t = true ∧ ¬ c < 0 ∧ c < 128 then some ([.int (zj_ix c (zj_byt.getD (t - 1000) []) 0)], m) else none
  | _ => none
def zj_isV (t : Nat) : Bool := decide (2000 ≤ t) && decide (t < 2010)
theorem zj_isV_of {t : Nat} (h : zj_isV t = true) : t - 2000 < 10 ∧ 2000 + (t - 2000) = t := by
  unfold zj_isV at h
  simp only [Bool.and_eq_true, decide_eq_true_eq] at h
  omega
theorem zj_isV_S {t : Nat} (h : zj_isS t = true) : zj_isV (t + 1000) = true ∧ t + 1000 - 2000 = t - 1000 := by
  have := zj_isS_of h
  unfold zj_isV
  rw [decide_eq_true (by omega), decide_eq_true (by omega)]
  exact ⟨rfl, by omega⟩
def zi_sval (k : zj_K) (E : zj_E) (st : List Value) (m : zj_M) : zj_R := match st with
  | .ref t :: r => if zj_isS t = true then k E (.ref (t + 1000) :: r) m else none
  | _ => none
def zi_scod (k : zj_K) (E : zj_E) (st : List Value) (m : zj_M) : zj_R := match st with
  | .ref t :: r => if zj_isS t = true then k E (.int 0 :: r) m else none
  | _ => none
def zi_slen (k : zj_K) (E : zj_E) (st : List Value) (m : zj_M) : zj_R := match st with
  | .ref t :: r => if zj_isV t = true then k E (.int (Int32.ofNat (zj_len.getD (t - 2000) 0)) :: r) m else none
  | _ => none
def zi_sbyt (k : zj_K) (E : zj_E) (st : List Value) (m : zj_M) : zj_R := match st with
  | .int i :: .ref t :: r => if zj_isV t = true ∧ (¬ i < 0 ∧ i.toNatClampNeg < zj_len.getD (t - 2000) 0) then k E (.int ((zj_byt.getD (t - 2000) []).getD i.toNatClampNeg 0) :: r) m else none
  | _ => none
def zi_schk (k : zj_K) (E : zj_E) (st : List Value) (m : zj_M) : zj_R := match st with
  | .int n :: .int i :: r => if (¬ i < 0 ∧ i < n) ∧ zj_wt r ≤ 8 then k E (.int i :: r) m else none
  | _ => none
section ZR
variable {cc : ByteArray} {own : String} {nL d : Nat} {ret : Option FieldType} {sc : Nat × (Nat → Int32)} {pc : Nat} {k kt kf : zj_K}
theorem zr_sval {i : Nat} (hd : decode cc pc = .ok (.getfield i, 3)) (hl : Cond.fieldLink own i "java/lang/String" "value" "[B" ∈ zj_T) (hk : zj_KC cc own nL d ret sc (pc + 3) k) : zj_KC cc own nL d ret sc pc (zi_sval k) := by
  intro p l e R s m args below meth c A g cells slots Q res mem' hC hF E st mem h H ls locs hP hS hL
  unfold zi_sval at h
  split at h
  · next t r =>
    split at h
    · next hc =>
      have hi := zj_isS_of hc
      have hE : va_OF "java/lang/String" "value" "[B" (.ref (zj_ad g (2000 + (t - 1000)))) (zj_ad g (1000 + (t - 1000))) A s s.heap := (hC.2.2.2.2.2.2.2.1.2.2.1 (t - 1000) hi.1).2.2.1
      have he : ∀ t : Nat, 1000 + (t - 1000) = t → 2000 + (t - 1000) = t + 1000 := fun t h => by omega
      rw [he t hi.2, hi.2] at hE
      exact vk_getf hC.1 hC.2.1 hE hS hC.2.2.2.1 (hC.2.2.2.2.1 _ hl) (fun _ h9 => h9) hd (hk p l e R s m args below meth c A g cells slots Q res mem' hC hF E _ mem h H ls locs hP hS hL)
    · cases h
  · cases h
theorem zr_scod {i : Nat} (hd : decode cc pc = .ok (.getfield i, 3)) (hl : Cond.fieldLink own i "java/lang/String" "coder" "B" ∈ zj_T) (hk : zj_KC cc own nL d ret sc (pc + 3) k) : zj_KC cc own nL d ret sc pc (zi_scod k) := by
  intro p l e R s m args below meth c A g cells slots Q res mem' hC hF E st mem h H ls locs hP hS hL
  unfold zi_scod at h
  split at h
  · next t r =>
    split at h
    · next hc =>
      have hi := zj_isS_of hc
      have hE : va_OF "java/lang/String" "coder" "B" (.int 0) (zj_ad g (1000 + (t - 1000))) A s s.heap := (hC.2.2.2.2.2.2.2.1.2.2.1 (t - 1000) hi.1).2.1
      rw [hi.2] at hE
      exact vk_getf hC.1 hC.2.1 hE hS hC.2.2.2.1 (hC.2.2.2.2.1 _ hl) (fun _ h9 => h9) hd (hk p l e R s m args below meth c A g cells slots Q res mem' hC hF E _ mem h H ls locs hP hS hL)
    · cases h
  · cases h
theorem zr_sst {i : Nat} (hd : decode cc pc = .ok (.getstatic i, 3)) (hl : Cond.fieldLink own i "java/lang/String" "COMPACT_STRINGS" "Z" ∈ zj_T) (hk : zj_KC cc own nL d ret sc (pc + 3) k) : zj_KC cc own nL d ret sc pc (zi_push (.int 1) k) := by
  intro p l e R s m args below meth c A g cells slots Q res mem' hC hF E st mem h H ls locs hP hS hL
  exact va_gets hC.1 hC.2.1 hC.2.2.2.2.2.2.2.1.2.2.2.1 hS hC.2.2.2.1 (hC.2.2.2.2.1 _ hl) (fun _ h9 => h9) hd (hk p l e R s m args below meth c A g cells slots Q res mem' hC hF E _ mem h H ls locs hP hS hL)
theorem zr_slen (hd : decode cc pc = .ok (.arraylength, 1)) (hk : zj_KC cc own nL d ret sc (pc + 1) k) : zj_KC cc own nL d ret sc pc (zi_slen k) := by
  intro p l e R s m args below meth c A g cells slots Q res mem' hC hF E st mem h H ls locs hP hS hL
  unfold zi_slen at h
  split at h
  · next t r =>
    split at h
    · next hc =>
      have hi := zj_isV_of hc
      have hE : va_T .byte (zj_ad g (2000 + (t - 2000))) (zj_len.getD (t - 2000) 0) (fun j => .int ((zj_byt.getD (t - 2000) []).getD j 0)) A s s.heap := (hC.2.2.2.2.2.2.2.1.2.2.1 (t - 2000) hi.1).2.2.2
      rw [hi.2] at hE
      exact va_tlen hC.1 hC.2.1 hE hS rfl hd (hk p l e R s m args below meth c A g cells slots Q res mem' hC hF E _ mem h H ls locs hP hS hL)
    · cases h
  · cases h
theorem zr_sbyt (hd : decode cc pc = .ok (.baload, 1)) (hk : zj_KC cc own nL d ret sc (pc + 1) k) : zj_KC cc own nL d ret sc pc (zi_sbyt k) := by
  intro p l e R s m args below meth c A g cells slots Q res mem' hC hF E st mem h H ls locs hP hS hL
  unfold zi_sbyt at h
  split at h
  · next i t r =>
    split at h
    · next hc =>
      have hi := zj_isV_of hc.1
      have hE : va_T .byte (zj_ad g (2000 + (t - 2000))) (zj_len.getD (t - 2000) 0) (fun j => .int ((zj_byt.getD (t - 2000) []).getD j 0)) A s s.heap := (hC.2.2.2.2.2.2.2.1.2.2.1 (t - 2000) hi.1).2.2.2
      rw [hi.2] at hE
      exact va_tb hC.1 hC.2.1 hE hS (fun q => q.elim hc.2.1 (fun z => absurd hc.2.2 (by omega))) rfl hd (hk p l e R s m args below meth c A g cells slots Q res mem' hC hF E _ mem h H ls locs hP hS hL)
    · cases h
  · cases h
theorem zr_i2b (hd : decode cc pc = .ok (.i2b, 1)) (hk : zj_KC cc own nL d ret sc (pc + 1) k) : zj_KC cc own nL d ret sc pc (zi_u (fun x => x.toInt8.toInt32) k) := by
  intro p l e R s m args below meth c A g cells slots Q res mem' hC hF E st mem h H ls locs hP hS hL
  unfold zi_u at h
  split at h
  · exact lv_i2b hC.1 hC.2.1 hd rfl (hk p l e R s m args below meth c A g cells slots Q res mem' hC hF E _ mem h H ls locs hP hS hL)
  · cases h
end ZR
def zf_J3_chk : zj_F := zj_run 3 (zi_ild 0 (zi_lt zi_no (zi_ild 0 (zi_ild 1 (zi_clt (zi_ild 0 (zi_ret (some .int))) zi_no)))))
theorem zm_J3_chk : zj_MS 2 yJ3_checkIndex_8e157 cJ3_checkIndex_8e157 3 (some .int) zf_J3_chk := zj_met (own := RJ3) rfl (by decide +kernel) (Or.inr (Or.inl rfl))
  (zr_ildn dJ3_checkIndex_8e157_0 rfl (zr_iflt dJ3_checkIndex_8e157_1 (tgt := 9) (by decide) zr_no (zr_ildn dJ3_checkIndex_8e157_4 rfl (zr_ildn dJ3_checkIndex_8e157_5 rfl (zr_iclt dJ3_checkIndex_8e157_6 (tgt := 16) (by decide) (zr_ildn dJ3_checkIndex_8e157_16 rfl (zr_ret dJ3_checkIndex_8e157_17)) zr_no)))))
theorem zf_J3_chk_e {i n : Int32} {w : Value} (hw : w = .null ∨ w = .ref 6000) (h1 : ¬ i < 0) (h2 : i < n) (m : zj_M) : zf_J3_chk [.int i, .int n, w] m = some ([.int i], m) := by
  rcases hw with rfl | rfl
  · show (if i < 0 then none else (if i < n then (some ([.int i], m) : zj_R) else none)) = _
    rw [if_neg h1, if_pos h2]
  · show (if i < 0 then none else (if i < n then (some ([.int i], m) : zj_R) else none)) = _
    rw [if_neg h1, if_pos h2]
section ZR
variable {cc : ByteArray} {nL d : Nat} {ret : Option FieldType} {sc : Nat × (Nat → Int32)} {pc : Nat} {k : zj_K}
theorem zr_schk (hd : decode cc pc = .ok (.getstatic 1053, 3)) (hd2 : decode cc (pc + 3) = .ok (.invokestatic 1059, 3)) (h3 : 3 ≤ d) (hk : zj_KC cc RJ0 nL d ret sc (pc + 3 + 3) k) : zj_KC cc RJ0 nL d ret sc pc (zi_schk k) := by
  intro p l e R s m args below meth c A g cells slots Q res mem' hC hF E st mem h H ls locs hP hS hL
  unfold zi_schk at h
  split at h
  · next n i r =>
    split at h
    · next hc =>
      have fin : ∀ w : Value, (w = .null ∨ w = .ref 6000) → W p l e R s m args below meth c H locs cells slots Q (F0 m (pc + 3) ls ((w :: .int n :: .int i :: r).map (zj_tr g))) := fun w hw => by
        have hcall : zi_call 3 zf_J3_chk k E (w :: .int n :: .int i :: r) mem = some (res, mem') := by
          rw [zx_call3 hc.2, zf_J3_chk_e hw hc.1.1 hc.1.2]
          exact h
        exact zr_callS (d' := 2) hd2 zm_J3_chk ⟨⟨zq_427, zq_80⟩, ⟨by decide, by decide, by decide +kernel⟩, by omega, by decide⟩ zq_425 zq_426 hk p l e R s m args below meth c A g cells slots Q res mem' hC hF E _ mem hcall H ls locs hP hS hL
      rcases hC.2.2.2.2.2.2.2.1.2.2.2.2 with q | q
      · exact va_gets hC.1 hC.2.1 q hS hC.2.2.2.1 (hC.2.2.2.2.1 _ zq_423) (fun _ h9 => h9) hd (fin .null (Or.inl rfl))
      · exact va_gets hC.1 hC.2.1 q hS hC.2.2.2.1 (hC.2.2.2.2.1 _ zq_423) (fun _ h9 => h9) hd (fin (.ref 6000) (Or.inr rfl))
    · cases h
  · cases h
end ZR
def zf_J0_cod : zj_F := zj_run 1 (zi_push (.int 1) (zi_eq zi_no (zi_ald 0 (zi_scod (zi_ret (some .byte))))))
theorem zm_J0_cod {d : Nat} : zj_MS d yJ0_coder_7d493 cJ0_coder_7d493 1 (some .byte) zf_J0_cod := zj_metB (own := RJ0) rfl (by decide +kernel) (Or.inr rfl)
  (zr_sst dJ0_coder_7d493_0 zq_407 (zr_ifeq dJ0_coder_7d493_3 (tgt := 13) (by decide) zr_no (zr_aldn dJ0_coder_7d493_6 rfl (zr_scod dJ0_coder_7d493_7 zq_1400 (zr_goto dJ0_coder_7d493_10 (tgt := 14) (by decide) (zr_ret dJ0_coder_7d493_14))))))
def zf_J0_lat : zj_F := zj_run 1 (zi_push (.int 1) (zi_eq zi_no (zi_ald 0 (zi_scod (zi_eq (zi_push (.int 1) (zi_ret (some .boolean))) zi_no)))))
theorem zm_J0_lat {d : Nat} : zj_MS d yJ0_isLatin1_aae02 cJ0_isLatin1_aae02 1 (some .boolean) zf_J0_lat := zj_met (own := RJ0) rfl (by decide +kernel) (Or.inr (Or.inr (Or.inl rfl)))
  (zr_sst dJ0_isLatin1_aae02_0 zq_407 (zr_ifeq dJ0_isLatin1_aae02_3 (tgt := 17) (by decide) zr_no (zr_aldn dJ0_isLatin1_aae02_6 rfl (zr_scod dJ0_isLatin1_aae02_7 zq_1400 (zr_ifne dJ0_isLatin1_aae02_10 (tgt := 17) (by decide) zr_no (zr_iconst dJ0_isLatin1_aae02_13 rfl (zr_goto dJ0_isLatin1_aae02_14 (tgt := 18) (by decide) (zr_ret dJ0_isLatin1_aae02_18))))))))
def zf_J0_len : zj_F := zj_run 1 (zi_ald 0 (zi_sval (zi_slen (zi_ald 0 (zi_sc 0 zf_J0_cod (zi_b (fun x y => x >>> (y &&& 31)) (zi_ret (some .int))))))))
theorem zm_J0_len {d : Nat} (hd : 2 ≤ d) : zj_MS d yJ0_length_8abf5 cJ0_length_8abf5 1 (some .int) zf_J0_len := zj_met (own := RJ0) rfl (by decide +kernel) (Or.inr (Or.inl rfl))
  (zr_aldn dJ0_length_8abf5_0 rfl (zr_sval dJ0_length_8abf5_1 zq_1399 (zr_slen dJ0_length_8abf5_4 (zr_aldn dJ0_length_8abf5_5 rfl (zr_sc (d' := 1) dJ0_length_8abf5_6 zm_J0_cod ⟨⟨zq_406, zq_78⟩, ⟨by decide, by decide, by decide +kernel⟩, by omega, by decide⟩ rfl zq_403 zq_404 zq_405 (zr_ishr dJ0_length_8abf5_9 (zr_ret dJ0_length_8abf5_10)))))))
def zf_J0_chk : zj_F := zj_run 2 (zi_ild 0 (zi_ild 1 (zi_schk (zi_pop (zi_ret none)))))
theorem zm_J0_chk {d : Nat} (hd : 3 ≤ d) : zj_MS d yJ0_checkIndex_df160 cJ0_checkIndex_df160 2 none zf_J0_chk := zj_met (own := RJ0) rfl (by decide +kernel) (Or.inl rfl)
  (zr_ildn dJ0_checkIndex_df160_0 rfl (zr_ildn dJ0_checkIndex_df160_1 rfl (zr_schk dJ0_checkIndex_df160_2 dJ0_checkIndex_df160_5 hd (zr_pop dJ0_checkIndex_df160_8 (zr_ret dJ0_checkIndex_df160_9)))))
def zf_J1_chr : zj_F := zj_run 2 (zi_ild 1 (zi_ald 0 (zi_slen (zi_call 2 zf_J0_chk (zi_ald 0 (zi_ild 1 (zi_sbyt (zi_push (.int 255) (zi_b (fun x y => x &&& y) (zi_u (fun x => (x.toUInt32 % 65536).toInt32) (zi_ret (some .char))))))))))))
theorem zm_J1_chr {d : Nat} (hd : 4 ≤ d) : zj_MS d yJ1_charAt_3b067 cJ1_charAt_3b067 2 (some .char) zf_J1_chr := zj_metB (own := RJ1) rfl (by decide +kernel) (Or.inl rfl)
  (zr_ildn dJ1_charAt_3b067_0 rfl (zr_aldn dJ1_charAt_3b067_1 rfl (zr_slen dJ1_charAt_3b067_2 (zr_callS (d' := 3) dJ1_charAt_3b067_3 (zm_J0_chk (by omega)) ⟨⟨zq_422, zq_78⟩, ⟨by decide, by decide, by decide +kernel⟩, by omega, by decide⟩ zq_420 zq_421 (zr_aldn dJ1_charAt_3b067_6 rfl (zr_ildn dJ1_charAt_3b067_7 rfl (zr_sbyt dJ1_charAt_3b067_8 (zr_sipush dJ1_charAt_3b067_9 rfl (zr_iand dJ1_charAt_3b067_12 (zr_i2c dJ1_charAt_3b067_13 (zr_ret dJ1_charAt_3b067_14)))))))))))
def zf_J0_chr : zj_F := zj_run 2 (zi_ald 0 (zi_sc 0 zf_J0_lat (zi_eq zi_no (zi_ald 0 (zi_sval (zi_ild 1 (zi_call 2 zf_J1_chr (zi_ret (some .char)))))))))
theorem zm_J0_chr {d : Nat} (hd : 5 ≤ d) : zj_MS d yJ0_charAt_5068e cJ0_charAt_5068e 2 (some .char) zf_J0_chr := zj_metB (own := RJ0) rfl (by decide +kernel) (Or.inl rfl)
  (zr_aldn dJ0_charAt_5068e_0 rfl (zr_sc (d' := 1) dJ0_charAt_5068e_1 zm_J0_lat ⟨⟨zq_416, zq_78⟩, ⟨by decide, by decide, by decide +kernel⟩, by omega, by decide⟩ rfl zq_413 zq_414 zq_415 (zr_ifeq dJ0_charAt_5068e_4 (tgt := 16) (by decide) zr_no (zr_aldn dJ0_charAt_5068e_7 rfl (zr_sval dJ0_charAt_5068e_8 zq_1399 (zr_ildn dJ0_charAt_5068e_11 rfl (zr_callS (d' := 4) dJ0_charAt_5068e_12 (zm_J1_chr (by omega)) ⟨⟨zq_419, zq_79⟩, ⟨by decide, by decide, by decide +kernel⟩, by omega, by decide⟩ zq_417 zq_418 (zr_ret dJ0_charAt_5068e_15))))))))
def zf_J1_can : zj_F := zj_run 1 (zi_ild 0 (zi_lt zi_no (zi_ild 0 (zi_push (.int 255) (zi_cle (zi_push (.int 1) (zi_ret (some .boolean))) zi_no)))))
theorem zm_J1_can {d : Nat} : zj_MS d yJ1_canEncode_9a6ad cJ1_canEncode_9a6ad 1 (some .boolean) zf_J1_can := zj_met (own := RJ1) rfl (by decide +kernel) (Or.inr (Or.inr (Or.inl rfl)))
  (zr_ildn dJ1_canEncode_9a6ad_0 rfl (zr_iflt dJ1_canEncode_9a6ad_1 (tgt := 15) (by decide) zr_no (zr_ildn dJ1_canEncode_9a6ad_4 rfl (zr_sipush dJ1_canEncode_9a6ad_5 rfl (zr_icgt dJ1_canEncode_9a6ad_8 (tgt := 15) (by decide) zr_no (zr_iconst dJ1_canEncode_9a6ad_11 rfl (zr_goto dJ1_canEncode_9a6ad_12 (tgt := 16) (by decide) (zr_ret dJ1_canEncode_9a6ad_16))))))))
def zb_J1_ixc (r : zj_K) : zj_K := zi_ild 5 (zi_ild 3 (zi_clt (zi_ald 0 (zi_ild 5 (zi_sbyt (zi_ild 4 (zi_ceq (zi_ild 5 (zi_ret (some .int))) (zi_inc 5 1 r)))))) (zi_push (.int (-1)) (zi_ret (some .int)))))
def zf_J1_ixc : zj_F := zj_run 6 (zi_ild 1 (zi_u (fun x => x.toInt8.toInt32) (zi_ist 4 (zi_ild 2 (zi_ist 5 (zj_lp zb_J1_ixc 100))))))
theorem zs_J1_ixc {d : Nat} {r : zj_K} (h7 : zj_KC cJ1_indexOfChar_4cfef RJ1 6 d (some .int) (0, fun _ => 0) 7 r) : zj_KC cJ1_indexOfChar_4cfef RJ1 6 d (some .int) (0, fun _ => 0) 7 (zb_J1_ixc r) :=
  (zr_ild dJ1_indexOfChar_4cfef_7 (zr_ildn dJ1_indexOfChar_4cfef_9 rfl (zr_icge dJ1_indexOfChar_4cfef_10 (tgt := 31) (by decide) (zr_iconst dJ1_indexOfChar_4cfef_31 rfl (zr_ret dJ1_indexOfChar_4cfef_32)) (zr_aldn dJ1_indexOfChar_4cfef_13 rfl (zr_ild dJ1_indexOfChar_4cfef_14 (zr_sbyt dJ1_indexOfChar_4cfef_16 (zr_ild dJ1_indexOfChar_4cfef_17 (zr_icne dJ1_indexOfChar_4cfef_19 (tgt := 25) (by decide) (zr_inc dJ1_indexOfChar_4cfef_25 rfl (zr_goto dJ1_indexOfChar_4cfef_28 (tgt := 7) (by decide) h7)) (zr_ild dJ1_indexOfChar_4cfef_22 (zr_ret dJ1_indexOfChar_4cfef_24))))))))))
theorem zm_J1_ixc {d : Nat} : zj_MS d yJ1_indexOfChar_4cfef cJ1_indexOfChar_4cfef 6 (some .int) zf_J1_ixc := zj_met (own := RJ1) rfl (by decide +kernel) (Or.inr (Or.inl rfl))
  (zr_ildn dJ1_indexOfChar_4cfef_0 rfl (zr_i2b dJ1_indexOfChar_4cfef_1 (zr_ist dJ1_indexOfChar_4cfef_2 (zr_ildn dJ1_indexOfChar_4cfef_4 rfl (zr_ist dJ1_indexOfChar_4cfef_5 (zr_lp (fun _ h7 => zs_J1_ixc h7) 100))))))
def zf_J1_idx : zj_F := zj_run 4 (zi_ild 1 (zi_call 1 zf_J1_can (zi_eq (zi_push (.int (-1)) (zi_ret (some .int))) (zi_ild 2 (zi_push (.int 0) (zi_mmax (zi_ist 2 (zi_ild 3 (zi_ald 0 (zi_slen (zi_mmin (zi_ist 3 (zi_ild 2 (zi_ild 3 (zi_clt (zi_ald 0 (zi_ild 1 (zi_ild 2 (zi_ild 3 (zi_call 4 zf_J1_ixc (zi_ret (some .int))))))) (zi_push (.int (-1)) (zi_ret (some .int))))))))))))))))))
theorem zm_J1_idx {d : Nat} (hd : 2 ≤ d) : zj_MS d yJ1_indexOf_4cfef cJ1_indexOf_4cfef 4 (some .int) zf_J1_idx := zj_met (own := RJ1) rfl (by decide +kernel) (Or.inr (Or.inl rfl))
  (zr_ildn dJ1_indexOf_4cfef_0 rfl (zr_callS (d' := 1) dJ1_indexOf_4cfef_1 zm_J1_can ⟨⟨zq_504, zq_79⟩, ⟨by decide, by decide, by decide +kernel⟩, by omega, by decide⟩ zq_502 zq_503 (zr_ifne dJ1_indexOf_4cfef_4 (tgt := 9) (by decide) (zr_ildn dJ1_indexOf_4cfef_9 rfl (zr_iconst dJ1_indexOf_4cfef_10 rfl (zr_mmax dJ1_indexOf_4cfef_11 zq_505 zq_506 zq_82 zq_507 (by omega) (zr_istn dJ1_indexOf_4cfef_14 rfl (zr_ildn dJ1_indexOf_4cfef_15 rfl (zr_aldn dJ1_indexOf_4cfef_16 rfl (zr_slen dJ1_indexOf_4cfef_17 (zr_mmin dJ1_indexOf_4cfef_18 zq_508 zq_509 zq_82 zq_510 (by omega) (zr_istn dJ1_indexOf_4cfef_21 rfl (zr_ildn dJ1_indexOf_4cfef_22 rfl (zr_ildn dJ1_indexOf_4cfef_23 rfl (zr_iclt dJ1_indexOf_4cfef_24 (tgt := 29) (by decide) (zr_aldn dJ1_indexOf_4cfef_29 rfl (zr_ildn dJ1_indexOf_4cfef_30 rfl (zr_ildn dJ1_indexOf_4cfef_31 rfl (zr_ildn dJ1_indexOf_4cfef_32 rfl (zr_callS (d' := 1) dJ1_indexOf_4cfef_33 zm_J1_ixc ⟨⟨zq_513, zq_79⟩, ⟨by decide, by decide, by decide +kernel⟩, by omega, by decide⟩ zq_511 zq_512 (zr_ret dJ1_indexOf_4cfef_36)))))) (zr_iconst dJ1_indexOf_4cfef_27 rfl (zr_ret dJ1_indexOf_4cfef_28)))))))))))))) (zr_iconst dJ1_indexOf_4cfef_7 rfl (zr_ret dJ1_indexOf_4cfef_8)))))
def zf_J0_ix2 : zj_F := zj_run 3 (zi_ald 0 (zi_sc 0 zf_J0_lat (zi_eq zi_no (zi_ald 0 (zi_sval (zi_ild 1 (zi_ild 2 (zi_ald 0 (zi_sc 0 zf_J0_len (zi_call 4 zf_J1_idx (zi_ret (some .int))))))))))))
theorem zm_J0_ix2 {d : Nat} (hd : 4 ≤ d) : zj_MS d yJ0_indexOf_7cf53 cJ0_indexOf_7cf53 3 (some .int) zf_J0_ix2 := zj_met (own := RJ0) rfl (by decide +kernel) (Or.inr (Or.inl rfl))
  (zr_aldn dJ0_indexOf_7cf53_0 rfl (zr_sc (d' := 1) dJ0_indexOf_7cf53_1 zm_J0_lat ⟨⟨zq_416, zq_78⟩, ⟨by decide, by decide, by decide +kernel⟩, by omega, by decide⟩ rfl zq_413 zq_414 zq_415 (zr_ifeq dJ0_indexOf_7cf53_4 (tgt := 23) (by decide) zr_no (zr_aldn dJ0_indexOf_7cf53_7 rfl (zr_sval dJ0_indexOf_7cf53_8 zq_1399 (zr_ildn dJ0_indexOf_7cf53_11 rfl (zr_ildn dJ0_indexOf_7cf53_12 rfl (zr_aldn dJ0_indexOf_7cf53_13 rfl (zr_sc (d' := 2) dJ0_indexOf_7cf53_14 (zm_J0_len (by omega)) ⟨⟨zq_402, zq_78⟩, ⟨by decide, by decide, by decide +kernel⟩, by omega, by decide⟩ rfl zq_498 zq_400 zq_401 (zr_callS (d' := 2) dJ0_indexOf_7cf53_17 (zm_J1_idx (by omega)) ⟨⟨zq_501, zq_79⟩, ⟨by decide, by decide, by decide +kernel⟩, by omega, by decide⟩ zq_499 zq_500 (zr_goto dJ0_indexOf_7cf53_20 (tgt := 36) (by decide) (zr_ret dJ0_indexOf_7cf53_36))))))))))))
def zf_J0_ix1 : zj_F := zj_run 2 (zi_ald 0 (zi_ild 1 (zi_push (.int 0) (zi_sc 2 zf_J0_ix2 (zi_ret (some .int))))))
theorem zm_J0_ix1 {d : Nat} (hd : 5 ≤ d) : zj_MS d yJ0_indexOf_0f7a4 cJ0_indexOf_0f7a4 2 (some .int) zf_J0_ix1 := zj_met (own := RJ0) rfl (by decide +kernel) (Or.inr (Or.inl rfl))
  (zr_aldn dJ0_indexOf_0f7a4_0 rfl (zr_ildn dJ0_indexOf_0f7a4_1 rfl (zr_iconst dJ0_indexOf_0f7a4_2 rfl (zr_sc (d' := 4) dJ0_indexOf_0f7a4_3 (zm_J0_ix2 (by omega)) ⟨⟨zq_497, zq_78⟩, ⟨by decide, by decide, by decide +kernel⟩, by omega, by decide⟩ rfl zq_494 zq_495 zq_496 (zr_ret dJ0_indexOf_0f7a4_6)))))
/-! what they do -/
section ZX
variable {k kt kf : zj_K} {E : zj_E} {st : List Value} {m : zj_M} {t : Nat}
theorem zx_sval (h : zj_isS t = true) : zi_sval k E (.ref t :: st) m = k E (.ref (t + 1000) :: st) m := by
  simp only [zi_sval]
  rw [if_pos h]
theorem zx_scod (h : zj_isS t = true) : zi_scod k E (.ref t :: st) m = k E (.int (nI 0) :: st) m := by
  simp only [zi_scod]
  rw [if_pos h]
  rfl
theorem zx_slen (h : zj_isS t = true) : zi_slen k E (.ref (t + 1000) :: st) m = k E (.int (nI (zj_len.getD (t - 1000) 0)) :: st) m := by
  obtain ⟨h1, h2⟩ := zj_isV_S h
  simp only [zi_slen]
  rw [if_pos h1, h2]
  rfl
theorem zx_sbyt {j : Nat} (h : zj_isS t = true) (hj : j < zj_len.getD (t - 1000) 0) (hj2 : j < 1000) {b : Int32} (hb : (zj_byt.getD (t - 1000) []).getD j 0 = b) : zi_sbyt k E (.int (nI j) :: .ref (t + 1000) :: st) m = k E (.int b :: st) m := by
  subst hb
  obtain ⟨h1, h2⟩ := zj_isV_S h
  simp only [zi_sbyt]
  rw [h2, nI_clamp (by omega), if_pos ⟨h1, Int32.not_lt.mpr (nI_pos' (by omega)), hj⟩]
theorem zx_schk {j n : Nat} (h : j < n) (hn : n < 1000) (hw : zj_wt st ≤ 8) : zi_schk k E (.int (nI n) :: .int (nI j) :: st) m = k E (.int (nI j) :: st) m := by
  simp only [zi_schk]
  rw [if_pos ⟨⟨Int32.not_lt.mpr (nI_pos' (by omega)), (nI_ltI (by omega) (by omega)).mpr h⟩, hw⟩]
theorem zx_sc2s {mf : zj_F} {v0 v1 : Value} (h : zj_isS t = true) : zi_sc 2 mf k E (v0 :: v1 :: .ref t :: st) m = zi_call 3 mf k E (v0 :: v1 :: .ref t :: st) m := by
  unfold zi_sc
  simp only [List.drop_succ_cons, List.drop_zero, List.head?_cons]
  rw [if_pos h]
theorem zx8_t {x y : Int32} (h : x = y) : zi_ceq kt kf E (.int y :: .int x :: st) m = kt E st m := by rw [zx_ceq, if_pos h]
theorem zx8_f {x y : Int32} (h : ¬ x = y) : zi_ceq kt kf E (.int y :: .int x :: st) m = kf E st m := by rw [zx_ceq, if_neg h]
theorem zx_retb : zi_ret (some .byte) E [.int (nI 0)] m = some ([.int (nI 0)], m) := rfl
theorem zx_retc {x : Int32} (h : x.toUInt32.toUInt16.toUInt32.toInt32 = x) : zi_ret (some .char) E [.int x] m = some ([.int x], m) := by
  unfold zi_ret
  rw [if_pos (by show (x.toUInt32.toUInt16.toUInt32.toInt32 == x) = true; rw [h]; exact beq_self_eq_true x)]
end ZX
theorem zj_str_len : ∀ i, i < 10 → zj_len.getD i 0 = (zj_byt.getD i []).length ∧ zj_len.getD i 0 ≤ 6 ∧ 0 < zj_len.getD i 0 := by decide +kernel
theorem zj_str_byt : ∀ i, i < 10 → ∀ j, j < 6 → (((zj_byt.getD i []).getD j 0 &&& 255).toUInt32 % 65536).toInt32 = (zj_byt.getD i []).getD j 0 ∧ ((zj_byt.getD i []).getD j 0).toUInt32.toUInt16.toUInt32.toInt32 = (zj_byt.getD i []).getD j 0 := by decide +kernel
theorem zj_i2b : ∀ v, v < 128 → (nI v).toInt8.toInt32 = nI v := by decide +kernel
section ZM
variable {m : zj_M} {t : Nat}
theorem zf_J0_cod_e (h : zj_isS t = true) : zf_J0_cod [.ref t] m = some ([.int (nI 0)], m) := by
  simp -implicitDefEqProofs (disch := first | omega | assumption | decide +kernel | exact Nat.le_of_ble_eq_true rfl) only [↓zx_push, ↓zx_ild0, ↓zx_ald0, ↓zx_lld0, ↓zx_ist0, ↓zx_ast0, ↓zx_inc0, ↓zx_ild1, ↓zx_ald1, ↓zx_lld1, ↓zx_ist1i, ↓zx_ist1r, ↓zx_ist1n, ↓zx_ast1i, ↓zx_ast1r, ↓zx_ast1n, ↓zx_inc1i, ↓zx_inc1r, ↓zx_inc1n, ↓zx_ild2, ↓zx_ald2, ↓zx_lld2, ↓zx_ist2i, ↓zx_ist2r, ↓zx_ist2n, ↓zx_ast2i, ↓zx_ast2r, ↓zx_ast2n, ↓zx_inc2i, ↓zx_inc2r, ↓zx_inc2n, ↓zx_ild3, ↓zx_ald3, ↓zx_lld3, ↓zx_ist3i, ↓zx_ist3r, ↓zx_ist3n, ↓zx_ast3i, ↓zx_ast3r, ↓zx_ast3n, ↓zx_inc3i, ↓zx_inc3r, ↓zx_inc3n, ↓zx_ild4, ↓zx_ald4, ↓zx_lld4, ↓zx_ist4i, ↓zx_ist4r, ↓zx_ist4n, ↓zx_ast4i, ↓zx_ast4r, ↓zx_ast4n, ↓zx_inc4i, ↓zx_inc4r, ↓zx_inc4n, ↓zx_ild5, ↓zx_ald5, ↓zx_lld5, ↓zx_ist5i, ↓zx_ist5r, ↓zx_ist5n, ↓zx_ast5i, ↓zx_ast5r, ↓zx_ast5n, ↓zx_inc5i, ↓zx_inc5r, ↓zx_inc5n, ↓zx_ild6, ↓zx_ald6, ↓zx_lld6, ↓zx_ist6i, ↓zx_ist6r, ↓zx_ist6n, ↓zx_ast6i, ↓zx_ast6r, ↓zx_ast6n, ↓zx_inc6i, ↓zx_inc6r, ↓zx_inc6n, ↓zx_ild7, ↓zx_ald7, ↓zx_lld7, ↓zx_ist7i, ↓zx_ist7r, ↓zx_ist7n, ↓zx_ast7i, ↓zx_ast7r, ↓zx_ast7n, ↓zx_inc7i, ↓zx_inc7r, ↓zx_inc7n, ↓zx_ild8, ↓zx_ald8, ↓zx_lld8, ↓zx_ist8i, ↓zx_ist8r, ↓zx_ist8n, ↓zx_ast8i, ↓zx_ast8r, ↓zx_ast8n, ↓zx_inc8i, ↓zx_inc8r, ↓zx_inc8n, ↓zx_ild9, ↓zx_ald9, ↓zx_lld9, ↓zx_ist9i, ↓zx_ist9r, ↓zx_ist9n, ↓zx_ast9i, ↓zx_ast9r, ↓zx_ast9n, ↓zx_inc9i, ↓zx_inc9r, ↓zx_inc9n, ↓zx_ild10, ↓zx_ald10, ↓zx_lld10, ↓zx_ist10i, ↓zx_ist10r, ↓zx_ist10n, ↓zx_ast10i, ↓zx_ast10r, ↓zx_ast10n, ↓zx_inc10i, ↓zx_inc10r, ↓zx_inc10n, ↓zx_b, ↓zx_u, ↓zx_i2l, ↓zx_lb, ↓zx_lu, ↓zx_lcmp, ↓zx_dupi, ↓zx_dupr, ↓zx_dup2, ↓zx_pop, zx_ceq_t, zx_ceq_f, zx_clt_t, zx_clt_f, zx_cle_t, zx_cle_f, zx_eq_t, zx_eq_f, zx_lt_t, zx_lt_f, zx_le_t, zx_le_f, zx_eq_b, zx_rem, zx_div, zx_go0, zx_go1, ↓zx_call0, ↓zx_call1, ↓zx_call2, ↓zx_call3, ↓zx_call4, ↓zx_call5, ↓zx_call6, ↓zx_call7, ↓zx_vc0, ↓zx_vn0, ↓zx_vc1, ↓zx_vn1, ↓zx_vc2, ↓zx_vn2, ↓zx_vc3, ↓zx_vn3, ↓zx_vc4, ↓zx_vn4, ↓zx_vc5, ↓zx_vn5, ↓zx_vc6, ↓zx_vn6, ↓zx_sc0, ↓zx_sc1, ↓zx_sc2, ↓zx_mmin, ↓zx_mmax, zx_ret0, zx_reti, zx_retl, zx_reta, zx_retz, zx_retz0, zx_retz1, zj_run, zj_e0, zj_E0, List.length_cons, List.length_nil, List.cons_append, List.nil_append, List.reduceReplicate, Nat.reduceLeDiff, Nat.reduceAdd, Nat.reduceSub, Nat.zero_add, Nat.zero_le, Nat.le_refl, reduceIte, ↓zf_J0_cod, ↓zx_scod, zx_retb, zl_c]
theorem zf_J0_lat_e (h : zj_isS t = true) : zf_J0_lat [.ref t] m = some ([.int (nI 1)], m) := by
  simp -implicitDefEqProofs (disch := first | omega | assumption | decide +kernel | exact Nat.le_of_ble_eq_true rfl) only [↓zx_push, ↓zx_ild0, ↓zx_ald0, ↓zx_lld0, ↓zx_ist0, ↓zx_ast0, ↓zx_inc0, ↓zx_ild1, ↓zx_ald1, ↓zx_lld1, ↓zx_ist1i, ↓zx_ist1r, ↓zx_ist1n, ↓zx_ast1i, ↓zx_ast1r, ↓zx_ast1n, ↓zx_inc1i, ↓zx_inc1r, ↓zx_inc1n, ↓zx_ild2, ↓zx_ald2, ↓zx_lld2, ↓zx_ist2i, ↓zx_ist2r, ↓zx_ist2n, ↓zx_ast2i, ↓zx_ast2r, ↓zx_ast2n, ↓zx_inc2i, ↓zx_inc2r, ↓zx_inc2n, ↓zx_ild3, ↓zx_ald3, ↓zx_lld3, ↓zx_ist3i, ↓zx_ist3r, ↓zx_ist3n, ↓zx_ast3i, ↓zx_ast3r, ↓zx_ast3n, ↓zx_inc3i, ↓zx_inc3r, ↓zx_inc3n, ↓zx_ild4, ↓zx_ald4, ↓zx_lld4, ↓zx_ist4i, ↓zx_ist4r, ↓zx_ist4n, ↓zx_ast4i, ↓zx_ast4r, ↓zx_ast4n, ↓zx_inc4i, ↓zx_inc4r, ↓zx_inc4n, ↓zx_ild5, ↓zx_ald5, ↓zx_lld5, ↓zx_ist5i, ↓zx_ist5r, ↓zx_ist5n, ↓zx_ast5i, ↓zx_ast5r, ↓zx_ast5n, ↓zx_inc5i, ↓zx_inc5r, ↓zx_inc5n, ↓zx_ild6, ↓zx_ald6, ↓zx_lld6, ↓zx_ist6i, ↓zx_ist6r, ↓zx_ist6n, ↓zx_ast6i, ↓zx_ast6r, ↓zx_ast6n, ↓zx_inc6i, ↓zx_inc6r, ↓zx_inc6n, ↓zx_ild7, ↓zx_ald7, ↓zx_lld7, ↓zx_ist7i, ↓zx_ist7r, ↓zx_ist7n, ↓zx_ast7i, ↓zx_ast7r, ↓zx_ast7n, ↓zx_inc7i, ↓zx_inc7r, ↓zx_inc7n, ↓zx_ild8, ↓zx_ald8, ↓zx_lld8, ↓zx_ist8i, ↓zx_ist8r, ↓zx_ist8n, ↓zx_ast8i, ↓zx_ast8r, ↓zx_ast8n, ↓zx_inc8i, ↓zx_inc8r, ↓zx_inc8n, ↓zx_ild9, ↓zx_ald9, ↓zx_lld9, ↓zx_ist9i, ↓zx_ist9r, ↓zx_ist9n, ↓zx_ast9i, ↓zx_ast9r, ↓zx_ast9n, ↓zx_inc9i, ↓zx_inc9r, ↓zx_inc9n, ↓zx_ild10, ↓zx_ald10, ↓zx_lld10, ↓zx_ist10i, ↓zx_ist10r, ↓zx_ist10n, ↓zx_ast10i, ↓zx_ast10r, ↓zx_ast10n, ↓zx_inc10i, ↓zx_inc10r, ↓zx_inc10n, ↓zx_b, ↓zx_u, ↓zx_i2l, ↓zx_lb, ↓zx_lu, ↓zx_lcmp, ↓zx_dupi, ↓zx_dupr, ↓zx_dup2, ↓zx_pop, zx_ceq_t, zx_ceq_f, zx_clt_t, zx_clt_f, zx_cle_t, zx_cle_f, zx_eq_t, zx_eq_f, zx_lt_t, zx_lt_f, zx_le_t, zx_le_f, zx_eq_b, zx_rem, zx_div, zx_go0, zx_go1, ↓zx_call0, ↓zx_call1, ↓zx_call2, ↓zx_call3, ↓zx_call4, ↓zx_call5, ↓zx_call6, ↓zx_call7, ↓zx_vc0, ↓zx_vn0, ↓zx_vc1, ↓zx_vn1, ↓zx_vc2, ↓zx_vn2, ↓zx_vc3, ↓zx_vn3, ↓zx_vc4, ↓zx_vn4, ↓zx_vc5, ↓zx_vn5, ↓zx_vc6, ↓zx_vn6, ↓zx_sc0, ↓zx_sc1, ↓zx_sc2, ↓zx_mmin, ↓zx_mmax, zx_ret0, zx_reti, zx_retl, zx_reta, zx_retz, zx_retz0, zx_retz1, zj_run, zj_e0, zj_E0, List.length_cons, List.length_nil, List.cons_append, List.nil_append, List.reduceReplicate, Nat.reduceLeDiff, Nat.reduceAdd, Nat.reduceSub, Nat.zero_add, Nat.zero_le, Nat.le_refl, reduceIte, ↓zf_J0_lat, ↓zx_scod, zl_c]
theorem zf_J0_len_e (h : zj_isS t = true) : zf_J0_len [.ref t] m = some ([.int (nI (zj_len.getD (t - 1000) 0))], m) := by
  have hl := (zj_str_len (t - 1000) (zj_isS_of h).1).2.1
  have e := zf_J0_cod_e (m := m) h
  simp -implicitDefEqProofs (disch := first | omega | assumption | decide +kernel | exact Nat.le_of_ble_eq_true rfl) only [↓zx_push, ↓zx_ild0, ↓zx_ald0, ↓zx_lld0, ↓zx_ist0, ↓zx_ast0, ↓zx_inc0, ↓zx_ild1, ↓zx_ald1, ↓zx_lld1, ↓zx_ist1i, ↓zx_ist1r, ↓zx_ist1n, ↓zx_ast1i, ↓zx_ast1r, ↓zx_ast1n, ↓zx_inc1i, ↓zx_inc1r, ↓zx_inc1n, ↓zx_ild2, ↓zx_ald2, ↓zx_lld2, ↓zx_ist2i, ↓zx_ist2r, ↓zx_ist2n, ↓zx_ast2i, ↓zx_ast2r, ↓zx_ast2n, ↓zx_inc2i, ↓zx_inc2r, ↓zx_inc2n, ↓zx_ild3, ↓zx_ald3, ↓zx_lld3, ↓zx_ist3i, ↓zx_ist3r, ↓zx_ist3n, ↓zx_ast3i, ↓zx_ast3r, ↓zx_ast3n, ↓zx_inc3i, ↓zx_inc3r, ↓zx_inc3n, ↓zx_ild4, ↓zx_ald4, ↓zx_lld4, ↓zx_ist4i, ↓zx_ist4r, ↓zx_ist4n, ↓zx_ast4i, ↓zx_ast4r, ↓zx_ast4n, ↓zx_inc4i, ↓zx_inc4r, ↓zx_inc4n, ↓zx_ild5, ↓zx_ald5, ↓zx_lld5, ↓zx_ist5i, ↓zx_ist5r, ↓zx_ist5n, ↓zx_ast5i, ↓zx_ast5r, ↓zx_ast5n, ↓zx_inc5i, ↓zx_inc5r, ↓zx_inc5n, ↓zx_ild6, ↓zx_ald6, ↓zx_lld6, ↓zx_ist6i, ↓zx_ist6r, ↓zx_ist6n, ↓zx_ast6i, ↓zx_ast6r, ↓zx_ast6n, ↓zx_inc6i, ↓zx_inc6r, ↓zx_inc6n, ↓zx_ild7, ↓zx_ald7, ↓zx_lld7, ↓zx_ist7i, ↓zx_ist7r, ↓zx_ist7n, ↓zx_ast7i, ↓zx_ast7r, ↓zx_ast7n, ↓zx_inc7i, ↓zx_inc7r, ↓zx_inc7n, ↓zx_ild8, ↓zx_ald8, ↓zx_lld8, ↓zx_ist8i, ↓zx_ist8r, ↓zx_ist8n, ↓zx_ast8i, ↓zx_ast8r, ↓zx_ast8n, ↓zx_inc8i, ↓zx_inc8r, ↓zx_inc8n, ↓zx_ild9, ↓zx_ald9, ↓zx_lld9, ↓zx_ist9i, ↓zx_ist9r, ↓zx_ist9n, ↓zx_ast9i, ↓zx_ast9r, ↓zx_ast9n, ↓zx_inc9i, ↓zx_inc9r, ↓zx_inc9n, ↓zx_ild10, ↓zx_ald10, ↓zx_lld10, ↓zx_ist10i, ↓zx_ist10r, ↓zx_ist10n, ↓zx_ast10i, ↓zx_ast10r, ↓zx_ast10n, ↓zx_inc10i, ↓zx_inc10r, ↓zx_inc10n, ↓zx_b, ↓zx_u, ↓zx_i2l, ↓zx_lb, ↓zx_lu, ↓zx_lcmp, ↓zx_dupi, ↓zx_dupr, ↓zx_dup2, ↓zx_pop, zx_ceq_t, zx_ceq_f, zx_clt_t, zx_clt_f, zx_cle_t, zx_cle_f, zx_eq_t, zx_eq_f, zx_lt_t, zx_lt_f, zx_le_t, zx_le_f, zx_eq_b, zx_rem, zx_div, zx_go0, zx_go1, ↓zx_call0, ↓zx_call1, ↓zx_call2, ↓zx_call3, ↓zx_call4, ↓zx_call5, ↓zx_call6, ↓zx_call7, ↓zx_vc0, ↓zx_vn0, ↓zx_vc1, ↓zx_vn1, ↓zx_vc2, ↓zx_vn2, ↓zx_vc3, ↓zx_vn3, ↓zx_vc4, ↓zx_vn4, ↓zx_vc5, ↓zx_vn5, ↓zx_vc6, ↓zx_vn6, ↓zx_sc0, ↓zx_sc1, ↓zx_sc2, ↓zx_mmin, ↓zx_mmax, zx_ret0, zx_reti, zx_retl, zx_reta, zx_retz, zx_retz0, zx_retz1, zj_run, zj_e0, zj_E0, List.length_cons, List.length_nil, List.cons_append, List.nil_append, List.reduceReplicate, Nat.reduceLeDiff, Nat.reduceAdd, Nat.reduceSub, Nat.zero_add, Nat.zero_le, Nat.le_refl, reduceIte, ↓zf_J0_len, ↓zx_sval, ↓zx_slen, zl_c, e, zl_shr, Nat.pow_zero, Nat.div_one]
theorem zm_J0_length_8abf5 : zj_MS 12 yJ0_length_8abf5 cJ0_length_8abf5 1 (some .int) zf_J0_length_8abf5 := fun l g as mem res mem' q => by
  unfold zf_J0_length_8abf5 at q
  split at q
  · next t =>
    split at q
    · next h => exact zm_J0_len (by omega) l g _ mem res mem' ((zf_J0_len_e h).trans q)
    · cases q
  · cases q
theorem zf_J0_chk_e {j n : Nat} (h : j < n) (hn : n < 1000) : zf_J0_chk [.int (nI j), .int (nI n)] m = some ([], m) := by
  simp -implicitDefEqProofs (disch := first | omega | assumption | decide +kernel | exact Nat.le_of_ble_eq_true rfl) only [↓zx_push, ↓zx_ild0, ↓zx_ald0, ↓zx_lld0, ↓zx_ist0, ↓zx_ast0, ↓zx_inc0, ↓zx_ild1, ↓zx_ald1, ↓zx_lld1, ↓zx_ist1i, ↓zx_ist1r, ↓zx_ist1n, ↓zx_ast1i, ↓zx_ast1r, ↓zx_ast1n, ↓zx_inc1i, ↓zx_inc1r, ↓zx_inc1n, ↓zx_ild2, ↓zx_ald2, ↓zx_lld2, ↓zx_ist2i, ↓zx_ist2r, ↓zx_ist2n, ↓zx_ast2i, ↓zx_ast2r, ↓zx_ast2n, ↓zx_inc2i, ↓zx_inc2r, ↓zx_inc2n, ↓zx_ild3, ↓zx_ald3, ↓zx_lld3, ↓zx_ist3i, ↓zx_ist3r, ↓zx_ist3n, ↓zx_ast3i, ↓zx_ast3r, ↓zx_ast3n, ↓zx_inc3i, ↓zx_inc3r, ↓zx_inc3n, ↓zx_ild4, ↓zx_ald4, ↓zx_lld4, ↓zx_ist4i, ↓zx_ist4r, ↓zx_ist4n, ↓zx_ast4i, ↓zx_ast4r, ↓zx_ast4n, ↓zx_inc4i, ↓zx_inc4r, ↓zx_inc4n, ↓zx_ild5, ↓zx_ald5, ↓zx_lld5, ↓zx_ist5i, ↓zx_ist5r, ↓zx_ist5n, ↓zx_ast5i, ↓zx_ast5r, ↓zx_ast5n, ↓zx_inc5i, ↓zx_inc5r, ↓zx_inc5n, ↓zx_ild6, ↓zx_ald6, ↓zx_lld6, ↓zx_ist6i, ↓zx_ist6r, ↓zx_ist6n, ↓zx_ast6i, ↓zx_ast6r, ↓zx_ast6n, ↓zx_inc6i, ↓zx_inc6r, ↓zx_inc6n, ↓zx_ild7, ↓zx_ald7, ↓zx_lld7, ↓zx_ist7i, ↓zx_ist7r, ↓zx_ist7n, ↓zx_ast7i, ↓zx_ast7r, ↓zx_ast7n, ↓zx_inc7i, ↓zx_inc7r, ↓zx_inc7n, ↓zx_ild8, ↓zx_ald8, ↓zx_lld8, ↓zx_ist8i, ↓zx_ist8r, ↓zx_ist8n, ↓zx_ast8i, ↓zx_ast8r, ↓zx_ast8n, ↓zx_inc8i, ↓zx_inc8r, ↓zx_inc8n, ↓zx_ild9, ↓zx_ald9, ↓zx_lld9, ↓zx_ist9i, ↓zx_ist9r, ↓zx_ist9n, ↓zx_ast9i, ↓zx_ast9r, ↓zx_ast9n, ↓zx_inc9i, ↓zx_inc9r, ↓zx_inc9n, ↓zx_ild10, ↓zx_ald10, ↓zx_lld10, ↓zx_ist10i, ↓zx_ist10r, ↓zx_ist10n, ↓zx_ast10i, ↓zx_ast10r, ↓zx_ast10n, ↓zx_inc10i, ↓zx_inc10r, ↓zx_inc10n, ↓zx_b, ↓zx_u, ↓zx_i2l, ↓zx_lb, ↓zx_lu, ↓zx_lcmp, ↓zx_dupi, ↓zx_dupr, ↓zx_dup2, ↓zx_pop, zx_ceq_t, zx_ceq_f, zx_clt_t, zx_clt_f, zx_cle_t, zx_cle_f, zx_eq_t, zx_eq_f, zx_lt_t, zx_lt_f, zx_le_t, zx_le_f, zx_eq_b, zx_rem, zx_div, zx_go0, zx_go1, ↓zx_call0, ↓zx_call1, ↓zx_call2, ↓zx_call3, ↓zx_call4, ↓zx_call5, ↓zx_call6, ↓zx_call7, ↓zx_vc0, ↓zx_vn0, ↓zx_vc1, ↓zx_vn1, ↓zx_vc2, ↓zx_vn2, ↓zx_vc3, ↓zx_vn3, ↓zx_vc4, ↓zx_vn4, ↓zx_vc5, ↓zx_vn5, ↓zx_vc6, ↓zx_vn6, ↓zx_sc0, ↓zx_sc1, ↓zx_sc2, ↓zx_mmin, ↓zx_mmax, zx_ret0, zx_reti, zx_retl, zx_reta, zx_retz, zx_retz0, zx_retz1, zj_run, zj_e0, zj_E0, List.length_cons, List.length_nil, List.cons_append, List.nil_append, List.reduceReplicate, Nat.reduceLeDiff, Nat.reduceAdd, Nat.reduceSub, Nat.zero_add, Nat.zero_le, Nat.le_refl, reduceIte, ↓zf_J0_chk, ↓zx_schk, zx_pop]
theorem zf_J1_chr_e {j : Nat} (h : zj_isS t = true) (hj : j < zj_len.getD (t - 1000) 0) : zf_J1_chr [.ref (t + 1000), .int (nI j)] m = some ([.int ((zj_byt.getD (t - 1000) []).getD j 0)], m) := by
  have hl := (zj_str_len (t - 1000) (zj_isS_of h).1).2.1
  have e := zf_J0_chk_e (m := m) hj (by omega)
  obtain ⟨b1, b2⟩ := zj_str_byt (t - 1000) (zj_isS_of h).1 j (by omega)
  obtain ⟨b, hb⟩ : ∃ b, (zj_byt.getD (t - 1000) []).getD j 0 = b := ⟨_, rfl⟩
  rw [hb] at b1 b2 ⊢
  simp -implicitDefEqProofs (disch := first | omega | assumption | decide +kernel | exact Nat.le_of_ble_eq_true rfl) only [↓zx_push, ↓zx_ild0, ↓zx_ald0, ↓zx_lld0, ↓zx_ist0, ↓zx_ast0, ↓zx_inc0, ↓zx_ild1, ↓zx_ald1, ↓zx_lld1, ↓zx_ist1i, ↓zx_ist1r, ↓zx_ist1n, ↓zx_ast1i, ↓zx_ast1r, ↓zx_ast1n, ↓zx_inc1i, ↓zx_inc1r, ↓zx_inc1n, ↓zx_ild2, ↓zx_ald2, ↓zx_lld2, ↓zx_ist2i, ↓zx_ist2r, ↓zx_ist2n, ↓zx_ast2i, ↓zx_ast2r, ↓zx_ast2n, ↓zx_inc2i, ↓zx_inc2r, ↓zx_inc2n, ↓zx_ild3, ↓zx_ald3, ↓zx_lld3, ↓zx_ist3i, ↓zx_ist3r, ↓zx_ist3n, ↓zx_ast3i, ↓zx_ast3r, ↓zx_ast3n, ↓zx_inc3i, ↓zx_inc3r, ↓zx_inc3n, ↓zx_ild4, ↓zx_ald4, ↓zx_lld4, ↓zx_ist4i, ↓zx_ist4r, ↓zx_ist4n, ↓zx_ast4i, ↓zx_ast4r, ↓zx_ast4n, ↓zx_inc4i, ↓zx_inc4r, ↓zx_inc4n, ↓zx_ild5, ↓zx_ald5, ↓zx_lld5, ↓zx_ist5i, ↓zx_ist5r, ↓zx_ist5n, ↓zx_ast5i, ↓zx_ast5r, ↓zx_ast5n, ↓zx_inc5i, ↓zx_inc5r, ↓zx_inc5n, ↓zx_ild6, ↓zx_ald6, ↓zx_lld6, ↓zx_ist6i, ↓zx_ist6r, ↓zx_ist6n, ↓zx_ast6i, ↓zx_ast6r, ↓zx_ast6n, ↓zx_inc6i, ↓zx_inc6r, ↓zx_inc6n, ↓zx_ild7, ↓zx_ald7, ↓zx_lld7, ↓zx_ist7i, ↓zx_ist7r, ↓zx_ist7n, ↓zx_ast7i, ↓zx_ast7r, ↓zx_ast7n, ↓zx_inc7i, ↓zx_inc7r, ↓zx_inc7n, ↓zx_ild8, ↓zx_ald8, ↓zx_lld8, ↓zx_ist8i, ↓zx_ist8r, ↓zx_ist8n, ↓zx_ast8i, ↓zx_ast8r, ↓zx_ast8n, ↓zx_inc8i, ↓zx_inc8r, ↓zx_inc8n, ↓zx_ild9, ↓zx_ald9, ↓zx_lld9, ↓zx_ist9i, ↓zx_ist9r, ↓zx_ist9n, ↓zx_ast9i, ↓zx_ast9r, ↓zx_ast9n, ↓zx_inc9i, ↓zx_inc9r, ↓zx_inc9n, ↓zx_ild10, ↓zx_ald10, ↓zx_lld10, ↓zx_ist10i, ↓zx_ist10r, ↓zx_ist10n, ↓zx_ast10i, ↓zx_ast10r, ↓zx_ast10n, ↓zx_inc10i, ↓zx_inc10r, ↓zx_inc10n, ↓zx_b, ↓zx_u, ↓zx_i2l, ↓zx_lb, ↓zx_lu, ↓zx_lcmp, ↓zx_dupi, ↓zx_dupr, ↓zx_dup2, ↓zx_pop, zx_ceq_t, zx_ceq_f, zx_clt_t, zx_clt_f, zx_cle_t, zx_cle_f, zx_eq_t, zx_eq_f, zx_lt_t, zx_lt_f, zx_le_t, zx_le_f, zx_eq_b, zx_rem, zx_div, zx_go0, zx_go1, ↓zx_call0, ↓zx_call1, ↓zx_call2, ↓zx_call3, ↓zx_call4, ↓zx_call5, ↓zx_call6, ↓zx_call7, ↓zx_vc0, ↓zx_vn0, ↓zx_vc1, ↓zx_vn1, ↓zx_vc2, ↓zx_vn2, ↓zx_vc3, ↓zx_vn3, ↓zx_vc4, ↓zx_vn4, ↓zx_vc5, ↓zx_vn5, ↓zx_vc6, ↓zx_vn6, ↓zx_sc0, ↓zx_sc1, ↓zx_sc2, ↓zx_mmin, ↓zx_mmax, zx_ret0, zx_reti, zx_retl, zx_reta, zx_retz, zx_retz0, zx_retz1, zj_run, zj_e0, zj_E0, List.length_cons, List.length_nil, List.cons_append, List.nil_append, List.reduceReplicate, Nat.reduceLeDiff, Nat.reduceAdd, Nat.reduceSub, Nat.zero_add, Nat.zero_le, Nat.le_refl, reduceIte, ↓zf_J1_chr, ↓zx_slen, ↓zx_sbyt, e, b1, zx_retc]
theorem zm_J0_charAt_5068e : zj_MS 12 yJ0_charAt_5068e cJ0_charAt_5068e 2 (some .char) zf_J0_charAt_5068e := fun l g as mem res mem' q => by
  unfold zf_J0_charAt_5068e at q
  split at q
  · next t i =>
    split at q
    · next h =>
      obtain ⟨h1, h2, h3⟩ := h
      obtain ⟨j, hj, rfl⟩ := nI_of h2
      rw [nI_clamp hj] at h3 q
      have e1 := zf_J0_lat_e (m := mem) h1
      have e2 := zf_J1_chr_e (m := mem) h1 h3
      have hl := (zj_str_len (t - 1000) (zj_isS_of h1).1).2.1
      obtain ⟨b1, b2⟩ := zj_str_byt (t - 1000) (zj_isS_of h1).1 j (by omega)
      refine zm_J0_chr (by omega) l g _ mem res mem' (Eq.trans ?_ q)
      generalize (zj_byt.getD (t - 1000) []).getD j 0 = b at e2 b1 b2 ⊢
      simp -implicitDefEqProofs (disch := first | omega | assumption | decide +kernel | exact Nat.le_of_ble_eq_true rfl) only [↓zx_push, ↓zx_ild0, ↓zx_ald0, ↓zx_lld0, ↓zx_ist0, ↓zx_ast0, ↓zx_inc0, ↓zx_ild1, ↓zx_ald1, ↓zx_lld1, ↓zx_ist1i, ↓zx_ist1r, ↓zx_ist1n, ↓zx_ast1i, ↓zx_ast1r, ↓zx_ast1n, ↓zx_inc1i, ↓zx_inc1r, ↓zx_inc1n, ↓zx_ild2, ↓zx_ald2, ↓zx_lld2, ↓zx_ist2i, ↓zx_ist2r, ↓zx_ist2n, ↓zx_ast2i, ↓zx_ast2r, ↓zx_ast2n, ↓zx_inc2i, ↓zx_inc2r, ↓zx_inc2n, ↓zx_ild3, ↓zx_ald3, ↓zx_lld3, ↓zx_ist3i, ↓zx_ist3r, ↓zx_ist3n, ↓zx_ast3i, ↓zx_ast3r, ↓zx_ast3n, ↓zx_inc3i, ↓zx_inc3r, ↓zx_inc3n, ↓zx_ild4, ↓zx_ald4, ↓zx_lld4, ↓zx_ist4i, ↓zx_ist4r, ↓zx_ist4n, ↓zx_ast4i, ↓zx_ast4r, ↓zx_ast4n, ↓zx_inc4i, ↓zx_inc4r, ↓zx_inc4n, ↓zx_ild5, ↓zx_ald5, ↓zx_lld5, ↓zx_ist5i, ↓zx_ist5r, ↓zx_ist5n, ↓zx_ast5i, ↓zx_ast5r, ↓zx_ast5n, ↓zx_inc5i, ↓zx_inc5r, ↓zx_inc5n, ↓zx_ild6, ↓zx_ald6, ↓zx_lld6, ↓zx_ist6i, ↓zx_ist6r, ↓zx_ist6n, ↓zx_ast6i, ↓zx_ast6r, ↓zx_ast6n, ↓zx_inc6i, ↓zx_inc6r, ↓zx_inc6n, ↓zx_ild7, ↓zx_ald7, ↓zx_lld7, ↓zx_ist7i, ↓zx_ist7r, ↓zx_ist7n, ↓zx_ast7i, ↓zx_ast7r, ↓zx_ast7n, ↓zx_inc7i, ↓zx_inc7r, ↓zx_inc7n, ↓zx_ild8, ↓zx_ald8, ↓zx_lld8, ↓zx_ist8i, ↓zx_ist8r, ↓zx_ist8n, ↓zx_ast8i, ↓zx_ast8r, ↓zx_ast8n, ↓zx_inc8i, ↓zx_inc8r, ↓zx_inc8n, ↓zx_ild9, ↓zx_ald9, ↓zx_lld9, ↓zx_ist9i, ↓zx_ist9r, ↓zx_ist9n, ↓zx_ast9i, ↓zx_ast9r, ↓zx_ast9n, ↓zx_inc9i, ↓zx_inc9r, ↓zx_inc9n, ↓zx_ild10, ↓zx_ald10, ↓zx_lld10, ↓zx_ist10i, ↓zx_ist10r, ↓zx_ist10n, ↓zx_ast10i, ↓zx_ast10r, ↓zx_ast10n, ↓zx_inc10i, ↓zx_inc10r, ↓zx_inc10n, ↓zx_b, ↓zx_u, ↓zx_i2l, ↓zx_lb, ↓zx_lu, ↓zx_lcmp, ↓zx_dupi, ↓zx_dupr, ↓zx_dup2, ↓zx_pop, zx_ceq_t, zx_ceq_f, zx_clt_t, zx_clt_f, zx_cle_t, zx_cle_f, zx_eq_t, zx_eq_f, zx_lt_t, zx_lt_f, zx_le_t, zx_le_f, zx_eq_b, zx_rem, zx_div, zx_go0, zx_go1, ↓zx_call0, ↓zx_call1, ↓zx_call2, ↓zx_call3, ↓zx_call4, ↓zx_call5, ↓zx_call6, ↓zx_call7, ↓zx_vc0, ↓zx_vn0, ↓zx_vc1, ↓zx_vn1, ↓zx_vc2, ↓zx_vn2, ↓zx_vc3, ↓zx_vn3, ↓zx_vc4, ↓zx_vn4, ↓zx_vc5, ↓zx_vn5, ↓zx_vc6, ↓zx_vn6, ↓zx_sc0, ↓zx_sc1, ↓zx_sc2, ↓zx_mmin, ↓zx_mmax, zx_ret0, zx_reti, zx_retl, zx_reta, zx_retz, zx_retz0, zx_retz1, zj_run, zj_e0, zj_E0, List.length_cons, List.length_nil, List.cons_append, List.nil_append, List.reduceReplicate, Nat.reduceLeDiff, Nat.reduceAdd, Nat.reduceSub, Nat.zero_add, Nat.zero_le, Nat.le_refl, reduceIte, ↓zf_J0_chr, ↓zx_sval, zl_c, e1, e2, zx_retc]
    · cases q
  · cases q
theorem zf_J1_can_e {v : Nat} (h : v < 128) : zf_J1_can [.int (nI v)] m = some ([.int (nI 1)], m) := by
  have e255 : (255 : Int32) = nI 255 := rfl
  simp -implicitDefEqProofs (disch := first | omega | assumption | decide +kernel | exact Nat.le_of_ble_eq_true rfl) only [↓zx_push, ↓zx_ild0, ↓zx_ald0, ↓zx_lld0, ↓zx_ist0, ↓zx_ast0, ↓zx_inc0, ↓zx_ild1, ↓zx_ald1, ↓zx_lld1, ↓zx_ist1i, ↓zx_ist1r, ↓zx_ist1n, ↓zx_ast1i, ↓zx_ast1r, ↓zx_ast1n, ↓zx_inc1i, ↓zx_inc1r, ↓zx_inc1n, ↓zx_ild2, ↓zx_ald2, ↓zx_lld2, ↓zx_ist2i, ↓zx_ist2r, ↓zx_ist2n, ↓zx_ast2i, ↓zx_ast2r, ↓zx_ast2n, ↓zx_inc2i, ↓zx_inc2r, ↓zx_inc2n, ↓zx_ild3, ↓zx_ald3, ↓zx_lld3, ↓zx_ist3i, ↓zx_ist3r, ↓zx_ist3n, ↓zx_ast3i, ↓zx_ast3r, ↓zx_ast3n, ↓zx_inc3i, ↓zx_inc3r, ↓zx_inc3n, ↓zx_ild4, ↓zx_ald4, ↓zx_lld4, ↓zx_ist4i, ↓zx_ist4r, ↓zx_ist4n, ↓zx_ast4i, ↓zx_ast4r, ↓zx_ast4n, ↓zx_inc4i, ↓zx_inc4r, ↓zx_inc4n, ↓zx_ild5, ↓zx_ald5, ↓zx_lld5, ↓zx_ist5i, ↓zx_ist5r, ↓zx_ist5n, ↓zx_ast5i, ↓zx_ast5r, ↓zx_ast5n, ↓zx_inc5i, ↓zx_inc5r, ↓zx_inc5n, ↓zx_ild6, ↓zx_ald6, ↓zx_lld6, ↓zx_ist6i, ↓zx_ist6r, ↓zx_ist6n, ↓zx_ast6i, ↓zx_ast6r, ↓zx_ast6n, ↓zx_inc6i, ↓zx_inc6r, ↓zx_inc6n, ↓zx_ild7, ↓zx_ald7, ↓zx_lld7, ↓zx_ist7i, ↓zx_ist7r, ↓zx_ist7n, ↓zx_ast7i, ↓zx_ast7r, ↓zx_ast7n, ↓zx_inc7i, ↓zx_inc7r, ↓zx_inc7n, ↓zx_ild8, ↓zx_ald8, ↓zx_lld8, ↓zx_ist8i, ↓zx_ist8r, ↓zx_ist8n, ↓zx_ast8i, ↓zx_ast8r, ↓zx_ast8n, ↓zx_inc8i, ↓zx_inc8r, ↓zx_inc8n, ↓zx_ild9, ↓zx_ald9, ↓zx_lld9, ↓zx_ist9i, ↓zx_ist9r, ↓zx_ist9n, ↓zx_ast9i, ↓zx_ast9r, ↓zx_ast9n, ↓zx_inc9i, ↓zx_inc9r, ↓zx_inc9n, ↓zx_ild10, ↓zx_ald10, ↓zx_lld10, ↓zx_ist10i, ↓zx_ist10r, ↓zx_ist10n, ↓zx_ast10i, ↓zx_ast10r, ↓zx_ast10n, ↓zx_inc10i, ↓zx_inc10r, ↓zx_inc10n, ↓zx_b, ↓zx_u, ↓zx_i2l, ↓zx_lb, ↓zx_lu, ↓zx_lcmp, ↓zx_dupi, ↓zx_dupr, ↓zx_dup2, ↓zx_pop, zx_ceq_t, zx_ceq_f, zx_clt_t, zx_clt_f, zx_cle_t, zx_cle_f, zx_eq_t, zx_eq_f, zx_lt_t, zx_lt_f, zx_le_t, zx_le_f, zx_eq_b, zx_rem, zx_div, zx_go0, zx_go1, ↓zx_call0, ↓zx_call1, ↓zx_call2, ↓zx_call3, ↓zx_call4, ↓zx_call5, ↓zx_call6, ↓zx_call7, ↓zx_vc0, ↓zx_vn0, ↓zx_vc1, ↓zx_vn1, ↓zx_vc2, ↓zx_vn2, ↓zx_vc3, ↓zx_vn3, ↓zx_vc4, ↓zx_vn4, ↓zx_vc5, ↓zx_vn5, ↓zx_vc6, ↓zx_vn6, ↓zx_sc0, ↓zx_sc1, ↓zx_sc2, ↓zx_mmin, ↓zx_mmax, zx_ret0, zx_reti, zx_retl, zx_reta, zx_retz, zx_retz0, zx_retz1, zj_run, zj_e0, zj_E0, List.length_cons, List.length_nil, List.cons_append, List.nil_append, List.reduceReplicate, Nat.reduceLeDiff, Nat.reduceAdd, Nat.reduceSub, Nat.zero_add, Nat.zero_le, Nat.le_refl, reduceIte, ↓zf_J1_can, zl_c, e255]
theorem zf_J1_ixc_lp {v : Nat} (h : zj_isS t = true) : ∀ (l : List Int32) (k fuel : Nat), (zj_byt.getD (t - 1000) []).drop k = l → k + l.length = zj_len.getD (t - 1000) 0 → l.length < fuel → zj_lp zb_J1_ixc fuel [some (.ref (t + 1000)), some (.int (nI v)), some (.int (nI 0)), some (.int (nI (zj_len.getD (t - 1000) 0))), some (.int (nI v)), some (.int (nI k))] [] m = some ([.int (zj_ix (nI v) l k)], m) := by
  have hl := (zj_str_len (t - 1000) (zj_isS_of h).1).2.1
  intro l
  induction l with
  | nil =>
    intro k fuel hd hk hf
    obtain ⟨f, rfl⟩ : ∃ f, fuel = f + 1 := ⟨fuel - 1, by omega⟩
    simp only [List.length_nil, Nat.add_zero] at hk
    rw [zj_lp_s, zj_ix]
    simp -implicitDefEqProofs (disch := first | omega | assumption | decide +kernel | exact Nat.le_of_ble_eq_true rfl) only [↓zx_push, ↓zx_ild0, ↓zx_ald0, ↓zx_lld0, ↓zx_ist0, ↓zx_ast0, ↓zx_inc0, ↓zx_ild1, ↓zx_ald1, ↓zx_lld1, ↓zx_ist1i, ↓zx_ist1r, ↓zx_ist1n, ↓zx_ast1i, ↓zx_ast1r, ↓zx_ast1n, ↓zx_inc1i, ↓zx_inc1r, ↓zx_inc1n, ↓zx_ild2, ↓zx_ald2, ↓zx_lld2, ↓zx_ist2i, ↓zx_ist2r, ↓zx_ist2n, ↓zx_ast2i, ↓zx_ast2r, ↓zx_ast2n, ↓zx_inc2i, ↓zx_inc2r, ↓zx_inc2n, ↓zx_ild3, ↓zx_ald3, ↓zx_lld3, ↓zx_ist3i, ↓zx_ist3r, ↓zx_ist3n, ↓zx_ast3i, ↓zx_ast3r, ↓zx_ast3n, ↓zx_inc3i, ↓zx_inc3r, ↓zx_inc3n, ↓zx_ild4, ↓zx_ald4, ↓zx_lld4, ↓zx_ist4i, ↓zx_ist4r, ↓zx_ist4n, ↓zx_ast4i, ↓zx_ast4r, ↓zx_ast4n, ↓zx_inc4i, ↓zx_inc4r, ↓zx_inc4n, ↓zx_ild5, ↓zx_ald5, ↓zx_lld5, ↓zx_ist5i, ↓zx_ist5r, ↓zx_ist5n, ↓zx_ast5i, ↓zx_ast5r, ↓zx_ast5n, ↓zx_inc5i, ↓zx_inc5r, ↓zx_inc5n, ↓zx_ild6, ↓zx_ald6, ↓zx_lld6, ↓zx_ist6i, ↓zx_ist6r, ↓zx_ist6n, ↓zx_ast6i, ↓zx_ast6r, ↓zx_ast6n, ↓zx_inc6i, ↓zx_inc6r, ↓zx_inc6n, ↓zx_ild7, ↓zx_ald7, ↓zx_lld7, ↓zx_ist7i, ↓zx_ist7r, ↓zx_ist7n, ↓zx_ast7i, ↓zx_ast7r, ↓zx_ast7n, ↓zx_inc7i, ↓zx_inc7r, ↓zx_inc7n, ↓zx_ild8, ↓zx_ald8, ↓zx_lld8, ↓zx_ist8i, ↓zx_ist8r, ↓zx_ist8n, ↓zx_ast8i, ↓zx_ast8r, ↓zx_ast8n, ↓zx_inc8i, ↓zx_inc8r, ↓zx_inc8n, ↓zx_ild9, ↓zx_ald9, ↓zx_lld9, ↓zx_ist9i, ↓zx_ist9r, ↓zx_ist9n, ↓zx_ast9i, ↓zx_ast9r, ↓zx_ast9n, ↓zx_inc9i, ↓zx_inc9r, ↓zx_inc9n, ↓zx_ild10, ↓zx_ald10, ↓zx_lld10, ↓zx_ist10i, ↓zx_ist10r, ↓zx_ist10n, ↓zx_ast10i, ↓zx_ast10r, ↓zx_ast10n, ↓zx_inc10i, ↓zx_inc10r, ↓zx_inc10n, ↓zx_b, ↓zx_u, ↓zx_i2l, ↓zx_lb, ↓zx_lu, ↓zx_lcmp, ↓zx_dupi, ↓zx_dupr, ↓zx_dup2, ↓zx_pop, zx_ceq_t, zx_ceq_f, zx_clt_t, zx_clt_f, zx_cle_t, zx_cle_f, zx_eq_t, zx_eq_f, zx_lt_t, zx_lt_f, zx_le_t, zx_le_f, zx_eq_b, zx_rem, zx_div, zx_go0, zx_go1, ↓zx_call0, ↓zx_call1, ↓zx_call2, ↓zx_call3, ↓zx_call4, ↓zx_call5, ↓zx_call6, ↓zx_call7, ↓zx_vc0, ↓zx_vn0, ↓zx_vc1, ↓zx_vn1, ↓zx_vc2, ↓zx_vn2, ↓zx_vc3, ↓zx_vn3, ↓zx_vc4, ↓zx_vn4, ↓zx_vc5, ↓zx_vn5, ↓zx_vc6, ↓zx_vn6, ↓zx_sc0, ↓zx_sc1, ↓zx_sc2, ↓zx_mmin, ↓zx_mmax, zx_ret0, zx_reti, zx_retl, zx_reta, zx_retz, zx_retz0, zx_retz1, zj_run, zj_e0, zj_E0, List.length_cons, List.length_nil, List.cons_append, List.nil_append, List.reduceReplicate, Nat.reduceLeDiff, Nat.reduceAdd, Nat.reduceSub, Nat.zero_add, Nat.zero_le, Nat.le_refl, reduceIte, ↓zb_J1_ixc, zl_c]
  | cons b l ih =>
    intro k fuel hd hk hf
    obtain ⟨f, rfl⟩ : ∃ f, fuel = f + 1 := ⟨fuel - 1, by omega⟩
    simp only [List.length_cons] at hk hf
    have hk2 : k < zj_len.getD (t - 1000) 0 := by omega
    have hb : (zj_byt.getD (t - 1000) []).getD k 0 = b := by
      have h0 : ((zj_byt.getD (t - 1000) []).drop k)[0]? = some b := by rw [hd]; rfl
      rw [List.getElem?_drop, Nat.add_zero] at h0
      rw [List.getD_eq_getElem?_getD, h0]
      rfl
    have hd2 : (zj_byt.getD (t - 1000) []).drop (k + 1) = l := by
      have := congrArg (List.drop 1) hd
      rw [List.drop_drop] at this
      exact this
    have hJ := ih (k + 1) f hd2 (by omega) (by omega)
    rw [zj_lp_s, zj_ix]
    by_cases hc : b = nI v
    · rw [if_pos hc]
      simp -implicitDefEqProofs (disch := first | omega | assumption | decide +kernel | exact Nat.le_of_ble_eq_true rfl) only [↓zx_push, ↓zx_ild0, ↓zx_ald0, ↓zx_lld0, ↓zx_ist0, ↓zx_ast0, ↓zx_inc0, ↓zx_ild1, ↓zx_ald1, ↓zx_lld1, ↓zx_ist1i, ↓zx_ist1r, ↓zx_ist1n, ↓zx_ast1i, ↓zx_ast1r, ↓zx_ast1n, ↓zx_inc1i, ↓zx_inc1r, ↓zx_inc1n, ↓zx_ild2, ↓zx_ald2, ↓zx_lld2, ↓zx_ist2i, ↓zx_ist2r, ↓zx_ist2n, ↓zx_ast2i, ↓zx_ast2r, ↓zx_ast2n, ↓zx_inc2i, ↓zx_inc2r, ↓zx_inc2n, ↓zx_ild3, ↓zx_ald3, ↓zx_lld3, ↓zx_ist3i, ↓zx_ist3r, ↓zx_ist3n, ↓zx_ast3i, ↓zx_ast3r, ↓zx_ast3n, ↓zx_inc3i, ↓zx_inc3r, ↓zx_inc3n, ↓zx_ild4, ↓zx_ald4, ↓zx_lld4, ↓zx_ist4i, ↓zx_ist4r, ↓zx_ist4n, ↓zx_ast4i, ↓zx_ast4r, ↓zx_ast4n, ↓zx_inc4i, ↓zx_inc4r, ↓zx_inc4n, ↓zx_ild5, ↓zx_ald5, ↓zx_lld5, ↓zx_ist5i, ↓zx_ist5r, ↓zx_ist5n, ↓zx_ast5i, ↓zx_ast5r, ↓zx_ast5n, ↓zx_inc5i, ↓zx_inc5r, ↓zx_inc5n, ↓zx_ild6, ↓zx_ald6, ↓zx_lld6, ↓zx_ist6i, ↓zx_ist6r, ↓zx_ist6n, ↓zx_ast6i, ↓zx_ast6r, ↓zx_ast6n, ↓zx_inc6i, ↓zx_inc6r, ↓zx_inc6n, ↓zx_ild7, ↓zx_ald7, ↓zx_lld7, ↓zx_ist7i, ↓zx_ist7r, ↓zx_ist7n, ↓zx_ast7i, ↓zx_ast7r, ↓zx_ast7n, ↓zx_inc7i, ↓zx_inc7r, ↓zx_inc7n, ↓zx_ild8, ↓zx_ald8, ↓zx_lld8, ↓zx_ist8i, ↓zx_ist8r, ↓zx_ist8n, ↓zx_ast8i, ↓zx_ast8r, ↓zx_ast8n, ↓zx_inc8i, ↓zx_inc8r, ↓zx_inc8n, ↓zx_ild9, ↓zx_ald9, ↓zx_lld9, ↓zx_ist9i, ↓zx_ist9r, ↓zx_ist9n, ↓zx_ast9i, ↓zx_ast9r, ↓zx_ast9n, ↓zx_inc9i, ↓zx_inc9r, ↓zx_inc9n, ↓zx_ild10, ↓zx_ald10, ↓zx_lld10, ↓zx_ist10i, ↓zx_ist10r, ↓zx_ist10n, ↓zx_ast10i, ↓zx_ast10r, ↓zx_ast10n, ↓zx_inc10i, ↓zx_inc10r, ↓zx_inc10n, ↓zx_b, ↓zx_u, ↓zx_i2l, ↓zx_lb, ↓zx_lu, ↓zx_lcmp, ↓zx_dupi, ↓zx_dupr, ↓zx_dup2, ↓zx_pop, zx_ceq_t, zx_ceq_f, zx_clt_t, zx_clt_f, zx_cle_t, zx_cle_f, zx_eq_t, zx_eq_f, zx_lt_t, zx_lt_f, zx_le_t, zx_le_f, zx_eq_b, zx_rem, zx_div, zx_go0, zx_go1, ↓zx_call0, ↓zx_call1, ↓zx_call2, ↓zx_call3, ↓zx_call4, ↓zx_call5, ↓zx_call6, ↓zx_call7, ↓zx_vc0, ↓zx_vn0, ↓zx_vc1, ↓zx_vn1, ↓zx_vc2, ↓zx_vn2, ↓zx_vc3, ↓zx_vn3, ↓zx_vc4, ↓zx_vn4, ↓zx_vc5, ↓zx_vn5, ↓zx_vc6, ↓zx_vn6, ↓zx_sc0, ↓zx_sc1, ↓zx_sc2, ↓zx_mmin, ↓zx_mmax, zx_ret0, zx_reti, zx_retl, zx_reta, zx_retz, zx_retz0, zx_retz1, zj_run, zj_e0, zj_E0, List.length_cons, List.length_nil, List.cons_append, List.nil_append, List.reduceReplicate, Nat.reduceLeDiff, Nat.reduceAdd, Nat.reduceSub, Nat.zero_add, Nat.zero_le, Nat.le_refl, reduceIte, ↓zb_J1_ixc, ↓zx_sbyt, hb, zx8_t, zl_c]
    · rw [if_neg hc, ← hJ]
      simp -implicitDefEqProofs (disch := first | omega | assumption | decide +kernel | exact Nat.le_of_ble_eq_true rfl) only [↓zx_push, ↓zx_ild0, ↓zx_ald0, ↓zx_lld0, ↓zx_ist0, ↓zx_ast0, ↓zx_inc0, ↓zx_ild1, ↓zx_ald1, ↓zx_lld1, ↓zx_ist1i, ↓zx_ist1r, ↓zx_ist1n, ↓zx_ast1i, ↓zx_ast1r, ↓zx_ast1n, ↓zx_inc1i, ↓zx_inc1r, ↓zx_inc1n, ↓zx_ild2, ↓zx_ald2, ↓zx_lld2, ↓zx_ist2i, ↓zx_ist2r, ↓zx_ist2n, ↓zx_ast2i, ↓zx_ast2r, ↓zx_ast2n, ↓zx_inc2i, ↓zx_inc2r, ↓zx_inc2n, ↓zx_ild3, ↓zx_ald3, ↓zx_lld3, ↓zx_ist3i, ↓zx_ist3r, ↓zx_ist3n, ↓zx_ast3i, ↓zx_ast3r, ↓zx_ast3n, ↓zx_inc3i, ↓zx_inc3r, ↓zx_inc3n, ↓zx_ild4, ↓zx_ald4, ↓zx_lld4, ↓zx_ist4i, ↓zx_ist4r, ↓zx_ist4n, ↓zx_ast4i, ↓zx_ast4r, ↓zx_ast4n, ↓zx_inc4i, ↓zx_inc4r, ↓zx_inc4n, ↓zx_ild5, ↓zx_ald5, ↓zx_lld5, ↓zx_ist5i, ↓zx_ist5r, ↓zx_ist5n, ↓zx_ast5i, ↓zx_ast5r, ↓zx_ast5n, ↓zx_inc5i, ↓zx_inc5r, ↓zx_inc5n, ↓zx_ild6, ↓zx_ald6, ↓zx_lld6, ↓zx_ist6i, ↓zx_ist6r, ↓zx_ist6n, ↓zx_ast6i, ↓zx_ast6r, ↓zx_ast6n, ↓zx_inc6i, ↓zx_inc6r, ↓zx_inc6n, ↓zx_ild7, ↓zx_ald7, ↓zx_lld7, ↓zx_ist7i, ↓zx_ist7r, ↓zx_ist7n, ↓zx_ast7i, ↓zx_ast7r, ↓zx_ast7n, ↓zx_inc7i, ↓zx_inc7r, ↓zx_inc7n, ↓zx_ild8, ↓zx_ald8, ↓zx_lld8, ↓zx_ist8i, ↓zx_ist8r, ↓zx_ist8n, ↓zx_ast8i, ↓zx_ast8r, ↓zx_ast8n, ↓zx_inc8i, ↓zx_inc8r, ↓zx_inc8n, ↓zx_ild9, ↓zx_ald9, ↓zx_lld9, ↓zx_ist9i, ↓zx_ist9r, ↓zx_ist9n, ↓zx_ast9i, ↓zx_ast9r, ↓zx_ast9n, ↓zx_inc9i, ↓zx_inc9r, ↓zx_inc9n, ↓zx_ild10, ↓zx_ald10, ↓zx_lld10, ↓zx_ist10i, ↓zx_ist10r, ↓zx_ist10n, ↓zx_ast10i, ↓zx_ast10r, ↓zx_ast10n, ↓zx_inc10i, ↓zx_inc10r, ↓zx_inc10n, ↓zx_b, ↓zx_u, ↓zx_i2l, ↓zx_lb, ↓zx_lu, ↓zx_lcmp, ↓zx_dupi, ↓zx_dupr, ↓zx_dup2, ↓zx_pop, zx_ceq_t, zx_ceq_f, zx_clt_t, zx_clt_f, zx_cle_t, zx_cle_f, zx_eq_t, zx_eq_f, zx_lt_t, zx_lt_f, zx_le_t, zx_le_f, zx_eq_b, zx_rem, zx_div, zx_go0, zx_go1, ↓zx_call0, ↓zx_call1, ↓zx_call2, ↓zx_call3, ↓zx_call4, ↓zx_call5, ↓zx_call6, ↓zx_call7, ↓zx_vc0, ↓zx_vn0, ↓zx_vc1, ↓zx_vn1, ↓zx_vc2, ↓zx_vn2, ↓zx_vc3, ↓zx_vn3, ↓zx_vc4, ↓zx_vn4, ↓zx_vc5, ↓zx_vn5, ↓zx_vc6, ↓zx_vn6, ↓zx_sc0, ↓zx_sc1, ↓zx_sc2, ↓zx_mmin, ↓zx_mmax, zx_ret0, zx_reti, zx_retl, zx_reta, zx_retz, zx_retz0, zx_retz1, zj_run, zj_e0, zj_E0, List.length_cons, List.length_nil, List.cons_append, List.nil_append, List.reduceReplicate, Nat.reduceLeDiff, Nat.reduceAdd, Nat.reduceSub, Nat.zero_add, Nat.zero_le, Nat.le_refl, reduceIte, ↓zb_J1_ixc, ↓zx_sbyt, hb, zx8_f, zl_c, nI_add]
theorem zf_J1_ixc_e {v : Nat} (h : zj_isS t = true) (hv : v < 128) : zf_J1_ixc [.ref (t + 1000), .int (nI v), .int (nI 0), .int (nI (zj_len.getD (t - 1000) 0))] m = some ([.int (zj_ix (nI v) (zj_byt.getD (t - 1000) []) 0)], m) := by
  have hl := zj_str_len (t - 1000) (zj_isS_of h).1
  have e := zj_i2b v hv
  rw [← zf_J1_ixc_lp (m := m) (v := v) h (zj_byt.getD (t - 1000) []) 0 100 List.drop_zero (by rw [Nat.zero_add]; exact hl.1.symm) (by omega)]
  simp -implicitDefEqProofs (disch := first | omega | assumption | decide +kernel | exact Nat.le_of_ble_eq_true rfl) only [↓zx_push, ↓zx_ild0, ↓zx_ald0, ↓zx_lld0, ↓zx_ist0, ↓zx_ast0, ↓zx_inc0, ↓zx_ild1, ↓zx_ald1, ↓zx_lld1, ↓zx_ist1i, ↓zx_ist1r, ↓zx_ist1n, ↓zx_ast1i, ↓zx_ast1r, ↓zx_ast1n, ↓zx_inc1i, ↓zx_inc1r, ↓zx_inc1n, ↓zx_ild2, ↓zx_ald2, ↓zx_lld2, ↓zx_ist2i, ↓zx_ist2r, ↓zx_ist2n, ↓zx_ast2i, ↓zx_ast2r, ↓zx_ast2n, ↓zx_inc2i, ↓zx_inc2r, ↓zx_inc2n, ↓zx_ild3, ↓zx_ald3, ↓zx_lld3, ↓zx_ist3i, ↓zx_ist3r, ↓zx_ist3n, ↓zx_ast3i, ↓zx_ast3r, ↓zx_ast3n, ↓zx_inc3i, ↓zx_inc3r, ↓zx_inc3n, ↓zx_ild4, ↓zx_ald4, ↓zx_lld4, ↓zx_ist4i, ↓zx_ist4r, ↓zx_ist4n, ↓zx_ast4i, ↓zx_ast4r, ↓zx_ast4n, ↓zx_inc4i, ↓zx_inc4r, ↓zx_inc4n, ↓zx_ild5, ↓zx_ald5, ↓zx_lld5, ↓zx_ist5i, ↓zx_ist5r, ↓zx_ist5n, ↓zx_ast5i, ↓zx_ast5r, ↓zx_ast5n, ↓zx_inc5i, ↓zx_inc5r, ↓zx_inc5n, ↓zx_ild6, ↓zx_ald6, ↓zx_lld6, ↓zx_ist6i, ↓zx_ist6r, ↓zx_ist6n, ↓zx_ast6i, ↓zx_ast6r, ↓zx_ast6n, ↓zx_inc6i, ↓zx_inc6r, ↓zx_inc6n, ↓zx_ild7, ↓zx_ald7, ↓zx_lld7, ↓zx_ist7i, ↓zx_ist7r, ↓zx_ist7n, ↓zx_ast7i, ↓zx_ast7r, ↓zx_ast7n, ↓zx_inc7i, ↓zx_inc7r, ↓zx_inc7n, ↓zx_ild8, ↓zx_ald8, ↓zx_lld8, ↓zx_ist8i, ↓zx_ist8r, ↓zx_ist8n, ↓zx_ast8i, ↓zx_ast8r, ↓zx_ast8n, ↓zx_inc8i, ↓zx_inc8r, ↓zx_inc8n, ↓zx_ild9, ↓zx_ald9, ↓zx_lld9, ↓zx_ist9i, ↓zx_ist9r, ↓zx_ist9n, ↓zx_ast9i, ↓zx_ast9r, ↓zx_ast9n, ↓zx_inc9i, ↓zx_inc9r, ↓zx_inc9n, ↓zx_ild10, ↓zx_ald10, ↓zx_lld10, ↓zx_ist10i, ↓zx_ist10r, ↓zx_ist10n, ↓zx_ast10i, ↓zx_ast10r, ↓zx_ast10n, ↓zx_inc10i, ↓zx_inc10r, ↓zx_inc10n, ↓zx_b, ↓zx_u, ↓zx_i2l, ↓zx_lb, ↓zx_lu, ↓zx_lcmp, ↓zx_dupi, ↓zx_dupr, ↓zx_dup2, ↓zx_pop, zx_ceq_t, zx_ceq_f, zx_clt_t, zx_clt_f, zx_cle_t, zx_cle_f, zx_eq_t, zx_eq_f, zx_lt_t, zx_lt_f, zx_le_t, zx_le_f, zx_eq_b, zx_rem, zx_div, zx_go0, zx_go1, ↓zx_call0, ↓zx_call1, ↓zx_call2, ↓zx_call3, ↓zx_call4, ↓zx_call5, ↓zx_call6, ↓zx_call7, ↓zx_vc0, ↓zx_vn0, ↓zx_vc1, ↓zx_vn1, ↓zx_vc2, ↓zx_vn2, ↓zx_vc3, ↓zx_vn3, ↓zx_vc4, ↓zx_vn4, ↓zx_vc5, ↓zx_vn5, ↓zx_vc6, ↓zx_vn6, ↓zx_sc0, ↓zx_sc1, ↓zx_sc2, ↓zx_mmin, ↓zx_mmax, zx_ret0, zx_reti, zx_retl, zx_reta, zx_retz, zx_retz0, zx_retz1, zj_run, zj_e0, zj_E0, List.length_cons, List.length_nil, List.cons_append, List.nil_append, List.reduceReplicate, Nat.reduceLeDiff, Nat.reduceAdd, Nat.reduceSub, Nat.zero_add, Nat.zero_le, Nat.le_refl, reduceIte, ↓zf_J1_ixc, e, zl_c]
theorem zf_J1_idx_e {v : Nat} (h : zj_isS t = true) (hv : v < 128) : zf_J1_idx [.ref (t + 1000), .int (nI v), .int (nI 0), .int (nI (zj_len.getD (t - 1000) 0))] m = some ([.int (zj_ix (nI v) (zj_byt.getD (t - 1000) []) 0)], m) := by
  have hl := zj_str_len (t - 1000) (zj_isS_of h).1
  have e1 := zf_J1_can_e (m := m) hv
  have e2 := zf_J1_ixc_e (m := m) h hv
  generalize zj_ix (nI v) (zj_byt.getD (t - 1000) []) 0 = z at e2 ⊢
  simp -implicitDefEqProofs (disch := first | omega | assumption | decide +kernel | exact Nat.le_of_ble_eq_true rfl) only [↓zx_push, ↓zx_ild0, ↓zx_ald0, ↓zx_lld0, ↓zx_ist0, ↓zx_ast0, ↓zx_inc0, ↓zx_ild1, ↓zx_ald1, ↓zx_lld1, ↓zx_ist1i, ↓zx_ist1r, ↓zx_ist1n, ↓zx_ast1i, ↓zx_ast1r, ↓zx_ast1n, ↓zx_inc1i, ↓zx_inc1r, ↓zx_inc1n, ↓zx_ild2, ↓zx_ald2, ↓zx_lld2, ↓zx_ist2i, ↓zx_ist2r, ↓zx_ist2n, ↓zx_ast2i, ↓zx_ast2r, ↓zx_ast2n, ↓zx_inc2i, ↓zx_inc2r, ↓zx_inc2n, ↓zx_ild3, ↓zx_ald3, ↓zx_lld3, ↓zx_ist3i, ↓zx_ist3r, ↓zx_ist3n, ↓zx_ast3i, ↓zx_ast3r, ↓zx_ast3n, ↓zx_inc3i, ↓zx_inc3r, ↓zx_inc3n, ↓zx_ild4, ↓zx_ald4, ↓zx_lld4, ↓zx_ist4i, ↓zx_ist4r, ↓zx_ist4n, ↓zx_ast4i, ↓zx_ast4r, ↓zx_ast4n, ↓zx_inc4i, ↓zx_inc4r, ↓zx_inc4n, ↓zx_ild5, ↓zx_ald5, ↓zx_lld5, ↓zx_ist5i, ↓zx_ist5r, ↓zx_ist5n, ↓zx_ast5i, ↓zx_ast5r, ↓zx_ast5n, ↓zx_inc5i, ↓zx_inc5r, ↓zx_inc5n, ↓zx_ild6, ↓zx_ald6, ↓zx_lld6, ↓zx_ist6i, ↓zx_ist6r, ↓zx_ist6n, ↓zx_ast6i, ↓zx_ast6r, ↓zx_ast6n, ↓zx_inc6i, ↓zx_inc6r, ↓zx_inc6n, ↓zx_ild7, ↓zx_ald7, ↓zx_lld7, ↓zx_ist7i, ↓zx_ist7r, ↓zx_ist7n, ↓zx_ast7i, ↓zx_ast7r, ↓zx_ast7n, ↓zx_inc7i, ↓zx_inc7r, ↓zx_inc7n, ↓zx_ild8, ↓zx_ald8, ↓zx_lld8, ↓zx_ist8i, ↓zx_ist8r, ↓zx_ist8n, ↓zx_ast8i, ↓zx_ast8r, ↓zx_ast8n, ↓zx_inc8i, ↓zx_inc8r, ↓zx_inc8n, ↓zx_ild9, ↓zx_ald9, ↓zx_lld9, ↓zx_ist9i, ↓zx_ist9r, ↓zx_ist9n, ↓zx_ast9i, ↓zx_ast9r, ↓zx_ast9n, ↓zx_inc9i, ↓zx_inc9r, ↓zx_inc9n, ↓zx_ild10, ↓zx_ald10, ↓zx_lld10, ↓zx_ist10i, ↓zx_ist10r, ↓zx_ist10n, ↓zx_ast10i, ↓zx_ast10r, ↓zx_ast10n, ↓zx_inc10i, ↓zx_inc10r, ↓zx_inc10n, ↓zx_b, ↓zx_u, ↓zx_i2l, ↓zx_lb, ↓zx_lu, ↓zx_lcmp, ↓zx_dupi, ↓zx_dupr, ↓zx_dup2, ↓zx_pop, zx_ceq_t, zx_ceq_f, zx_clt_t, zx_clt_f, zx_cle_t, zx_cle_f, zx_eq_t, zx_eq_f, zx_lt_t, zx_lt_f, zx_le_t, zx_le_f, zx_eq_b, zx_rem, zx_div, zx_go0, zx_go1, ↓zx_call0, ↓zx_call1, ↓zx_call2, ↓zx_call3, ↓zx_call4, ↓zx_call5, ↓zx_call6, ↓zx_call7, ↓zx_vc0, ↓zx_vn0, ↓zx_vc1, ↓zx_vn1, ↓zx_vc2, ↓zx_vn2, ↓zx_vc3, ↓zx_vn3, ↓zx_vc4, ↓zx_vn4, ↓zx_vc5, ↓zx_vn5, ↓zx_vc6, ↓zx_vn6, ↓zx_sc0, ↓zx_sc1, ↓zx_sc2, ↓zx_mmin, ↓zx_mmax, zx_ret0, zx_reti, zx_retl, zx_reta, zx_retz, zx_retz0, zx_retz1, zj_run, zj_e0, zj_E0, List.length_cons, List.length_nil, List.cons_append, List.nil_append, List.reduceReplicate, Nat.reduceLeDiff, Nat.reduceAdd, Nat.reduceSub, Nat.zero_add, Nat.zero_le, Nat.le_refl, reduceIte, ↓zf_J1_idx, ↓zx_slen, zl_c, e1, e2, ite_self]
theorem zm_J0_indexOf_0f7a4 : zj_MS 12 yJ0_indexOf_0f7a4 cJ0_indexOf_0f7a4 2 (some .int) zf_J0_indexOf_0f7a4 := fun l g as mem res mem' q => by
  unfold zf_J0_indexOf_0f7a4 at q
  split at q
  · next t i =>
    split at q
    · next h =>
      obtain ⟨h1, h2, h3⟩ := h
      obtain ⟨v, hv, rfl⟩ := nI_of h2
      have hv : v < 128 := (nI_ltI hv (by omega)).mp h3
      have e1 := zf_J0_lat_e (m := mem) h1
      have e2 := zf_J0_len_e (m := mem) h1
      have e3 := zf_J1_idx_e (m := mem) h1 hv
      generalize zj_ix (nI v) (zj_byt.getD (t - 1000) []) 0 = z at e3 q
      refine zm_J0_ix1 (by omega) l g _ mem res mem' (Eq.trans ?_ q)
      simp -implicitDefEqProofs (disch := first | omega | assumption | decide +kernel | exact Nat.le_of_ble_eq_true rfl) only [↓zx_push, ↓zx_ild0, ↓zx_ald0, ↓zx_lld0, ↓zx_ist0, ↓zx_ast0, ↓zx_inc0, ↓zx_ild1, ↓zx_ald1, ↓zx_lld1, ↓zx_ist1i, ↓zx_ist1r, ↓zx_ist1n, ↓zx_ast1i, ↓zx_ast1r, ↓zx_ast1n, ↓zx_inc1i, ↓zx_inc1r, ↓zx_inc1n, ↓zx_ild2, ↓zx_ald2, ↓zx_lld2, ↓zx_ist2i, ↓zx_ist2r, ↓zx_ist2n, ↓zx_ast2i, ↓zx_ast2r, ↓zx_ast2n, ↓zx_inc2i, ↓zx_inc2r, ↓zx_inc2n, ↓zx_ild3, ↓zx_ald3, ↓zx_lld3, ↓zx_ist3i, ↓zx_ist3r, ↓zx_ist3n, ↓zx_ast3i, ↓zx_ast3r, ↓zx_ast3n, ↓zx_inc3i, ↓zx_inc3r, ↓zx_inc3n, ↓zx_ild4, ↓zx_ald4, ↓zx_lld4, ↓zx_ist4i, ↓zx_ist4r, ↓zx_ist4n, ↓zx_ast4i, ↓zx_ast4r, ↓zx_ast4n, ↓zx_inc4i, ↓zx_inc4r, ↓zx_inc4n, ↓zx_ild5, ↓zx_ald5, ↓zx_lld5, ↓zx_ist5i, ↓zx_ist5r, ↓zx_ist5n, ↓zx_ast5i, ↓zx_ast5r, ↓zx_ast5n, ↓zx_inc5i, ↓zx_inc5r, ↓zx_inc5n, ↓zx_ild6, ↓zx_ald6, ↓zx_lld6, ↓zx_ist6i, ↓zx_ist6r, ↓zx_ist6n, ↓zx_ast6i, ↓zx_ast6r, ↓zx_ast6n, ↓zx_inc6i, ↓zx_inc6r, ↓zx_inc6n, ↓zx_ild7, ↓zx_ald7, ↓zx_lld7, ↓zx_ist7i, ↓zx_ist7r, ↓zx_ist7n, ↓zx_ast7i, ↓zx_ast7r, ↓zx_ast7n, ↓zx_inc7i, ↓zx_inc7r, ↓zx_inc7n, ↓zx_ild8, ↓zx_ald8, ↓zx_lld8, ↓zx_ist8i, ↓zx_ist8r, ↓zx_ist8n, ↓zx_ast8i, ↓zx_ast8r, ↓zx_ast8n, ↓zx_inc8i, ↓zx_inc8r, ↓zx_inc8n, ↓zx_ild9, ↓zx_ald9, ↓zx_lld9, ↓zx_ist9i, ↓zx_ist9r, ↓zx_ist9n, ↓zx_ast9i, ↓zx_ast9r, ↓zx_ast9n, ↓zx_inc9i, ↓zx_inc9r, ↓zx_inc9n, ↓zx_ild10, ↓zx_ald10, ↓zx_lld10, ↓zx_ist10i, ↓zx_ist10r, ↓zx_ist10n, ↓zx_ast10i, ↓zx_ast10r, ↓zx_ast10n, ↓zx_inc10i, ↓zx_inc10r, ↓zx_inc10n, ↓zx_b, ↓zx_u, ↓zx_i2l, ↓zx_lb, ↓zx_lu, ↓zx_lcmp, ↓zx_dupi, ↓zx_dupr, ↓zx_dup2, ↓zx_pop, zx_ceq_t, zx_ceq_f, zx_clt_t, zx_clt_f, zx_cle_t, zx_cle_f, zx_eq_t, zx_eq_f, zx_lt_t, zx_lt_f, zx_le_t, zx_le_f, zx_eq_b, zx_rem, zx_div, zx_go0, zx_go1, ↓zx_call0, ↓zx_call1, ↓zx_call2, ↓zx_call3, ↓zx_call4, ↓zx_call5, ↓zx_call6, ↓zx_call7, ↓zx_vc0, ↓zx_vn0, ↓zx_vc1, ↓zx_vn1, ↓zx_vc2, ↓zx_vn2, ↓zx_vc3, ↓zx_vn3, ↓zx_vc4, ↓zx_vn4, ↓zx_vc5, ↓zx_vn5, ↓zx_vc6, ↓zx_vn6, ↓zx_sc0, ↓zx_sc1, ↓zx_sc2, ↓zx_mmin, ↓zx_mmax, zx_ret0, zx_reti, zx_retl, zx_reta, zx_retz, zx_retz0, zx_retz1, zj_run, zj_e0, zj_E0, List.length_cons, List.length_nil, List.cons_append, List.nil_append, List.reduceReplicate, Nat.reduceLeDiff, Nat.reduceAdd, Nat.reduceSub, Nat.zero_add, Nat.zero_le, Nat.le_refl, reduceIte, ↓zf_J0_ix1, ↓zx_sc2s, ↓zf_J0_ix2, ↓zx_sval, zl_c, e1, e2, e3]
    · cases q
  · cases q
end ZM
