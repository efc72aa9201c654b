theorem dX12_firm_0 : decode cX12_firm 0 = .ok (.aload_n 0, 1) := by decide +kernel
theorem dX12_firm_1 : decode cX12_firm 1 = .ok (.iload_n 1, 1) := by decide +kernel
theorem dX12_firm_2 : decode cX12_firm 2 = .ok (.invokevirtual 166, 3) := by decide +kernel
theorem dX12_firm_5 : decode cX12_firm 5 = .ok (.ifCond .eq 12, 3) := by decide +kernel
theorem dX12_firm_8 : decode cX12_firm 8 = .ok (.iload_n 2, 1) := by decide +kernel
theorem dX12_firm_9 : decode cX12_firm 9 = .ok (.iconst 0, 1) := by decide +kernel
theorem dX12_firm_10 : decode cX12_firm 10 = .ok (.iconst 1, 1) := by decide +kernel
theorem dX12_firm_11 : decode cX12_firm 11 = .ok (.invokestatic 47, 3) := by decide +kernel
theorem dX12_firm_14 : decode cX12_firm 14 = .ok (.ifCond .ne 5, 3) := by decide +kernel
theorem dX12_firm_17 : decode cX12_firm 17 = .ok (.iconst (-1), 1) := by decide +kernel
theorem dX12_firm_18 : decode cX12_firm 18 = .ok (.ireturn, 1) := by decide +kernel
theorem dX12_firm_19 : decode cX12_firm 19 = .ok (.aload_n 0, 1) := by decide +kernel
theorem dX12_firm_20 : decode cX12_firm 20 = .ok (.getfield 9, 3) := by decide +kernel
theorem dX12_firm_23 : decode cX12_firm 23 = .ok (.bipush 43, 2) := by decide +kernel
theorem dX12_firm_25 : decode cX12_firm 25 = .ok (.iload_n 1, 1) := by decide +kernel
theorem dX12_firm_26 : decode cX12_firm 26 = .ok (.iadd, 1) := by decide +kernel
theorem dX12_firm_27 : decode cX12_firm 27 = .ok (.iaload, 1) := by decide +kernel
theorem dX12_firm_28 : decode cX12_firm 28 = .ok (.istore_n 3, 1) := by decide +kernel
theorem dX12_firm_29 : decode cX12_firm 29 = .ok (.iconst 0, 1) := by decide +kernel
theorem dX12_firm_30 : decode cX12_firm 30 = .ok (.istore 4, 2) := by decide +kernel
theorem dX12_firm_32 : decode cX12_firm 32 = .ok (.bipush (-5), 2) := by decide +kernel
theorem dX12_firm_34 : decode cX12_firm 34 = .ok (.istore 5, 2) := by decide +kernel
theorem dX12_firm_36 : decode cX12_firm 36 = .ok (.bipush 9, 2) := by decide +kernel
theorem dX12_firm_38 : decode cX12_firm 38 = .ok (.istore 6, 2) := by decide +kernel
theorem dX12_firm_40 : decode cX12_firm 40 = .ok (.iload 6, 2) := by decide +kernel
theorem dX12_firm_42 : decode cX12_firm 42 = .ok (.ifCond .lt 59, 3) := by decide +kernel
theorem dX12_firm_45 : decode cX12_firm 45 = .ok (.aload_n 0, 1) := by decide +kernel
theorem dX12_firm_46 : decode cX12_firm 46 = .ok (.invokevirtual 198, 3) := by decide +kernel
theorem dX12_firm_49 : decode cX12_firm 49 = .ok (.aload_n 0, 1) := by decide +kernel
theorem dX12_firm_50 : decode cX12_firm 50 = .ok (.getfield 9, 3) := by decide +kernel
theorem dX12_firm_53 : decode cX12_firm 53 = .ok (.bipush 43, 2) := by decide +kernel
theorem dX12_firm_55 : decode cX12_firm 55 = .ok (.iload_n 1, 1) := by decide +kernel
theorem dX12_firm_56 : decode cX12_firm 56 = .ok (.iadd, 1) := by decide +kernel
theorem dX12_firm_57 : decode cX12_firm 57 = .ok (.iload 6, 2) := by decide +kernel
theorem dX12_firm_59 : decode cX12_firm 59 = .ok (.iastore, 1) := by decide +kernel
theorem dX12_firm_60 : decode cX12_firm 60 = .ok (.aload_n 0, 1) := by decide +kernel
theorem dX12_firm_61 : decode cX12_firm 61 = .ok (.invokevirtual 210, 3) := by decide +kernel
theorem dX12_firm_64 : decode cX12_firm 64 = .ok (.istore 7, 2) := by decide +kernel
theorem dX12_firm_66 : decode cX12_firm 66 = .ok (.iload 4, 2) := by decide +kernel
theorem dX12_firm_68 : decode cX12_firm 68 = .ok (.iload 7, 2) := by decide +kernel
theorem dX12_firm_70 : decode cX12_firm 70 = .ok (.ifCond .eq 7, 3) := by decide +kernel
theorem dX12_firm_73 : decode cX12_firm 73 = .ok (.iconst 1, 1) := by decide +kernel
theorem dX12_firm_74 : decode cX12_firm 74 = .ok (.goto 4, 3) := by decide +kernel
theorem dX12_firm_77 : decode cX12_firm 77 = .ok (.iconst 0, 1) := by decide +kernel
theorem dX12_firm_78 : decode cX12_firm 78 = .ok (.iadd, 1) := by decide +kernel
theorem dX12_firm_79 : decode cX12_firm 79 = .ok (.istore 4, 2) := by decide +kernel
theorem dX12_firm_81 : decode cX12_firm 81 = .ok (.iload 7, 2) := by decide +kernel
theorem dX12_firm_83 : decode cX12_firm 83 = .ok (.ifCond .eq 8, 3) := by decide +kernel
theorem dX12_firm_86 : decode cX12_firm 86 = .ok (.iload 6, 2) := by decide +kernel
theorem dX12_firm_88 : decode cX12_firm 88 = .ok (.goto 5, 3) := by decide +kernel
theorem dX12_firm_91 : decode cX12_firm 91 = .ok (.iload 5, 2) := by decide +kernel
theorem dX12_firm_93 : decode cX12_firm 93 = .ok (.istore 5, 2) := by decide +kernel
theorem dX12_firm_95 : decode cX12_firm 95 = .ok (.iinc 6 (-1), 3) := by decide +kernel
theorem dX12_firm_98 : decode cX12_firm 98 = .ok (.goto (-58), 3) := by decide +kernel
theorem dX12_firm_101 : decode cX12_firm 101 = .ok (.aload_n 0, 1) := by decide +kernel
theorem dX12_firm_102 : decode cX12_firm 102 = .ok (.getfield 9, 3) := by decide +kernel
theorem dX12_firm_105 : decode cX12_firm 105 = .ok (.bipush 43, 2) := by decide +kernel
theorem dX12_firm_107 : decode cX12_firm 107 = .ok (.iload_n 1, 1) := by decide +kernel
theorem dX12_firm_108 : decode cX12_firm 108 = .ok (.iadd, 1) := by decide +kernel
theorem dX12_firm_109 : decode cX12_firm 109 = .ok (.iload_n 3, 1) := by decide +kernel
theorem dX12_firm_110 : decode cX12_firm 110 = .ok (.iastore, 1) := by decide +kernel
theorem dX12_firm_111 : decode cX12_firm 111 = .ok (.iload_n 2, 1) := by decide +kernel
theorem dX12_firm_112 : decode cX12_firm 112 = .ok (.ifCond .ne 8, 3) := by decide +kernel
theorem dX12_firm_115 : decode cX12_firm 115 = .ok (.iload 4, 2) := by decide +kernel
theorem dX12_firm_117 : decode cX12_firm 117 = .ok (.goto 5, 3) := by decide +kernel
theorem dX12_firm_120 : decode cX12_firm 120 = .ok (.iload 5, 2) := by decide +kernel
theorem dX12_firm_122 : decode cX12_firm 122 = .ok (.ireturn, 1) := by decide +kernel
def zb_X12_firm_17 (E : zj_E) (st : List Value) (m : zj_M) : zj_R := (zi_push (.int (-1)) (zi_ret (some .int))) E st m
set_option maxRecDepth 20000 in
theorem zs_X12_firm_17 : zj_KC cX12_firm RX12 8 (6) (some .int) (0, fun _ => 0) 17 (zb_X12_firm_17) := (zr_iconst dX12_firm_17 rfl (zr_ret dX12_firm_18))
def zb_X12_firm_122 (E : zj_E) (st : List Value) (m : zj_M) : zj_R := (zi_ret (some .int)) E st m
set_option maxRecDepth 20000 in
theorem zs_X12_firm_122 : zj_KC cX12_firm RX12 8 (6) (some .int) (0, fun _ => 0) 122 (zb_X12_firm_122) := (zr_ret dX12_firm_122)
def zb_X12_firm_93 (r40 : zj_K) (E : zj_E) (st : List Value) (m : zj_M) : zj_R := (zi_ist 5 (zi_inc 6 (-1) r40)) E st m
set_option maxRecDepth 20000 in
theorem zs_X12_firm_93 {r40 : zj_K} (h40 : zj_KC cX12_firm RX12 8 (6) (some .int) (0, fun _ => 0) 40 r40) : zj_KC cX12_firm RX12 8 (6) (some .int) (0, fun _ => 0) 93 (zb_X12_firm_93 r40) := (zr_ist dX12_firm_93 (zr_inc dX12_firm_95 rfl (zr_goto dX12_firm_98 (tgt := 40) (by decide) h40)))
def zb_X12_firm_78 (r40 : zj_K) (E : zj_E) (st : List Value) (m : zj_M) : zj_R := (zi_b (fun x y => x + y) (zi_ist 4 (zi_ild 7 (zi_eq (zi_ild 5 (zb_X12_firm_93 r40)) (zi_ild 6 (zb_X12_firm_93 r40)))))) E st m
set_option maxRecDepth 20000 in
theorem zs_X12_firm_78 {r40 : zj_K} (h40 : zj_KC cX12_firm RX12 8 (6) (some .int) (0, fun _ => 0) 40 r40) : zj_KC cX12_firm RX12 8 (6) (some .int) (0, fun _ => 0) 78 (zb_X12_firm_78 r40) := (zr_iadd dX12_firm_78 (zr_ist dX12_firm_79 (zr_ild dX12_firm_81 (zr_ifeq dX12_firm_83 (tgt := 91) (by decide) (zr_ild dX12_firm_91 (zs_X12_firm_93 h40)) (zr_ild dX12_firm_86 (zr_goto dX12_firm_88 (tgt := 93) (by decide) (zs_X12_firm_93 h40)))))))
def zb_X12_firm_40 (r40 : zj_K) (E : zj_E) (st : List Value) (m : zj_M) : zj_R := (zi_ild 6 (zi_lt (zi_ald 0 (zi_gf 12 1 (zi_push (.int 43) (zi_ild 1 (zi_b (fun x y => x + y) (zi_ild 3 (zi_iast (zi_ild 2 (zi_eq (zi_ild 4 zb_X12_firm_122) (zi_ild 5 zb_X12_firm_122)))))))))) (zi_ald 0 (zi_vc 12 0 zf_X12_keeps (zi_ald 0 (zi_gf 12 1 (zi_push (.int 43) (zi_ild 1 (zi_b (fun x y => x + y) (zi_ild 6 (zi_iast (zi_ald 0 (zi_vc 12 0 zf_X12_areAsSeen (zi_ist 7 (zi_ild 4 (zi_ild 7 (zi_eq (zi_push (.int 0) (zb_X12_firm_78 r40)) (zi_push (.int 1) (zb_X12_firm_78 r40)))))) zi_no))))))))) zi_no)))) E st m
set_option maxRecDepth 20000 in
theorem zs_X12_firm_40 {r40 : zj_K} (h40 : zj_KC cX12_firm RX12 8 (6) (some .int) (0, fun _ => 0) 40 r40) : zj_KC cX12_firm RX12 8 (6) (some .int) (0, fun _ => 0) 40 (zb_X12_firm_40 r40) := (zr_ild dX12_firm_40 (zr_iflt dX12_firm_42 (tgt := 101) (by decide) (zr_aldn dX12_firm_101 rfl (zr_gf dX12_firm_102 zfl_X12_9_12 (zr_bipush dX12_firm_105 rfl (zr_ildn dX12_firm_107 rfl (zr_iadd dX12_firm_108 (zr_ildn dX12_firm_109 rfl (zr_iast dX12_firm_110 (zr_ildn dX12_firm_111 rfl (zr_ifne dX12_firm_112 (tgt := 120) (by decide) (zr_ild dX12_firm_120 (zs_X12_firm_122)) (zr_ild dX12_firm_115 (zr_goto dX12_firm_117 (tgt := 122) (by decide) (zs_X12_firm_122)))))))))))) (zr_aldn dX12_firm_45 rfl (zr_callV dX12_firm_46 zm_X12_keeps ⟨⟨zq_1213, zq_77⟩, by decide +kernel, by omega, by decide⟩ rfl rfl zq_1210 zq_1212 zq_46 (zr_aldn dX12_firm_49 rfl (zr_gf dX12_firm_50 zfl_X12_9_12 (zr_bipush dX12_firm_53 rfl (zr_ildn dX12_firm_55 rfl (zr_iadd dX12_firm_56 (zr_ild dX12_firm_57 (zr_iast dX12_firm_59 (zr_aldn dX12_firm_60 rfl (zr_callV dX12_firm_61 zm_X12_areAsSeen ⟨⟨zq_1277, zq_77⟩, by decide +kernel, by omega, by decide⟩ rfl rfl zq_1274 zq_1276 zq_54 (zr_ist dX12_firm_64 (zr_ild dX12_firm_66 (zr_ild dX12_firm_68 (zr_ifeq dX12_firm_70 (tgt := 77) (by decide) (zr_iconst dX12_firm_77 rfl (zs_X12_firm_78 h40)) (zr_iconst dX12_firm_73 rfl (zr_goto dX12_firm_74 (tgt := 78) (by decide) (zs_X12_firm_78 h40))))))) zr_no))))))))) zr_no))))
def zb_X12_firm_0 (E : zj_E) (st : List Value) (m : zj_M) : zj_R := (zi_ald 0 (zi_ild 1 (zi_vc 12 1 zf_X12_isWalker (zi_eq zb_X12_firm_17 (zi_ild 2 (zi_push (.int 0) (zi_push (.int 1) (zi_call 3 zf_X12_in (zi_eq zb_X12_firm_17 (zi_ald 0 (zi_gf 12 1 (zi_push (.int 43) (zi_ild 1 (zi_b (fun x y => x + y) (zi_iald (zi_ist 3 (zi_push (.int 0) (zi_ist 4 (zi_push (.int (-5)) (zi_ist 5 (zi_push (.int 9) (zi_ist 6 (zj_lp (zb_X12_firm_40) zj_fu)))))))))))))))))))) zi_no))) E st m
set_option maxRecDepth 20000 in
theorem zs_X12_firm_0 : zj_KC cX12_firm RX12 8 (6) (some .int) (0, fun _ => 0) 0 (zb_X12_firm_0) := (zr_aldn dX12_firm_0 rfl (zr_ildn dX12_firm_1 rfl (zr_callV dX12_firm_2 zm_X12_isWalker ⟨⟨zq_1144, zq_77⟩, by decide +kernel, by omega, by decide⟩ rfl rfl zq_1141 zq_1143 zq_33 (zr_ifeq dX12_firm_5 (tgt := 17) (by decide) (zs_X12_firm_17) (zr_ildn dX12_firm_8 rfl (zr_iconst dX12_firm_9 rfl (zr_iconst dX12_firm_10 rfl (zr_callS dX12_firm_11 zm_X12_in ⟨⟨zq_1054, zq_77⟩, by decide +kernel, by omega, by decide⟩ zq_1052 zq_1053 (zr_ifne dX12_firm_14 (tgt := 19) (by decide) (zr_aldn dX12_firm_19 rfl (zr_gf dX12_firm_20 zfl_X12_9_12 (zr_bipush dX12_firm_23 rfl (zr_ildn dX12_firm_25 rfl (zr_iadd dX12_firm_26 (zr_iald dX12_firm_27 (zr_istn dX12_firm_28 rfl (zr_iconst dX12_firm_29 rfl (zr_ist dX12_firm_30 (zr_bipush dX12_firm_32 rfl (zr_ist dX12_firm_34 (zr_bipush dX12_firm_36 rfl (zr_ist dX12_firm_38 (zr_lp (fun _ h => zs_X12_firm_40 h) zj_fu)))))))))))))) (zs_X12_firm_17))))))) zr_no)))
def zf_X12_firm : zj_F := zj_run 8 zb_X12_firm_0
theorem zm_X12_firm : zj_MS 6 yX12_firm cX12_firm 8 (some .int) zf_X12_firm := zj_met (own := RX12) rfl (by decide +kernel) (Or.inr (Or.inl rfl)) (zs_X12_firm_0)
theorem dX12_lowest_0 : decode cX12_lowest 0 = .ok (.lload_n 0, 1) := by decide +kernel
theorem dX12_lowest_1 : decode cX12_lowest 1 = .ok (.lconst 0, 1) := by decide +kernel
theorem dX12_lowest_2 : decode cX12_lowest 2 = .ok (.lcmp, 1) := by decide +kernel
theorem dX12_lowest_3 : decode cX12_lowest 3 = .ok (.ifCond .ge 8, 3) := by decide +kernel
theorem dX12_lowest_6 : decode cX12_lowest 6 = .ok (.lload_n 0, 1) := by decide +kernel
theorem dX12_lowest_7 : decode cX12_lowest 7 = .ok (.lneg, 1) := by decide +kernel
theorem dX12_lowest_8 : decode cX12_lowest 8 = .ok (.goto 4, 3) := by decide +kernel
theorem dX12_lowest_11 : decode cX12_lowest 11 = .ok (.lload_n 0, 1) := by decide +kernel
theorem dX12_lowest_12 : decode cX12_lowest 12 = .ok (.lstore 5, 2) := by decide +kernel
theorem dX12_lowest_14 : decode cX12_lowest 14 = .ok (.lload_n 2, 1) := by decide +kernel
theorem dX12_lowest_15 : decode cX12_lowest 15 = .ok (.lstore 7, 2) := by decide +kernel
theorem dX12_lowest_17 : decode cX12_lowest 17 = .ok (.lload 7, 2) := by decide +kernel
theorem dX12_lowest_19 : decode cX12_lowest 19 = .ok (.lconst 0, 1) := by decide +kernel
theorem dX12_lowest_20 : decode cX12_lowest 20 = .ok (.lcmp, 1) := by decide +kernel
theorem dX12_lowest_21 : decode cX12_lowest 21 = .ok (.ifCond .eq 21, 3) := by decide +kernel
theorem dX12_lowest_24 : decode cX12_lowest 24 = .ok (.lload 5, 2) := by decide +kernel
theorem dX12_lowest_26 : decode cX12_lowest 26 = .ok (.lload 7, 2) := by decide +kernel
theorem dX12_lowest_28 : decode cX12_lowest 28 = .ok (.lrem, 1) := by decide +kernel
theorem dX12_lowest_29 : decode cX12_lowest 29 = .ok (.lstore 9, 2) := by decide +kernel
theorem dX12_lowest_31 : decode cX12_lowest 31 = .ok (.lload 7, 2) := by decide +kernel
theorem dX12_lowest_33 : decode cX12_lowest 33 = .ok (.lstore 5, 2) := by decide +kernel
theorem dX12_lowest_35 : decode cX12_lowest 35 = .ok (.lload 9, 2) := by decide +kernel
theorem dX12_lowest_37 : decode cX12_lowest 37 = .ok (.lstore 7, 2) := by decide +kernel
theorem dX12_lowest_39 : decode cX12_lowest 39 = .ok (.goto (-22), 3) := by decide +kernel
theorem dX12_lowest_42 : decode cX12_lowest 42 = .ok (.iload 4, 2) := by decide +kernel
theorem dX12_lowest_44 : decode cX12_lowest 44 = .ok (.ifCond .ne 7, 3) := by decide +kernel
theorem dX12_lowest_47 : decode cX12_lowest 47 = .ok (.lload_n 0, 1) := by decide +kernel
theorem dX12_lowest_48 : decode cX12_lowest 48 = .ok (.goto 4, 3) := by decide +kernel
theorem dX12_lowest_51 : decode cX12_lowest 51 = .ok (.lload_n 2, 1) := by decide +kernel
theorem dX12_lowest_52 : decode cX12_lowest 52 = .ok (.lload 5, 2) := by decide +kernel
theorem dX12_lowest_54 : decode cX12_lowest 54 = .ok (.ldiv, 1) := by decide +kernel
theorem dX12_lowest_55 : decode cX12_lowest 55 = .ok (.lreturn, 1) := by decide +kernel
def zb_X12_lowest_52 (E : zj_E) (st : List Value) (m : zj_M) : zj_R := (zi_lld 5 (zi_lbd (fun x y => x / y) (zi_ret (some .long)))) E st m
set_option maxRecDepth 20000 in
theorem zs_X12_lowest_52 : zj_KC cX12_lowest RX12 11 (0) (some .long) (0, fun _ => 0) 52 (zb_X12_lowest_52) := (zr_lld dX12_lowest_52 (zr_ldiv dX12_lowest_54 (zr_ret dX12_lowest_55)))
def zb_X12_lowest_17 (r17 : zj_K) (E : zj_E) (st : List Value) (m : zj_M) : zj_R := (zi_lld 7 (zi_push (.long 0) (zi_lcmp (zi_eq (zi_ild 4 (zi_eq (zi_lld 0 zb_X12_lowest_52) (zi_lld 2 zb_X12_lowest_52))) (zi_lld 5 (zi_lld 7 (zi_lbd (fun x y => x - x / y * y) (zi_lst 9 (zi_lld 7 (zi_lst 5 (zi_lld 9 (zi_lst 7 r17)))))))))))) E st m
set_option maxRecDepth 20000 in
theorem zs_X12_lowest_17 {r17 : zj_K} (h17 : zj_KC cX12_lowest RX12 11 (0) (some .long) (0, fun _ => 0) 17 r17) : zj_KC cX12_lowest RX12 11 (0) (some .long) (0, fun _ => 0) 17 (zb_X12_lowest_17 r17) := (zr_lld dX12_lowest_17 (zr_lconst dX12_lowest_19 rfl (zr_lcmp dX12_lowest_20 (zr_ifeq dX12_lowest_21 (tgt := 42) (by decide) (zr_ild dX12_lowest_42 (zr_ifne dX12_lowest_44 (tgt := 51) (by decide) (zr_lldn dX12_lowest_51 rfl (zs_X12_lowest_52)) (zr_lldn dX12_lowest_47 rfl (zr_goto dX12_lowest_48 (tgt := 52) (by decide) (zs_X12_lowest_52))))) (zr_lld dX12_lowest_24 (zr_lld dX12_lowest_26 (zr_lrem dX12_lowest_28 (zr_lst dX12_lowest_29 (zr_lld dX12_lowest_31 (zr_lst dX12_lowest_33 (zr_lld dX12_lowest_35 (zr_lst dX12_lowest_37 (zr_goto dX12_lowest_39 (tgt := 17) (by decide) h17)))))))))))))
def zb_X12_lowest_12 (E : zj_E) (st : List Value) (m : zj_M) : zj_R := (zi_lst 5 (zi_lld 2 (zi_lst 7 (zj_lp (zb_X12_lowest_17) zj_fu)))) E st m
set_option maxRecDepth 20000 in
theorem zs_X12_lowest_12 : zj_KC cX12_lowest RX12 11 (0) (some .long) (0, fun _ => 0) 12 (zb_X12_lowest_12) := (zr_lst dX12_lowest_12 (zr_lldn dX12_lowest_14 rfl (zr_lst dX12_lowest_15 (zr_lp (fun _ h => zs_X12_lowest_17 h) zj_fu))))
def zb_X12_lowest_0 (E : zj_E) (st : List Value) (m : zj_M) : zj_R := (zi_lld 0 (zi_push (.long 0) (zi_lcmp (zi_lt (zi_lld 0 (zi_lu (fun x => -x) zb_X12_lowest_12)) (zi_lld 0 zb_X12_lowest_12))))) E st m
set_option maxRecDepth 20000 in
theorem zs_X12_lowest_0 : zj_KC cX12_lowest RX12 11 (0) (some .long) (0, fun _ => 0) 0 (zb_X12_lowest_0) := (zr_lldn dX12_lowest_0 rfl (zr_lconst dX12_lowest_1 rfl (zr_lcmp dX12_lowest_2 (zr_ifge dX12_lowest_3 (tgt := 11) (by decide) (zr_lldn dX12_lowest_11 rfl (zs_X12_lowest_12)) (zr_lldn dX12_lowest_6 rfl (zr_lneg dX12_lowest_7 (zr_goto dX12_lowest_8 (tgt := 12) (by decide) (zs_X12_lowest_12))))))))
def zf_X12_lowest : zj_F := zj_run 11 zb_X12_lowest_0
theorem zm_X12_lowest : zj_MS 0 yX12_lowest cX12_lowest 11 (some .long) zf_X12_lowest := zj_met (own := RX12) rfl (by decide +kernel) (Or.inr (Or.inr (Or.inr (Or.inl rfl)))) (zs_X12_lowest_0)
theorem dX12_odds_0 : decode cX12_odds 0 = .ok (.aload_n 0, 1) := by decide +kernel
theorem dX12_odds_1 : decode cX12_odds 1 = .ok (.iload_n 1, 1) := by decide +kernel
theorem dX12_odds_2 : decode cX12_odds 2 = .ok (.invokevirtual 166, 3) := by decide +kernel
theorem dX12_odds_5 : decode cX12_odds 5 = .ok (.ifCond .eq 22, 3) := by decide +kernel
theorem dX12_odds_8 : decode cX12_odds 8 = .ok (.iload_n 2, 1) := by decide +kernel
theorem dX12_odds_9 : decode cX12_odds 9 = .ok (.iconst 0, 1) := by decide +kernel
theorem dX12_odds_10 : decode cX12_odds 10 = .ok (.bipush 60, 2) := by decide +kernel
theorem dX12_odds_12 : decode cX12_odds 12 = .ok (.invokestatic 47, 3) := by decide +kernel
theorem dX12_odds_15 : decode cX12_odds 15 = .ok (.ifCond .eq 12, 3) := by decide +kernel
theorem dX12_odds_18 : decode cX12_odds 18 = .ok (.iload_n 3, 1) := by decide +kernel
theorem dX12_odds_19 : decode cX12_odds 19 = .ok (.iconst 0, 1) := by decide +kernel
theorem dX12_odds_20 : decode cX12_odds 20 = .ok (.iconst 1, 1) := by decide +kernel
theorem dX12_odds_21 : decode cX12_odds 21 = .ok (.invokestatic 47, 3) := by decide +kernel
theorem dX12_odds_24 : decode cX12_odds 24 = .ok (.ifCond .ne 7, 3) := by decide +kernel
theorem dX12_odds_27 : decode cX12_odds 27 = .ok (.ldc2_w 216, 3) := by decide +kernel
theorem dX12_odds_30 : decode cX12_odds 30 = .ok (.lreturn, 1) := by decide +kernel
theorem dX12_odds_31 : decode cX12_odds 31 = .ok (.lconst 0, 1) := by decide +kernel
theorem dX12_odds_32 : decode cX12_odds 32 = .ok (.lstore 4, 2) := by decide +kernel
theorem dX12_odds_34 : decode cX12_odds 34 = .ok (.iconst 0, 1) := by decide +kernel
theorem dX12_odds_35 : decode cX12_odds 35 = .ok (.istore 6, 2) := by decide +kernel
theorem dX12_odds_37 : decode cX12_odds 37 = .ok (.iload 6, 2) := by decide +kernel
theorem dX12_odds_39 : decode cX12_odds 39 = .ok (.iconst 4, 1) := by decide +kernel
theorem dX12_odds_40 : decode cX12_odds 40 = .ok (.if_icmp .ge 51, 3) := by decide +kernel
theorem dX12_odds_43 : decode cX12_odds 43 = .ok (.aload_n 0, 1) := by decide +kernel
theorem dX12_odds_44 : decode cX12_odds 44 = .ok (.invokevirtual 198, 3) := by decide +kernel
theorem dX12_odds_47 : decode cX12_odds 47 = .ok (.aload_n 0, 1) := by decide +kernel
theorem dX12_odds_48 : decode cX12_odds 48 = .ok (.getfield 9, 3) := by decide +kernel
theorem dX12_odds_51 : decode cX12_odds 51 = .ok (.bipush 8, 2) := by decide +kernel
theorem dX12_odds_53 : decode cX12_odds 53 = .ok (.iload_n 1, 1) := by decide +kernel
theorem dX12_odds_54 : decode cX12_odds 54 = .ok (.iadd, 1) := by decide +kernel
theorem dX12_odds_55 : decode cX12_odds 55 = .ok (.iload 6, 2) := by decide +kernel
theorem dX12_odds_57 : decode cX12_odds 57 = .ok (.iastore, 1) := by decide +kernel
theorem dX12_odds_58 : decode cX12_odds 58 = .ok (.aload_n 0, 1) := by decide +kernel
theorem dX12_odds_59 : decode cX12_odds 59 = .ok (.iload_n 2, 1) := by decide +kernel
theorem dX12_odds_60 : decode cX12_odds 60 = .ok (.invokevirtual 195, 3) := by decide +kernel
theorem dX12_odds_63 : decode cX12_odds 63 = .ok (.lload 4, 2) := by decide +kernel
theorem dX12_odds_65 : decode cX12_odds 65 = .ok (.aload_n 0, 1) := by decide +kernel
theorem dX12_odds_66 : decode cX12_odds 66 = .ok (.iload_n 1, 1) := by decide +kernel
theorem dX12_odds_67 : decode cX12_odds 67 = .ok (.invokevirtual 149, 3) := by decide +kernel
theorem dX12_odds_70 : decode cX12_odds 70 = .ok (.ifCond .eq 7, 3) := by decide +kernel
theorem dX12_odds_73 : decode cX12_odds 73 = .ok (.lconst 1, 1) := by decide +kernel
theorem dX12_odds_74 : decode cX12_odds 74 = .ok (.goto 4, 3) := by decide +kernel
theorem dX12_odds_77 : decode cX12_odds 77 = .ok (.lconst 0, 1) := by decide +kernel
theorem dX12_odds_78 : decode cX12_odds 78 = .ok (.ladd, 1) := by decide +kernel
theorem dX12_odds_79 : decode cX12_odds 79 = .ok (.lstore 4, 2) := by decide +kernel
theorem dX12_odds_81 : decode cX12_odds 81 = .ok (.aload_n 0, 1) := by decide +kernel
theorem dX12_odds_82 : decode cX12_odds 82 = .ok (.invokevirtual 201, 3) := by decide +kernel
theorem dX12_odds_85 : decode cX12_odds 85 = .ok (.iinc 6 1, 3) := by decide +kernel
theorem dX12_odds_88 : decode cX12_odds 88 = .ok (.goto (-51), 3) := by decide +kernel
theorem dX12_odds_91 : decode cX12_odds 91 = .ok (.lload 4, 2) := by decide +kernel
theorem dX12_odds_93 : decode cX12_odds 93 = .ok (.ldc2_w 218, 3) := by decide +kernel
theorem dX12_odds_96 : decode cX12_odds 96 = .ok (.iload_n 3, 1) := by decide +kernel
theorem dX12_odds_97 : decode cX12_odds 97 = .ok (.invokestatic 220, 3) := by decide +kernel
theorem dX12_odds_100 : decode cX12_odds 100 = .ok (.lreturn, 1) := by decide +kernel
def zb_X12_odds_27 (E : zj_E) (st : List Value) (m : zj_M) : zj_R := (zi_push (.long (-9223372036854775808)) (zi_ret (some .long))) E st m
set_option maxRecDepth 20000 in
theorem zs_X12_odds_27 : zj_KC cX12_odds RX12 7 (6) (some .long) (0, fun _ => 0) 27 (zb_X12_odds_27) := (zr_ldc2 dX12_odds_27 zq_1294 (zr_ret dX12_odds_30))
def zb_X12_odds_78 (r37 : zj_K) (E : zj_E) (st : List Value) (m : zj_M) : zj_R := (zi_lb (fun x y => x + y) (zi_lst 4 (zi_ald 0 (zi_vc 12 0 zf_X12_goesBack (zi_inc 6 1 r37) zi_no)))) E st m
set_option maxRecDepth 20000 in
theorem zs_X12_odds_78 {r37 : zj_K} (h37 : zj_KC cX12_odds RX12 7 (6) (some .long) (0, fun _ => 0) 37 r37) : zj_KC cX12_odds RX12 7 (6) (some .long) (0, fun _ => 0) 78 (zb_X12_odds_78 r37) := (zr_ladd dX12_odds_78 (zr_lst dX12_odds_79 (zr_aldn dX12_odds_81 rfl (zr_callV dX12_odds_82 zm_X12_goesBack ⟨⟨zq_1229, zq_77⟩, by decide +kernel, by omega, by decide⟩ rfl rfl zq_1226 zq_1228 zq_50 (zr_inc dX12_odds_85 rfl (zr_goto dX12_odds_88 (tgt := 37) (by decide) h37)) zr_no))))
def zb_X12_odds_37 (r37 : zj_K) (E : zj_E) (st : List Value) (m : zj_M) : zj_R := (zi_ild 6 (zi_push (.int 4) (zi_clt (zi_ald 0 (zi_vc 12 0 zf_X12_keeps (zi_ald 0 (zi_gf 12 1 (zi_push (.int 8) (zi_ild 1 (zi_b (fun x y => x + y) (zi_ild 6 (zi_iast (zi_ald 0 (zi_ild 2 (zi_vc 12 1 zf_X12_goesOn (zi_lld 4 (zi_ald 0 (zi_ild 1 (zi_vc 12 1 zf_X12_isStray (zi_eq (zi_push (.long 0) (zb_X12_odds_78 r37)) (zi_push (.long 1) (zb_X12_odds_78 r37))) zi_no)))) zi_no)))))))))) zi_no)) (zi_lld 4 (zi_push (.long 4) (zi_ild 3 (zi_call 3 zf_X12_lowest (zi_ret (some .long))))))))) E st m
set_option maxRecDepth 20000 in
theorem zs_X12_odds_37 {r37 : zj_K} (h37 : zj_KC cX12_odds RX12 7 (6) (some .long) (0, fun _ => 0) 37 r37) : zj_KC cX12_odds RX12 7 (6) (some .long) (0, fun _ => 0) 37 (zb_X12_odds_37 r37) := (zr_ild dX12_odds_37 (zr_iconst dX12_odds_39 rfl (zr_icge dX12_odds_40 (tgt := 91) (by decide) (zr_lld dX12_odds_91 (zr_ldc2 dX12_odds_93 zq_1295 (zr_ildn dX12_odds_96 rfl (zr_callS dX12_odds_97 zm_X12_lowest ⟨⟨zq_1298, zq_77⟩, by decide +kernel, by omega, by decide⟩ zq_1296 zq_1297 (zr_ret dX12_odds_100))))) (zr_aldn dX12_odds_43 rfl (zr_callV dX12_odds_44 zm_X12_keeps ⟨⟨zq_1213, zq_77⟩, by decide +kernel, by omega, by decide⟩ rfl rfl zq_1210 zq_1212 zq_46 (zr_aldn dX12_odds_47 rfl (zr_gf dX12_odds_48 zfl_X12_9_12 (zr_bipush dX12_odds_51 rfl (zr_ildn dX12_odds_53 rfl (zr_iadd dX12_odds_54 (zr_ild dX12_odds_55 (zr_iast dX12_odds_57 (zr_aldn dX12_odds_58 rfl (zr_ildn dX12_odds_59 rfl (zr_callV dX12_odds_60 zm_X12_goesOn ⟨⟨zq_1241, zq_77⟩, by decide +kernel, by omega, by decide⟩ rfl rfl zq_1238 zq_1240 zq_52 (zr_lld dX12_odds_63 (zr_aldn dX12_odds_65 rfl (zr_ildn dX12_odds_66 rfl (zr_callV dX12_odds_67 zm_X12_isStray ⟨⟨zq_1149, zq_77⟩, by decide +kernel, by omega, by decide⟩ rfl rfl zq_1146 zq_1148 zq_34 (zr_ifeq dX12_odds_70 (tgt := 77) (by decide) (zr_lconst dX12_odds_77 rfl (zs_X12_odds_78 h37)) (zr_lconst dX12_odds_73 rfl (zr_goto dX12_odds_74 (tgt := 78) (by decide) (zs_X12_odds_78 h37)))) zr_no)))) zr_no)))))))))) zr_no)))))
def zb_X12_odds_0 (E : zj_E) (st : List Value) (m : zj_M) : zj_R := (zi_ald 0 (zi_ild 1 (zi_vc 12 1 zf_X12_isWalker (zi_eq zb_X12_odds_27 (zi_ild 2 (zi_push (.int 0) (zi_push (.int 60) (zi_call 3 zf_X12_in (zi_eq zb_X12_odds_27 (zi_ild 3 (zi_push (.int 0) (zi_push (.int 1) (zi_call 3 zf_X12_in (zi_eq zb_X12_odds_27 (zi_push (.long 0) (zi_lst 4 (zi_push (.int 0) (zi_ist 6 (zj_lp (zb_X12_odds_37) zj_fu)))))))))))))))) zi_no))) E st m
set_option maxRecDepth 20000 in
theorem zs_X12_odds_0 : zj_KC cX12_odds RX12 7 (6) (some .long) (0, fun _ => 0) 0 (zb_X12_odds_0) := (zr_aldn dX12_odds_0 rfl (zr_ildn dX12_odds_1 rfl (zr_callV dX12_odds_2 zm_X12_isWalker ⟨⟨zq_1144, zq_77⟩, by decide +kernel, by omega, by decide⟩ rfl rfl zq_1141 zq_1143 zq_33 (zr_ifeq dX12_odds_5 (tgt := 27) (by decide) (zs_X12_odds_27) (zr_ildn dX12_odds_8 rfl (zr_iconst dX12_odds_9 rfl (zr_bipush dX12_odds_10 rfl (zr_callS dX12_odds_12 zm_X12_in ⟨⟨zq_1054, zq_77⟩, by decide +kernel, by omega, by decide⟩ zq_1052 zq_1053 (zr_ifeq dX12_odds_15 (tgt := 27) (by decide) (zs_X12_odds_27) (zr_ildn dX12_odds_18 rfl (zr_iconst dX12_odds_19 rfl (zr_iconst dX12_odds_20 rfl (zr_callS dX12_odds_21 zm_X12_in ⟨⟨zq_1054, zq_77⟩, by decide +kernel, by omega, by decide⟩ zq_1052 zq_1053 (zr_ifne dX12_odds_24 (tgt := 31) (by decide) (zr_lconst dX12_odds_31 rfl (zr_lst dX12_odds_32 (zr_iconst dX12_odds_34 rfl (zr_ist dX12_odds_35 (zr_lp (fun _ h => zs_X12_odds_37 h) zj_fu))))) (zs_X12_odds_27)))))))))))) zr_no)))
def zf_X12_odds : zj_F := zj_run 7 zb_X12_odds_0
theorem zm_X12_odds : zj_MS 6 yX12_odds cX12_odds 7 (some .long) zf_X12_odds := zj_met (own := RX12) rfl (by decide +kernel) (Or.inr (Or.inr (Or.inr (Or.inl rfl)))) (zs_X12_odds_0)
theorem dX12_mean_0 : decode cX12_mean 0 = .ok (.iload_n 1, 1) := by decide +kernel
theorem dX12_mean_1 : decode cX12_mean 1 = .ok (.iconst 0, 1) := by decide +kernel
theorem dX12_mean_2 : decode cX12_mean 2 = .ok (.bipush 60, 2) := by decide +kernel
theorem dX12_mean_4 : decode cX12_mean 4 = .ok (.invokestatic 47, 3) := by decide +kernel
theorem dX12_mean_7 : decode cX12_mean 7 = .ok (.ifCond .eq 22, 3) := by decide +kernel
theorem dX12_mean_10 : decode cX12_mean 10 = .ok (.iload_n 2, 1) := by decide +kernel
theorem dX12_mean_11 : decode cX12_mean 11 = .ok (.iconst 0, 1) := by decide +kernel
theorem dX12_mean_12 : decode cX12_mean 12 = .ok (.iconst 1, 1) := by decide +kernel
theorem dX12_mean_13 : decode cX12_mean 13 = .ok (.invokestatic 47, 3) := by decide +kernel
theorem dX12_mean_16 : decode cX12_mean 16 = .ok (.ifCond .eq 13, 3) := by decide +kernel
theorem dX12_mean_19 : decode cX12_mean 19 = .ok (.aload_n 0, 1) := by decide +kernel
theorem dX12_mean_20 : decode cX12_mean 20 = .ok (.getfield 9, 3) := by decide +kernel
theorem dX12_mean_23 : decode cX12_mean 23 = .ok (.bipush 26, 2) := by decide +kernel
theorem dX12_mean_25 : decode cX12_mean 25 = .ok (.iaload, 1) := by decide +kernel
theorem dX12_mean_26 : decode cX12_mean 26 = .ok (.ifCond .ne 7, 3) := by decide +kernel
theorem dX12_mean_29 : decode cX12_mean 29 = .ok (.ldc2_w 216, 3) := by decide +kernel
theorem dX12_mean_32 : decode cX12_mean 32 = .ok (.lreturn, 1) := by decide +kernel
theorem dX12_mean_33 : decode cX12_mean 33 = .ok (.aload_n 0, 1) := by decide +kernel
theorem dX12_mean_34 : decode cX12_mean 34 = .ok (.invokevirtual 179, 3) := by decide +kernel
theorem dX12_mean_37 : decode cX12_mean 37 = .ok (.i2l, 1) := by decide +kernel
theorem dX12_mean_38 : decode cX12_mean 38 = .ok (.lstore_n 3, 1) := by decide +kernel
theorem dX12_mean_39 : decode cX12_mean 39 = .ok (.aload_n 0, 1) := by decide +kernel
theorem dX12_mean_40 : decode cX12_mean 40 = .ok (.invokevirtual 198, 3) := by decide +kernel
theorem dX12_mean_43 : decode cX12_mean 43 = .ok (.aload_n 0, 1) := by decide +kernel
theorem dX12_mean_44 : decode cX12_mean 44 = .ok (.iload_n 1, 1) := by decide +kernel
theorem dX12_mean_45 : decode cX12_mean 45 = .ok (.invokevirtual 195, 3) := by decide +kernel
theorem dX12_mean_48 : decode cX12_mean 48 = .ok (.aload_n 0, 1) := by decide +kernel
theorem dX12_mean_49 : decode cX12_mean 49 = .ok (.invokevirtual 179, 3) := by decide +kernel
theorem dX12_mean_52 : decode cX12_mean 52 = .ok (.i2l, 1) := by decide +kernel
theorem dX12_mean_53 : decode cX12_mean 53 = .ok (.lload_n 3, 1) := by decide +kernel
theorem dX12_mean_54 : decode cX12_mean 54 = .ok (.lsub, 1) := by decide +kernel
theorem dX12_mean_55 : decode cX12_mean 55 = .ok (.lstore 5, 2) := by decide +kernel
theorem dX12_mean_57 : decode cX12_mean 57 = .ok (.aload_n 0, 1) := by decide +kernel
theorem dX12_mean_58 : decode cX12_mean 58 = .ok (.invokevirtual 201, 3) := by decide +kernel
theorem dX12_mean_61 : decode cX12_mean 61 = .ok (.lload 5, 2) := by decide +kernel
theorem dX12_mean_63 : decode cX12_mean 63 = .ok (.aload_n 0, 1) := by decide +kernel
theorem dX12_mean_64 : decode cX12_mean 64 = .ok (.getfield 9, 3) := by decide +kernel
theorem dX12_mean_67 : decode cX12_mean 67 = .ok (.bipush 26, 2) := by decide +kernel
theorem dX12_mean_69 : decode cX12_mean 69 = .ok (.iaload, 1) := by decide +kernel
theorem dX12_mean_70 : decode cX12_mean 70 = .ok (.i2l, 1) := by decide +kernel
theorem dX12_mean_71 : decode cX12_mean 71 = .ok (.iload_n 2, 1) := by decide +kernel
theorem dX12_mean_72 : decode cX12_mean 72 = .ok (.invokestatic 220, 3) := by decide +kernel
theorem dX12_mean_75 : decode cX12_mean 75 = .ok (.lreturn, 1) := by decide +kernel
def zb_X12_mean_29 (E : zj_E) (st : List Value) (m : zj_M) : zj_R := (zi_push (.long (-9223372036854775808)) (zi_ret (some .long))) E st m
set_option maxRecDepth 20000 in
theorem zs_X12_mean_29 : zj_KC cX12_mean RX12 7 (6) (some .long) (0, fun _ => 0) 29 (zb_X12_mean_29) := (zr_ldc2 dX12_mean_29 zq_1294 (zr_ret dX12_mean_32))
def zb_X12_mean_0 (E : zj_E) (st : List Value) (m : zj_M) : zj_R := (zi_ild 1 (zi_push (.int 0) (zi_push (.int 60) (zi_call 3 zf_X12_in (zi_eq zb_X12_mean_29 (zi_ild 2 (zi_push (.int 0) (zi_push (.int 1) (zi_call 3 zf_X12_in (zi_eq zb_X12_mean_29 (zi_ald 0 (zi_gf 12 1 (zi_push (.int 26) (zi_iald (zi_eq zb_X12_mean_29 (zi_ald 0 (zi_vc 12 0 zf_X12_allMoved (zi_i2l (zi_lst 3 (zi_ald 0 (zi_vc 12 0 zf_X12_keeps (zi_ald 0 (zi_ild 1 (zi_vc 12 1 zf_X12_goesOn (zi_ald 0 (zi_vc 12 0 zf_X12_allMoved (zi_i2l (zi_lld 3 (zi_lb (fun x y => x - y) (zi_lst 5 (zi_ald 0 (zi_vc 12 0 zf_X12_goesBack (zi_lld 5 (zi_ald 0 (zi_gf 12 1 (zi_push (.int 26) (zi_iald (zi_i2l (zi_ild 2 (zi_call 3 zf_X12_lowest (zi_ret (some .long)))))))))) zi_no)))))) zi_no)) zi_no))) zi_no)))) zi_no))))))))))))))))) E st m
set_option maxRecDepth 20000 in
theorem zs_X12_mean_0 : zj_KC cX12_mean RX12 7 (6) (some .long) (0, fun _ => 0) 0 (zb_X12_mean_0) := (zr_ildn dX12_mean_0 rfl (zr_iconst dX12_mean_1 rfl (zr_bipush dX12_mean_2 rfl (zr_callS dX12_mean_4 zm_X12_in ⟨⟨zq_1054, zq_77⟩, by decide +kernel, by omega, by decide⟩ zq_1052 zq_1053 (zr_ifeq dX12_mean_7 (tgt := 29) (by decide) (zs_X12_mean_29) (zr_ildn dX12_mean_10 rfl (zr_iconst dX12_mean_11 rfl (zr_iconst dX12_mean_12 rfl (zr_callS dX12_mean_13 zm_X12_in ⟨⟨zq_1054, zq_77⟩, by decide +kernel, by omega, by decide⟩ zq_1052 zq_1053 (zr_ifeq dX12_mean_16 (tgt := 29) (by decide) (zs_X12_mean_29) (zr_aldn dX12_mean_19 rfl (zr_gf dX12_mean_20 zfl_X12_9_12 (zr_bipush dX12_mean_23 rfl (zr_iald dX12_mean_25 (zr_ifne dX12_mean_26 (tgt := 33) (by decide) (zr_aldn dX12_mean_33 rfl (zr_callV dX12_mean_34 zm_X12_allMoved ⟨⟨zq_1205, zq_77⟩, by decide +kernel, by omega, by decide⟩ rfl rfl zq_1202 zq_1204 zq_44 (zr_i2l dX12_mean_37 (zr_lstn dX12_mean_38 rfl (zr_aldn dX12_mean_39 rfl (zr_callV dX12_mean_40 zm_X12_keeps ⟨⟨zq_1213, zq_77⟩, by decide +kernel, by omega, by decide⟩ rfl rfl zq_1210 zq_1212 zq_46 (zr_aldn dX12_mean_43 rfl (zr_ildn dX12_mean_44 rfl (zr_callV dX12_mean_45 zm_X12_goesOn ⟨⟨zq_1241, zq_77⟩, by decide +kernel, by omega, by decide⟩ rfl rfl zq_1238 zq_1240 zq_52 (zr_aldn dX12_mean_48 rfl (zr_callV dX12_mean_49 zm_X12_allMoved ⟨⟨zq_1205, zq_77⟩, by decide +kernel, by omega, by decide⟩ rfl rfl zq_1202 zq_1204 zq_44 (zr_i2l dX12_mean_52 (zr_lldn dX12_mean_53 rfl (zr_lsub dX12_mean_54 (zr_lst dX12_mean_55 (zr_aldn dX12_mean_57 rfl (zr_callV dX12_mean_58 zm_X12_goesBack ⟨⟨zq_1229, zq_77⟩, by decide +kernel, by omega, by decide⟩ rfl rfl zq_1226 zq_1228 zq_50 (zr_lld dX12_mean_61 (zr_aldn dX12_mean_63 rfl (zr_gf dX12_mean_64 zfl_X12_9_12 (zr_bipush dX12_mean_67 rfl (zr_iald dX12_mean_69 (zr_i2l dX12_mean_70 (zr_ildn dX12_mean_71 rfl (zr_callS dX12_mean_72 zm_X12_lowest ⟨⟨zq_1298, zq_77⟩, by decide +kernel, by omega, by decide⟩ zq_1296 zq_1297 (zr_ret dX12_mean_75))))))))) zr_no)))))) zr_no)) zr_no))) zr_no)))) zr_no)) (zs_X12_mean_29))))))))))))))))
def zf_X12_mean : zj_F := zj_run 7 zb_X12_mean_0
theorem zm_X12_mean : zj_MS 6 yX12_mean cX12_mean 7 (some .long) zf_X12_mean := zj_met (own := RX12) rfl (by decide +kernel) (Or.inr (Or.inr (Or.inr (Or.inl rfl)))) (zs_X12_mean_0)
theorem dX12_plan_0 : decode cX12_plan 0 = .ok (.iload_n 1, 1) := by decide +kernel
theorem dX12_plan_1 : decode cX12_plan 1 = .ok (.iconst (-1), 1) := by decide +kernel
theorem dX12_plan_2 : decode cX12_plan 2 = .ok (.if_icmp .ne 13, 3) := by decide +kernel
theorem dX12_plan_5 : decode cX12_plan 5 = .ok (.aload_n 0, 1) := by decide +kernel
theorem dX12_plan_6 : decode cX12_plan 6 = .ok (.getfield 9, 3) := by decide +kernel
theorem dX12_plan_9 : decode cX12_plan 9 = .ok (.bipush 29, 2) := by decide +kernel
theorem dX12_plan_11 : decode cX12_plan 11 = .ok (.iconst 0, 1) := by decide +kernel
theorem dX12_plan_12 : decode cX12_plan 12 = .ok (.iastore, 1) := by decide +kernel
theorem dX12_plan_13 : decode cX12_plan 13 = .ok (.iconst 0, 1) := by decide +kernel
theorem dX12_plan_14 : decode cX12_plan 14 = .ok (.ireturn, 1) := by decide +kernel
theorem dX12_plan_15 : decode cX12_plan 15 = .ok (.iload_n 1, 1) := by decide +kernel
theorem dX12_plan_16 : decode cX12_plan 16 = .ok (.iconst 0, 1) := by decide +kernel
theorem dX12_plan_17 : decode cX12_plan 17 = .ok (.iconst 3, 1) := by decide +kernel
theorem dX12_plan_18 : decode cX12_plan 18 = .ok (.invokestatic 47, 3) := by decide +kernel
theorem dX12_plan_21 : decode cX12_plan 21 = .ok (.ifCond .eq 32, 3) := by decide +kernel
theorem dX12_plan_24 : decode cX12_plan 24 = .ok (.iload_n 1, 1) := by decide +kernel
theorem dX12_plan_25 : decode cX12_plan 25 = .ok (.iconst 1, 1) := by decide +kernel
theorem dX12_plan_26 : decode cX12_plan 26 = .ok (.iconst 2, 1) := by decide +kernel
theorem dX12_plan_27 : decode cX12_plan 27 = .ok (.invokestatic 47, 3) := by decide +kernel
theorem dX12_plan_30 : decode cX12_plan 30 = .ok (.ifCond .eq 11, 3) := by decide +kernel
theorem dX12_plan_33 : decode cX12_plan 33 = .ok (.aload_n 0, 1) := by decide +kernel
theorem dX12_plan_34 : decode cX12_plan 34 = .ok (.iload_n 2, 1) := by decide +kernel
theorem dX12_plan_35 : decode cX12_plan 35 = .ok (.invokevirtual 166, 3) := by decide +kernel
theorem dX12_plan_38 : decode cX12_plan 38 = .ok (.ifCond .eq 15, 3) := by decide +kernel
theorem dX12_plan_41 : decode cX12_plan 41 = .ok (.iload_n 1, 1) := by decide +kernel
theorem dX12_plan_42 : decode cX12_plan 42 = .ok (.iconst 3, 1) := by decide +kernel
theorem dX12_plan_43 : decode cX12_plan 43 = .ok (.if_icmp .ne 12, 3) := by decide +kernel
theorem dX12_plan_46 : decode cX12_plan 46 = .ok (.iload_n 2, 1) := by decide +kernel
theorem dX12_plan_47 : decode cX12_plan 47 = .ok (.invokestatic 163, 3) := by decide +kernel
theorem dX12_plan_50 : decode cX12_plan 50 = .ok (.ifCond .ne 5, 3) := by decide +kernel
theorem dX12_plan_53 : decode cX12_plan 53 = .ok (.iconst (-1), 1) := by decide +kernel
theorem dX12_plan_54 : decode cX12_plan 54 = .ok (.ireturn, 1) := by decide +kernel
theorem dX12_plan_55 : decode cX12_plan 55 = .ok (.aload_n 0, 1) := by decide +kernel
theorem dX12_plan_56 : decode cX12_plan 56 = .ok (.getfield 9, 3) := by decide +kernel
theorem dX12_plan_59 : decode cX12_plan 59 = .ok (.bipush 29, 2) := by decide +kernel
theorem dX12_plan_61 : decode cX12_plan 61 = .ok (.iaload, 1) := by decide +kernel
theorem dX12_plan_62 : decode cX12_plan 62 = .ok (.bipush 8, 2) := by decide +kernel
theorem dX12_plan_64 : decode cX12_plan 64 = .ok (.if_icmp .ne 6, 3) := by decide +kernel
theorem dX12_plan_67 : decode cX12_plan 67 = .ok (.bipush (-4), 2) := by decide +kernel
theorem dX12_plan_69 : decode cX12_plan 69 = .ok (.ireturn, 1) := by decide +kernel
theorem dX12_plan_70 : decode cX12_plan 70 = .ok (.aload_n 0, 1) := by decide +kernel
theorem dX12_plan_71 : decode cX12_plan 71 = .ok (.getfield 9, 3) := by decide +kernel
theorem dX12_plan_74 : decode cX12_plan 74 = .ok (.bipush 91, 2) := by decide +kernel
theorem dX12_plan_76 : decode cX12_plan 76 = .ok (.aload_n 0, 1) := by decide +kernel
theorem dX12_plan_77 : decode cX12_plan 77 = .ok (.getfield 9, 3) := by decide +kernel
theorem dX12_plan_80 : decode cX12_plan 80 = .ok (.bipush 29, 2) := by decide +kernel
theorem dX12_plan_82 : decode cX12_plan 82 = .ok (.iaload, 1) := by decide +kernel
theorem dX12_plan_83 : decode cX12_plan 83 = .ok (.iadd, 1) := by decide +kernel
theorem dX12_plan_84 : decode cX12_plan 84 = .ok (.iload_n 1, 1) := by decide +kernel
theorem dX12_plan_85 : decode cX12_plan 85 = .ok (.iastore, 1) := by decide +kernel
theorem dX12_plan_86 : decode cX12_plan 86 = .ok (.aload_n 0, 1) := by decide +kernel
theorem dX12_plan_87 : decode cX12_plan 87 = .ok (.getfield 9, 3) := by decide +kernel
theorem dX12_plan_90 : decode cX12_plan 90 = .ok (.bipush 99, 2) := by decide +kernel
theorem dX12_plan_92 : decode cX12_plan 92 = .ok (.aload_n 0, 1) := by decide +kernel
theorem dX12_plan_93 : decode cX12_plan 93 = .ok (.getfield 9, 3) := by decide +kernel
theorem dX12_plan_96 : decode cX12_plan 96 = .ok (.bipush 29, 2) := by decide +kernel
theorem dX12_plan_98 : decode cX12_plan 98 = .ok (.iaload, 1) := by decide +kernel
theorem dX12_plan_99 : decode cX12_plan 99 = .ok (.iadd, 1) := by decide +kernel
theorem dX12_plan_100 : decode cX12_plan 100 = .ok (.iload_n 2, 1) := by decide +kernel
theorem dX12_plan_101 : decode cX12_plan 101 = .ok (.iastore, 1) := by decide +kernel
theorem dX12_plan_102 : decode cX12_plan 102 = .ok (.aload_n 0, 1) := by decide +kernel
theorem dX12_plan_103 : decode cX12_plan 103 = .ok (.getfield 9, 3) := by decide +kernel
theorem dX12_plan_106 : decode cX12_plan 106 = .ok (.bipush 29, 2) := by decide +kernel
theorem dX12_plan_108 : decode cX12_plan 108 = .ok (.dup2, 1) := by decide +kernel
theorem dX12_plan_109 : decode cX12_plan 109 = .ok (.iaload, 1) := by decide +kernel
theorem dX12_plan_110 : decode cX12_plan 110 = .ok (.iconst 1, 1) := by decide +kernel
theorem dX12_plan_111 : decode cX12_plan 111 = .ok (.iadd, 1) := by decide +kernel
theorem dX12_plan_112 : decode cX12_plan 112 = .ok (.iastore, 1) := by decide +kernel
theorem dX12_plan_113 : decode cX12_plan 113 = .ok (.aload_n 0, 1) := by decide +kernel
theorem dX12_plan_114 : decode cX12_plan 114 = .ok (.getfield 9, 3) := by decide +kernel
theorem dX12_plan_117 : decode cX12_plan 117 = .ok (.bipush 29, 2) := by decide +kernel
theorem dX12_plan_119 : decode cX12_plan 119 = .ok (.iaload, 1) := by decide +kernel
theorem dX12_plan_120 : decode cX12_plan 120 = .ok (.ireturn, 1) := by decide +kernel
def zb_X12_plan_53 (E : zj_E) (st : List Value) (m : zj_M) : zj_R := (zi_push (.int (-1)) (zi_ret (some .int))) E st m
set_option maxRecDepth 20000 in
theorem zs_X12_plan_53 : zj_KC cX12_plan RX12 3 (2) (some .int) (0, fun _ => 0) 53 (zb_X12_plan_53) := (zr_iconst dX12_plan_53 rfl (zr_ret dX12_plan_54))
def zb_X12_plan_55 (E : zj_E) (st : List Value) (m : zj_M) : zj_R := (zi_ald 0 (zi_gf 12 1 (zi_push (.int 29) (zi_iald (zi_push (.int 8) (zi_ceq (zi_push (.int (-4)) (zi_ret (some .int))) (zi_ald 0 (zi_gf 12 1 (zi_push (.int 91) (zi_ald 0 (zi_gf 12 1 (zi_push (.int 29) (zi_iald (zi_b (fun x y => x + y) (zi_ild 1 (zi_iast (zi_ald 0 (zi_gf 12 1 (zi_push (.int 99) (zi_ald 0 (zi_gf 12 1 (zi_push (.int 29) (zi_iald (zi_b (fun x y => x + y) (zi_ild 2 (zi_iast (zi_ald 0 (zi_gf 12 1 (zi_push (.int 29) (zi_dup2 (zi_iald (zi_push (.int 1) (zi_b (fun x y => x + y) (zi_iast (zi_ald 0 (zi_gf 12 1 (zi_push (.int 29) (zi_iald (zi_ret (some .int)))))))))))))))))))))))))))))))))))))))) E st m
set_option maxRecDepth 20000 in
theorem zs_X12_plan_55 : zj_KC cX12_plan RX12 3 (2) (some .int) (0, fun _ => 0) 55 (zb_X12_plan_55) := (zr_aldn dX12_plan_55 rfl (zr_gf dX12_plan_56 zfl_X12_9_12 (zr_bipush dX12_plan_59 rfl (zr_iald dX12_plan_61 (zr_bipush dX12_plan_62 rfl (zr_icne dX12_plan_64 (tgt := 70) (by decide) (zr_aldn dX12_plan_70 rfl (zr_gf dX12_plan_71 zfl_X12_9_12 (zr_bipush dX12_plan_74 rfl (zr_aldn dX12_plan_76 rfl (zr_gf dX12_plan_77 zfl_X12_9_12 (zr_bipush dX12_plan_80 rfl (zr_iald dX12_plan_82 (zr_iadd dX12_plan_83 (zr_ildn dX12_plan_84 rfl (zr_iast dX12_plan_85 (zr_aldn dX12_plan_86 rfl (zr_gf dX12_plan_87 zfl_X12_9_12 (zr_bipush dX12_plan_90 rfl (zr_aldn dX12_plan_92 rfl (zr_gf dX12_plan_93 zfl_X12_9_12 (zr_bipush dX12_plan_96 rfl (zr_iald dX12_plan_98 (zr_iadd dX12_plan_99 (zr_ildn dX12_plan_100 rfl (zr_iast dX12_plan_101 (zr_aldn dX12_plan_102 rfl (zr_gf dX12_plan_103 zfl_X12_9_12 (zr_bipush dX12_plan_106 rfl (zr_dup2 dX12_plan_108 (zr_iald dX12_plan_109 (zr_iconst dX12_plan_110 rfl (zr_iadd dX12_plan_111 (zr_iast dX12_plan_112 (zr_aldn dX12_plan_113 rfl (zr_gf dX12_plan_114 zfl_X12_9_12 (zr_bipush dX12_plan_117 rfl (zr_iald dX12_plan_119 (zr_ret dX12_plan_120))))))))))))))))))))))))))))))))) (zr_bipush dX12_plan_67 rfl (zr_ret dX12_plan_69))))))))
def zb_X12_plan_41 (E : zj_E) (st : List Value) (m : zj_M) : zj_R := (zi_ild 1 (zi_push (.int 3) (zi_ceq (zi_ild 2 (zi_call 1 zf_X12_isCell (zi_eq zb_X12_plan_53 zb_X12_plan_55))) zb_X12_plan_55))) E st m
set_option maxRecDepth 20000 in
theorem zs_X12_plan_41 : zj_KC cX12_plan RX12 3 (2) (some .int) (0, fun _ => 0) 41 (zb_X12_plan_41) := (zr_ildn dX12_plan_41 rfl (zr_iconst dX12_plan_42 rfl (zr_icne dX12_plan_43 (tgt := 55) (by decide) (zs_X12_plan_55) (zr_ildn dX12_plan_46 rfl (zr_callS dX12_plan_47 zm_X12_isCell ⟨⟨zq_1136, zq_77⟩, by decide +kernel, by omega, by decide⟩ zq_1134 zq_1135 (zr_ifne dX12_plan_50 (tgt := 55) (by decide) (zs_X12_plan_55) (zs_X12_plan_53)))))))
def zb_X12_plan_0 (E : zj_E) (st : List Value) (m : zj_M) : zj_R := (zi_ild 1 (zi_push (.int (-1)) (zi_ceq (zi_ald 0 (zi_gf 12 1 (zi_push (.int 29) (zi_push (.int 0) (zi_iast (zi_push (.int 0) (zi_ret (some .int)))))))) (zi_ild 1 (zi_push (.int 0) (zi_push (.int 3) (zi_call 3 zf_X12_in (zi_eq zb_X12_plan_53 (zi_ild 1 (zi_push (.int 1) (zi_push (.int 2) (zi_call 3 zf_X12_in (zi_eq zb_X12_plan_41 (zi_ald 0 (zi_ild 2 (zi_vc 12 1 zf_X12_isWalker (zi_eq zb_X12_plan_53 zb_X12_plan_41) zi_no)))))))))))))))) E st m
set_option maxRecDepth 20000 in
theorem zs_X12_plan_0 : zj_KC cX12_plan RX12 3 (2) (some .int) (0, fun _ => 0) 0 (zb_X12_plan_0) := (zr_ildn dX12_plan_0 rfl (zr_iconst dX12_plan_1 rfl (zr_icne dX12_plan_2 (tgt := 15) (by decide) (zr_ildn dX12_plan_15 rfl (zr_iconst dX12_plan_16 rfl (zr_iconst dX12_plan_17 rfl (zr_callS dX12_plan_18 zm_X12_in ⟨⟨zq_1054, zq_77⟩, by decide +kernel, by omega, by decide⟩ zq_1052 zq_1053 (zr_ifeq dX12_plan_21 (tgt := 53) (by decide) (zs_X12_plan_53) (zr_ildn dX12_plan_24 rfl (zr_iconst dX12_plan_25 rfl (zr_iconst dX12_plan_26 rfl (zr_callS dX12_plan_27 zm_X12_in ⟨⟨zq_1054, zq_77⟩, by decide +kernel, by omega, by decide⟩ zq_1052 zq_1053 (zr_ifeq dX12_plan_30 (tgt := 41) (by decide) (zs_X12_plan_41) (zr_aldn dX12_plan_33 rfl (zr_ildn dX12_plan_34 rfl (zr_callV dX12_plan_35 zm_X12_isWalker ⟨⟨zq_1144, zq_77⟩, by decide +kernel, by omega, by decide⟩ rfl rfl zq_1141 zq_1143 zq_33 (zr_ifeq dX12_plan_38 (tgt := 53) (by decide) (zs_X12_plan_53) (zs_X12_plan_41)) zr_no))))))))))))) (zr_aldn dX12_plan_5 rfl (zr_gf dX12_plan_6 zfl_X12_9_12 (zr_bipush dX12_plan_9 rfl (zr_iconst dX12_plan_11 rfl (zr_iast dX12_plan_12 (zr_iconst dX12_plan_13 rfl (zr_ret dX12_plan_14))))))))))
def zf_X12_plan : zj_F := zj_run 3 zb_X12_plan_0
theorem zm_X12_plan : zj_MS 2 yX12_plan cX12_plan 3 (some .int) zf_X12_plan := zj_met (own := RX12) rfl (by decide +kernel) (Or.inr (Or.inl rfl)) (zs_X12_plan_0)
theorem dX12_goesBy_0 : decode cX12_goesBy 0 = .ok (.iload_n 1, 1) := by decide +kernel
theorem dX12_goesBy_1 : decode cX12_goesBy 1 = .ok (.ifCond .ne 10, 3) := by decide +kernel
theorem dX12_goesBy_4 : decode cX12_goesBy 4 = .ok (.aload_n 0, 1) := by decide +kernel
theorem dX12_goesBy_5 : decode cX12_goesBy 5 = .ok (.invokevirtual 192, 3) := by decide +kernel
theorem dX12_goesBy_8 : decode cX12_goesBy 8 = .ok (.goto 42, 3) := by decide +kernel
theorem dX12_goesBy_11 : decode cX12_goesBy 11 = .ok (.iload_n 1, 1) := by decide +kernel
theorem dX12_goesBy_12 : decode cX12_goesBy 12 = .ok (.iconst 3, 1) := by decide +kernel
theorem dX12_goesBy_13 : decode cX12_goesBy 13 = .ok (.if_icmp .ne 18, 3) := by decide +kernel
theorem dX12_goesBy_16 : decode cX12_goesBy 16 = .ok (.aload_n 0, 1) := by decide +kernel
theorem dX12_goesBy_17 : decode cX12_goesBy 17 = .ok (.getfield 9, 3) := by decide +kernel
theorem dX12_goesBy_20 : decode cX12_goesBy 20 = .ok (.iconst 1, 1) := by decide +kernel
theorem dX12_goesBy_21 : decode cX12_goesBy 21 = .ok (.dup2, 1) := by decide +kernel
theorem dX12_goesBy_22 : decode cX12_goesBy 22 = .ok (.iaload, 1) := by decide +kernel
theorem dX12_goesBy_23 : decode cX12_goesBy 23 = .ok (.iconst 1, 1) := by decide +kernel
theorem dX12_goesBy_24 : decode cX12_goesBy 24 = .ok (.iload_n 2, 1) := by decide +kernel
theorem dX12_goesBy_25 : decode cX12_goesBy 25 = .ok (.ishl, 1) := by decide +kernel
theorem dX12_goesBy_26 : decode cX12_goesBy 26 = .ok (.ixor, 1) := by decide +kernel
theorem dX12_goesBy_27 : decode cX12_goesBy 27 = .ok (.iastore, 1) := by decide +kernel
theorem dX12_goesBy_28 : decode cX12_goesBy 28 = .ok (.goto 22, 3) := by decide +kernel
theorem dX12_goesBy_31 : decode cX12_goesBy 31 = .ok (.aload_n 0, 1) := by decide +kernel
theorem dX12_goesBy_32 : decode cX12_goesBy 32 = .ok (.getfield 9, 3) := by decide +kernel
theorem dX12_goesBy_35 : decode cX12_goesBy 35 = .ok (.bipush 14, 2) := by decide +kernel
theorem dX12_goesBy_37 : decode cX12_goesBy 37 = .ok (.iload_n 2, 1) := by decide +kernel
theorem dX12_goesBy_38 : decode cX12_goesBy 38 = .ok (.iadd, 1) := by decide +kernel
theorem dX12_goesBy_39 : decode cX12_goesBy 39 = .ok (.iload_n 1, 1) := by decide +kernel
theorem dX12_goesBy_40 : decode cX12_goesBy 40 = .ok (.iconst 1, 1) := by decide +kernel
theorem dX12_goesBy_41 : decode cX12_goesBy 41 = .ok (.if_icmp .ne 7, 3) := by decide +kernel
theorem dX12_goesBy_44 : decode cX12_goesBy 44 = .ok (.iconst 1, 1) := by decide +kernel
theorem dX12_goesBy_45 : decode cX12_goesBy 45 = .ok (.goto 4, 3) := by decide +kernel
theorem dX12_goesBy_48 : decode cX12_goesBy 48 = .ok (.iconst 0, 1) := by decide +kernel
theorem dX12_goesBy_49 : decode cX12_goesBy 49 = .ok (.iastore, 1) := by decide +kernel
theorem dX12_goesBy_50 : decode cX12_goesBy 50 = .ok (.return_, 1) := by decide +kernel
def zb_X12_goesBy_50 (E : zj_E) (st : List Value) (m : zj_M) : zj_R := (zi_ret none) E st m
set_option maxRecDepth 20000 in
theorem zs_X12_goesBy_50 : zj_KC cX12_goesBy RX12 3 (5) none (0, fun _ => 0) 50 (zb_X12_goesBy_50) := (zr_ret dX12_goesBy_50)
def zb_X12_goesBy_49 (E : zj_E) (st : List Value) (m : zj_M) : zj_R := (zi_iast zb_X12_goesBy_50) E st m
set_option maxRecDepth 20000 in
theorem zs_X12_goesBy_49 : zj_KC cX12_goesBy RX12 3 (5) none (0, fun _ => 0) 49 (zb_X12_goesBy_49) := (zr_iast dX12_goesBy_49 (zs_X12_goesBy_50))
def zb_X12_goesBy_0 (E : zj_E) (st : List Value) (m : zj_M) : zj_R := (zi_ild 1 (zi_eq (zi_ald 0 (zi_vc 12 0 zf_X12_goes zb_X12_goesBy_50 zi_no)) (zi_ild 1 (zi_push (.int 3) (zi_ceq (zi_ald 0 (zi_gf 12 1 (zi_push (.int 1) (zi_dup2 (zi_iald (zi_push (.int 1) (zi_ild 2 (zi_b (fun x y => x <<< (y &&& 31)) (zi_b (fun x y => x ^^^ y) (zi_iast zb_X12_goesBy_50)))))))))) (zi_ald 0 (zi_gf 12 1 (zi_push (.int 14) (zi_ild 2 (zi_b (fun x y => x + y) (zi_ild 1 (zi_push (.int 1) (zi_ceq (zi_push (.int 1) zb_X12_goesBy_49) (zi_push (.int 0) zb_X12_goesBy_49)))))))))))))) E st m
set_option maxRecDepth 20000 in
theorem zs_X12_goesBy_0 : zj_KC cX12_goesBy RX12 3 (5) none (0, fun _ => 0) 0 (zb_X12_goesBy_0) := (zr_ildn dX12_goesBy_0 rfl (zr_ifne dX12_goesBy_1 (tgt := 11) (by decide) (zr_ildn dX12_goesBy_11 rfl (zr_iconst dX12_goesBy_12 rfl (zr_icne dX12_goesBy_13 (tgt := 31) (by decide) (zr_aldn dX12_goesBy_31 rfl (zr_gf dX12_goesBy_32 zfl_X12_9_12 (zr_bipush dX12_goesBy_35 rfl (zr_ildn dX12_goesBy_37 rfl (zr_iadd dX12_goesBy_38 (zr_ildn dX12_goesBy_39 rfl (zr_iconst dX12_goesBy_40 rfl (zr_icne dX12_goesBy_41 (tgt := 48) (by decide) (zr_iconst dX12_goesBy_48 rfl (zs_X12_goesBy_49)) (zr_iconst dX12_goesBy_44 rfl (zr_goto dX12_goesBy_45 (tgt := 49) (by decide) (zs_X12_goesBy_49))))))))))) (zr_aldn dX12_goesBy_16 rfl (zr_gf dX12_goesBy_17 zfl_X12_9_12 (zr_iconst dX12_goesBy_20 rfl (zr_dup2 dX12_goesBy_21 (zr_iald dX12_goesBy_22 (zr_iconst dX12_goesBy_23 rfl (zr_ildn dX12_goesBy_24 rfl (zr_ishl dX12_goesBy_25 (zr_ixor dX12_goesBy_26 (zr_iast dX12_goesBy_27 (zr_goto dX12_goesBy_28 (tgt := 50) (by decide) (zs_X12_goesBy_50))))))))))))))) (zr_aldn dX12_goesBy_4 rfl (zr_callV dX12_goesBy_5 zm_X12_goes ⟨⟨zq_1221, zq_77⟩, by decide +kernel, by omega, by decide⟩ rfl rfl zq_1218 zq_1220 zq_48 (zr_goto dX12_goesBy_8 (tgt := 50) (by decide) (zs_X12_goesBy_50)) zr_no))))
def zf_X12_goesBy : zj_F := zj_run 3 zb_X12_goesBy_0
theorem zm_X12_goesBy : zj_MS 5 yX12_goesBy cX12_goesBy 3 none zf_X12_goesBy := zj_met (own := RX12) rfl (by decide +kernel) (Or.inl rfl) (zs_X12_goesBy_0)
theorem dX12_done_0 : decode cX12_done 0 = .ok (.iload_n 1, 1) := by decide +kernel
theorem dX12_done_1 : decode cX12_done 1 = .ok (.iconst 0, 1) := by decide +kernel
theorem dX12_done_2 : decode cX12_done 2 = .ok (.iconst 1, 1) := by decide +kernel
theorem dX12_done_3 : decode cX12_done 3 = .ok (.invokestatic 47, 3) := by decide +kernel
theorem dX12_done_6 : decode cX12_done 6 = .ok (.ifCond .ne 5, 3) := by decide +kernel
theorem dX12_done_9 : decode cX12_done 9 = .ok (.iconst (-1), 1) := by decide +kernel
theorem dX12_done_10 : decode cX12_done 10 = .ok (.ireturn, 1) := by decide +kernel
theorem dX12_done_11 : decode cX12_done 11 = .ok (.aload_n 0, 1) := by decide +kernel
theorem dX12_done_12 : decode cX12_done 12 = .ok (.invokevirtual 198, 3) := by decide +kernel
theorem dX12_done_15 : decode cX12_done 15 = .ok (.iconst 0, 1) := by decide +kernel
theorem dX12_done_16 : decode cX12_done 16 = .ok (.istore_n 2, 1) := by decide +kernel
theorem dX12_done_17 : decode cX12_done 17 = .ok (.iload_n 2, 1) := by decide +kernel
theorem dX12_done_18 : decode cX12_done 18 = .ok (.aload_n 0, 1) := by decide +kernel
theorem dX12_done_19 : decode cX12_done 19 = .ok (.getfield 9, 3) := by decide +kernel
theorem dX12_done_22 : decode cX12_done 22 = .ok (.bipush 29, 2) := by decide +kernel
theorem dX12_done_24 : decode cX12_done 24 = .ok (.iaload, 1) := by decide +kernel
theorem dX12_done_25 : decode cX12_done 25 = .ok (.if_icmp .ge 31, 3) := by decide +kernel
theorem dX12_done_28 : decode cX12_done 28 = .ok (.aload_n 0, 1) := by decide +kernel
theorem dX12_done_29 : decode cX12_done 29 = .ok (.aload_n 0, 1) := by decide +kernel
theorem dX12_done_30 : decode cX12_done 30 = .ok (.getfield 9, 3) := by decide +kernel
theorem dX12_done_33 : decode cX12_done 33 = .ok (.bipush 91, 2) := by decide +kernel
theorem dX12_done_35 : decode cX12_done 35 = .ok (.iload_n 2, 1) := by decide +kernel
theorem dX12_done_36 : decode cX12_done 36 = .ok (.iadd, 1) := by decide +kernel
theorem dX12_done_37 : decode cX12_done 37 = .ok (.iaload, 1) := by decide +kernel
theorem dX12_done_38 : decode cX12_done 38 = .ok (.aload_n 0, 1) := by decide +kernel
theorem dX12_done_39 : decode cX12_done 39 = .ok (.getfield 9, 3) := by decide +kernel
theorem dX12_done_42 : decode cX12_done 42 = .ok (.bipush 99, 2) := by decide +kernel
theorem dX12_done_44 : decode cX12_done 44 = .ok (.iload_n 2, 1) := by decide +kernel
theorem dX12_done_45 : decode cX12_done 45 = .ok (.iadd, 1) := by decide +kernel
theorem dX12_done_46 : decode cX12_done 46 = .ok (.iaload, 1) := by decide +kernel
theorem dX12_done_47 : decode cX12_done 47 = .ok (.invokevirtual 224, 3) := by decide +kernel
theorem dX12_done_50 : decode cX12_done 50 = .ok (.iinc 2 1, 3) := by decide +kernel
theorem dX12_done_53 : decode cX12_done 53 = .ok (.goto (-36), 3) := by decide +kernel
theorem dX12_done_56 : decode cX12_done 56 = .ok (.iload_n 1, 1) := by decide +kernel
theorem dX12_done_57 : decode cX12_done 57 = .ok (.ifCond .ne 10, 3) := by decide +kernel
theorem dX12_done_60 : decode cX12_done 60 = .ok (.aload_n 0, 1) := by decide +kernel
theorem dX12_done_61 : decode cX12_done 61 = .ok (.invokevirtual 176, 3) := by decide +kernel
theorem dX12_done_64 : decode cX12_done 64 = .ok (.goto 7, 3) := by decide +kernel
theorem dX12_done_67 : decode cX12_done 67 = .ok (.aload_n 0, 1) := by decide +kernel
theorem dX12_done_68 : decode cX12_done 68 = .ok (.invokevirtual 179, 3) := by decide +kernel
theorem dX12_done_71 : decode cX12_done 71 = .ok (.istore_n 2, 1) := by decide +kernel
theorem dX12_done_72 : decode cX12_done 72 = .ok (.aload_n 0, 1) := by decide +kernel
theorem dX12_done_73 : decode cX12_done 73 = .ok (.invokevirtual 201, 3) := by decide +kernel
theorem dX12_done_76 : decode cX12_done 76 = .ok (.iload_n 2, 1) := by decide +kernel
theorem dX12_done_77 : decode cX12_done 77 = .ok (.ireturn, 1) := by decide +kernel
def zb_X12_done_71 (E : zj_E) (st : List Value) (m : zj_M) : zj_R := (zi_ist 2 (zi_ald 0 (zi_vc 12 0 zf_X12_goesBack (zi_ild 2 (zi_ret (some .int))) zi_no))) E st m
set_option maxRecDepth 20000 in
theorem zs_X12_done_71 : zj_KC cX12_done RX12 3 (6) (some .int) (0, fun _ => 0) 71 (zb_X12_done_71) := (zr_istn dX12_done_71 rfl (zr_aldn dX12_done_72 rfl (zr_callV dX12_done_73 zm_X12_goesBack ⟨⟨zq_1229, zq_77⟩, by decide +kernel, by omega, by decide⟩ rfl rfl zq_1226 zq_1228 zq_50 (zr_ildn dX12_done_76 rfl (zr_ret dX12_done_77)) zr_no)))
def zb_X12_done_17 (r17 : zj_K) (E : zj_E) (st : List Value) (m : zj_M) : zj_R := (zi_ild 2 (zi_ald 0 (zi_gf 12 1 (zi_push (.int 29) (zi_iald (zi_clt (zi_ald 0 (zi_ald 0 (zi_gf 12 1 (zi_push (.int 91) (zi_ild 2 (zi_b (fun x y => x + y) (zi_iald (zi_ald 0 (zi_gf 12 1 (zi_push (.int 99) (zi_ild 2 (zi_b (fun x y => x + y) (zi_iald (zi_vc 12 2 zf_X12_goesBy (zi_inc 2 1 r17) zi_no)))))))))))))) (zi_ild 1 (zi_eq (zi_ald 0 (zi_vc 12 0 zf_X12_manyStray zb_X12_done_71 zi_no)) (zi_ald 0 (zi_vc 12 0 zf_X12_allMoved zb_X12_done_71 zi_no)))))))))) E st m
set_option maxRecDepth 20000 in
theorem zs_X12_done_17 {r17 : zj_K} (h17 : zj_KC cX12_done RX12 3 (6) (some .int) (0, fun _ => 0) 17 r17) : zj_KC cX12_done RX12 3 (6) (some .int) (0, fun _ => 0) 17 (zb_X12_done_17 r17) := (zr_ildn dX12_done_17 rfl (zr_aldn dX12_done_18 rfl (zr_gf dX12_done_19 zfl_X12_9_12 (zr_bipush dX12_done_22 rfl (zr_iald dX12_done_24 (zr_icge dX12_done_25 (tgt := 56) (by decide) (zr_ildn dX12_done_56 rfl (zr_ifne dX12_done_57 (tgt := 67) (by decide) (zr_aldn dX12_done_67 rfl (zr_callV dX12_done_68 zm_X12_allMoved ⟨⟨zq_1205, zq_77⟩, by decide +kernel, by omega, by decide⟩ rfl rfl zq_1202 zq_1204 zq_44 (zs_X12_done_71) zr_no)) (zr_aldn dX12_done_60 rfl (zr_callV dX12_done_61 zm_X12_manyStray ⟨⟨zq_1201, zq_77⟩, by decide +kernel, by omega, by decide⟩ rfl rfl zq_1198 zq_1200 zq_43 (zr_goto dX12_done_64 (tgt := 71) (by decide) (zs_X12_done_71)) zr_no)))) (zr_aldn dX12_done_28 rfl (zr_aldn dX12_done_29 rfl (zr_gf dX12_done_30 zfl_X12_9_12 (zr_bipush dX12_done_33 rfl (zr_ildn dX12_done_35 rfl (zr_iadd dX12_done_36 (zr_iald dX12_done_37 (zr_aldn dX12_done_38 rfl (zr_gf dX12_done_39 zfl_X12_9_12 (zr_bipush dX12_done_42 rfl (zr_ildn dX12_done_44 rfl (zr_iadd dX12_done_45 (zr_iald dX12_done_46 (zr_callV dX12_done_47 zm_X12_goesBy ⟨⟨zq_1314, zq_77⟩, by decide +kernel, by omega, by decide⟩ rfl rfl zq_1311 zq_1313 zq_56 (zr_inc dX12_done_50 rfl (zr_goto dX12_done_53 (tgt := 17) (by decide) h17)) zr_no))))))))))))))))))))
def zb_X12_done_0 (E : zj_E) (st : List Value) (m : zj_M) : zj_R := (zi_ild 1 (zi_push (.int 0) (zi_push (.int 1) (zi_call 3 zf_X12_in (zi_eq (zi_push (.int (-1)) (zi_ret (some .int))) (zi_ald 0 (zi_vc 12 0 zf_X12_keeps (zi_push (.int 0) (zi_ist 2 (zj_lp (zb_X12_done_17) zj_fu))) zi_no))))))) E st m
set_option maxRecDepth 20000 in
theorem zs_X12_done_0 : zj_KC cX12_done RX12 3 (6) (some .int) (0, fun _ => 0) 0 (zb_X12_done_0) := (zr_ildn dX12_done_0 rfl (zr_iconst dX12_done_1 rfl (zr_iconst dX12_done_2 rfl (zr_callS dX12_done_3 zm_X12_in ⟨⟨zq_1054, zq_77⟩, by decide +kernel, by omega, by decide⟩ zq_1052 zq_1053 (zr_ifne dX12_done_6 (tgt := 11) (by decide) (zr_aldn dX12_done_11 rfl (zr_callV dX12_done_12 zm_X12_keeps ⟨⟨zq_1213, zq_77⟩, by decide +kernel, by omega, by decide⟩ rfl rfl zq_1210 zq_1212 zq_46 (zr_iconst dX12_done_15 rfl (zr_istn dX12_done_16 rfl (zr_lp (fun _ h => zs_X12_done_17 h) zj_fu))) zr_no)) (zr_iconst dX12_done_9 rfl (zr_ret dX12_done_10)))))))
def zf_X12_done : zj_F := zj_run 3 zb_X12_done_0
theorem zm_X12_done : zj_MS 6 yX12_done cX12_done 3 (some .int) zf_X12_done := zj_met (own := RX12) rfl (by decide +kernel) (Or.inr (Or.inl rfl)) (zs_X12_done_0)
theorem dX12_book_0 : decode cX12_book 0 = .ok (.iload_n 1, 1) := by decide +kernel
theorem dX12_book_1 : decode cX12_book 1 = .ok (.iconst (-1), 1) := by decide +kernel
theorem dX12_book_2 : decode cX12_book 2 = .ok (.if_icmp .ne 13, 3) := by decide +kernel
theorem dX12_book_5 : decode cX12_book 5 = .ok (.aload_n 0, 1) := by decide +kernel
theorem dX12_book_6 : decode cX12_book 6 = .ok (.getfield 9, 3) := by decide +kernel
theorem dX12_book_9 : decode cX12_book 9 = .ok (.bipush 30, 2) := by decide +kernel
theorem dX12_book_11 : decode cX12_book 11 = .ok (.iconst 0, 1) := by decide +kernel
theorem dX12_book_12 : decode cX12_book 12 = .ok (.iastore, 1) := by decide +kernel
theorem dX12_book_13 : decode cX12_book 13 = .ok (.iconst 0, 1) := by decide +kernel
theorem dX12_book_14 : decode cX12_book 14 = .ok (.ireturn, 1) := by decide +kernel
theorem dX12_book_15 : decode cX12_book 15 = .ok (.aload_n 0, 1) := by decide +kernel
theorem dX12_book_16 : decode cX12_book 16 = .ok (.iload_n 1, 1) := by decide +kernel
theorem dX12_book_17 : decode cX12_book 17 = .ok (.invokevirtual 166, 3) := by decide +kernel
theorem dX12_book_20 : decode cX12_book 20 = .ok (.ifCond .eq 10, 3) := by decide +kernel
theorem dX12_book_23 : decode cX12_book 23 = .ok (.iload_n 2, 1) := by decide +kernel
theorem dX12_book_24 : decode cX12_book 24 = .ok (.invokestatic 156, 3) := by decide +kernel
theorem dX12_book_27 : decode cX12_book 27 = .ok (.ifCond .ne 5, 3) := by decide +kernel
theorem dX12_book_30 : decode cX12_book 30 = .ok (.iconst (-1), 1) := by decide +kernel
theorem dX12_book_31 : decode cX12_book 31 = .ok (.ireturn, 1) := by decide +kernel
theorem dX12_book_32 : decode cX12_book 32 = .ok (.aload_n 0, 1) := by decide +kernel
theorem dX12_book_33 : decode cX12_book 33 = .ok (.getfield 9, 3) := by decide +kernel
theorem dX12_book_36 : decode cX12_book 36 = .ok (.bipush 30, 2) := by decide +kernel
theorem dX12_book_38 : decode cX12_book 38 = .ok (.iaload, 1) := by decide +kernel
theorem dX12_book_39 : decode cX12_book 39 = .ok (.bipush 8, 2) := by decide +kernel
theorem dX12_book_41 : decode cX12_book 41 = .ok (.if_icmp .ne 6, 3) := by decide +kernel
theorem dX12_book_44 : decode cX12_book 44 = .ok (.bipush (-4), 2) := by decide +kernel
theorem dX12_book_46 : decode cX12_book 46 = .ok (.ireturn, 1) := by decide +kernel
theorem dX12_book_47 : decode cX12_book 47 = .ok (.aload_n 0, 1) := by decide +kernel
theorem dX12_book_48 : decode cX12_book 48 = .ok (.getfield 9, 3) := by decide +kernel
theorem dX12_book_51 : decode cX12_book 51 = .ok (.bipush 107, 2) := by decide +kernel
theorem dX12_book_53 : decode cX12_book 53 = .ok (.aload_n 0, 1) := by decide +kernel
theorem dX12_book_54 : decode cX12_book 54 = .ok (.getfield 9, 3) := by decide +kernel
theorem dX12_book_57 : decode cX12_book 57 = .ok (.bipush 30, 2) := by decide +kernel
theorem dX12_book_59 : decode cX12_book 59 = .ok (.iaload, 1) := by decide +kernel
theorem dX12_book_60 : decode cX12_book 60 = .ok (.iadd, 1) := by decide +kernel
theorem dX12_book_61 : decode cX12_book 61 = .ok (.iload_n 1, 1) := by decide +kernel
theorem dX12_book_62 : decode cX12_book 62 = .ok (.iastore, 1) := by decide +kernel
theorem dX12_book_63 : decode cX12_book 63 = .ok (.aload_n 0, 1) := by decide +kernel
theorem dX12_book_64 : decode cX12_book 64 = .ok (.getfield 9, 3) := by decide +kernel
theorem dX12_book_67 : decode cX12_book 67 = .ok (.bipush 115, 2) := by decide +kernel
theorem dX12_book_69 : decode cX12_book 69 = .ok (.aload_n 0, 1) := by decide +kernel
theorem dX12_book_70 : decode cX12_book 70 = .ok (.getfield 9, 3) := by decide +kernel
theorem dX12_book_73 : decode cX12_book 73 = .ok (.bipush 30, 2) := by decide +kernel
theorem dX12_book_75 : decode cX12_book 75 = .ok (.iaload, 1) := by decide +kernel
theorem dX12_book_76 : decode cX12_book 76 = .ok (.iadd, 1) := by decide +kernel
theorem dX12_book_77 : decode cX12_book 77 = .ok (.iload_n 2, 1) := by decide +kernel
theorem dX12_book_78 : decode cX12_book 78 = .ok (.iastore, 1) := by decide +kernel
theorem dX12_book_79 : decode cX12_book 79 = .ok (.aload_n 0, 1) := by decide +kernel
theorem dX12_book_80 : decode cX12_book 80 = .ok (.getfield 9, 3) := by decide +kernel
theorem dX12_book_83 : decode cX12_book 83 = .ok (.bipush 30, 2) := by decide +kernel
theorem dX12_book_85 : decode cX12_book 85 = .ok (.dup2, 1) := by decide +kernel
theorem dX12_book_86 : decode cX12_book 86 = .ok (.iaload, 1) := by decide +kernel
theorem dX12_book_87 : decode cX12_book 87 = .ok (.iconst 1, 1) := by decide +kernel
theorem dX12_book_88 : decode cX12_book 88 = .ok (.iadd, 1) := by decide +kernel
theorem dX12_book_89 : decode cX12_book 89 = .ok (.iastore, 1) := by decide +kernel
theorem dX12_book_90 : decode cX12_book 90 = .ok (.aload_n 0, 1) := by decide +kernel
theorem dX12_book_91 : decode cX12_book 91 = .ok (.getfield 9, 3) := by decide +kernel
theorem dX12_book_94 : decode cX12_book 94 = .ok (.bipush 30, 2) := by decide +kernel
theorem dX12_book_96 : decode cX12_book 96 = .ok (.iaload, 1) := by decide +kernel
theorem dX12_book_97 : decode cX12_book 97 = .ok (.ireturn, 1) := by decide +kernel
def zb_X12_book_30 (E : zj_E) (st : List Value) (m : zj_M) : zj_R := (zi_push (.int (-1)) (zi_ret (some .int))) E st m
set_option maxRecDepth 20000 in
theorem zs_X12_book_30 : zj_KC cX12_book RX12 3 (2) (some .int) (0, fun _ => 0) 30 (zb_X12_book_30) := (zr_iconst dX12_book_30 rfl (zr_ret dX12_book_31))
def zb_X12_book_0 (E : zj_E) (st : List Value) (m : zj_M) : zj_R := (zi_ild 1 (zi_push (.int (-1)) (zi_ceq (zi_ald 0 (zi_gf 12 1 (zi_push (.int 30) (zi_push (.int 0) (zi_iast (zi_push (.int 0) (zi_ret (some .int)))))))) (zi_ald 0 (zi_ild 1 (zi_vc 12 1 zf_X12_isWalker (zi_eq zb_X12_book_30 (zi_ild 2 (zi_call 1 zf_X12_isMood (zi_eq zb_X12_book_30 (zi_ald 0 (zi_gf 12 1 (zi_push (.int 30) (zi_iald (zi_push (.int 8) (zi_ceq (zi_push (.int (-4)) (zi_ret (some .int))) (zi_ald 0 (zi_gf 12 1 (zi_push (.int 107) (zi_ald 0 (zi_gf 12 1 (zi_push (.int 30) (zi_iald (zi_b (fun x y => x + y) (zi_ild 1 (zi_iast (zi_ald 0 (zi_gf 12 1 (zi_push (.int 115) (zi_ald 0 (zi_gf 12 1 (zi_push (.int 30) (zi_iald (zi_b (fun x y => x + y) (zi_ild 2 (zi_iast (zi_ald 0 (zi_gf 12 1 (zi_push (.int 30) (zi_dup2 (zi_iald (zi_push (.int 1) (zi_b (fun x y => x + y) (zi_iast (zi_ald 0 (zi_gf 12 1 (zi_push (.int 30) (zi_iald (zi_ret (some .int)))))))))))))))))))))))))))))))))))))))))))) zi_no)))))) E st m
set_option maxRecDepth 20000 in
theorem zs_X12_book_0 : zj_KC cX12_book RX12 3 (2) (some .int) (0, fun _ => 0) 0 (zb_X12_book_0) := (zr_ildn dX12_book_0 rfl (zr_iconst dX12_book_1 rfl (zr_icne dX12_book_2 (tgt := 15) (by decide) (zr_aldn dX12_book_15 rfl (zr_ildn dX12_book_16 rfl (zr_callV dX12_book_17 zm_X12_isWalker ⟨⟨zq_1144, zq_77⟩, by decide +kernel, by omega, by decide⟩ rfl rfl zq_1141 zq_1143 zq_33 (zr_ifeq dX12_book_20 (tgt := 30) (by decide) (zs_X12_book_30) (zr_ildn dX12_book_23 rfl (zr_callS dX12_book_24 zm_X12_isMood ⟨⟨zq_1120, zq_77⟩, by decide +kernel, by omega, by decide⟩ zq_1118 zq_1119 (zr_ifne dX12_book_27 (tgt := 32) (by decide) (zr_aldn dX12_book_32 rfl (zr_gf dX12_book_33 zfl_X12_9_12 (zr_bipush dX12_book_36 rfl (zr_iald dX12_book_38 (zr_bipush dX12_book_39 rfl (zr_icne dX12_book_41 (tgt := 47) (by decide) (zr_aldn dX12_book_47 rfl (zr_gf dX12_book_48 zfl_X12_9_12 (zr_bipush dX12_book_51 rfl (zr_aldn dX12_book_53 rfl (zr_gf dX12_book_54 zfl_X12_9_12 (zr_bipush dX12_book_57 rfl (zr_iald dX12_book_59 (zr_iadd dX12_book_60 (zr_ildn dX12_book_61 rfl (zr_iast dX12_book_62 (zr_aldn dX12_book_63 rfl (zr_gf dX12_book_64 zfl_X12_9_12 (zr_bipush dX12_book_67 rfl (zr_aldn dX12_book_69 rfl (zr_gf dX12_book_70 zfl_X12_9_12 (zr_bipush dX12_book_73 rfl (zr_iald dX12_book_75 (zr_iadd dX12_book_76 (zr_ildn dX12_book_77 rfl (zr_iast dX12_book_78 (zr_aldn dX12_book_79 rfl (zr_gf dX12_book_80 zfl_X12_9_12 (zr_bipush dX12_book_83 rfl (zr_dup2 dX12_book_85 (zr_iald dX12_book_86 (zr_iconst dX12_book_87 rfl (zr_iadd dX12_book_88 (zr_iast dX12_book_89 (zr_aldn dX12_book_90 rfl (zr_gf dX12_book_91 zfl_X12_9_12 (zr_bipush dX12_book_94 rfl (zr_iald dX12_book_96 (zr_ret dX12_book_97))))))))))))))))))))))))))))))))) (zr_bipush dX12_book_44 rfl (zr_ret dX12_book_46)))))))) (zs_X12_book_30))))) zr_no))) (zr_aldn dX12_book_5 rfl (zr_gf dX12_book_6 zfl_X12_9_12 (zr_bipush dX12_book_9 rfl (zr_iconst dX12_book_11 rfl (zr_iast dX12_book_12 (zr_iconst dX12_book_13 rfl (zr_ret dX12_book_14))))))))))
def zf_X12_book : zj_F := zj_run 3 zb_X12_book_0
theorem zm_X12_book : zj_MS 2 yX12_book cX12_book 3 (some .int) zf_X12_book := zj_met (own := RX12) rfl (by decide +kernel) (Or.inr (Or.inl rfl)) (zs_X12_book_0)
theorem dX12_looked_0 : decode cX12_looked 0 = .ok (.iconst 0, 1) := by decide +kernel
theorem dX12_looked_1 : decode cX12_looked 1 = .ok (.istore_n 1, 1) := by decide +kernel
theorem dX12_looked_2 : decode cX12_looked 2 = .ok (.iload_n 1, 1) := by decide +kernel
theorem dX12_looked_3 : decode cX12_looked 3 = .ok (.aload_n 0, 1) := by decide +kernel
theorem dX12_looked_4 : decode cX12_looked 4 = .ok (.getfield 9, 3) := by decide +kernel
theorem dX12_looked_7 : decode cX12_looked 7 = .ok (.bipush 30, 2) := by decide +kernel
theorem dX12_looked_9 : decode cX12_looked 9 = .ok (.iaload, 1) := by decide +kernel
theorem dX12_looked_10 : decode cX12_looked 10 = .ok (.if_icmp .ge 40, 3) := by decide +kernel
theorem dX12_looked_13 : decode cX12_looked 13 = .ok (.aload_n 0, 1) := by decide +kernel
theorem dX12_looked_14 : decode cX12_looked 14 = .ok (.getfield 9, 3) := by decide +kernel
theorem dX12_looked_17 : decode cX12_looked 17 = .ok (.bipush 8, 2) := by decide +kernel
theorem dX12_looked_19 : decode cX12_looked 19 = .ok (.aload_n 0, 1) := by decide +kernel
theorem dX12_looked_20 : decode cX12_looked 20 = .ok (.getfield 9, 3) := by decide +kernel
theorem dX12_looked_23 : decode cX12_looked 23 = .ok (.bipush 107, 2) := by decide +kernel
theorem dX12_looked_25 : decode cX12_looked 25 = .ok (.iload_n 1, 1) := by decide +kernel
theorem dX12_looked_26 : decode cX12_looked 26 = .ok (.iadd, 1) := by decide +kernel
theorem dX12_looked_27 : decode cX12_looked 27 = .ok (.iaload, 1) := by decide +kernel
theorem dX12_looked_28 : decode cX12_looked 28 = .ok (.iadd, 1) := by decide +kernel
theorem dX12_looked_29 : decode cX12_looked 29 = .ok (.iaload, 1) := by decide +kernel
theorem dX12_looked_30 : decode cX12_looked 30 = .ok (.aload_n 0, 1) := by decide +kernel
theorem dX12_looked_31 : decode cX12_looked 31 = .ok (.getfield 9, 3) := by decide +kernel
theorem dX12_looked_34 : decode cX12_looked 34 = .ok (.bipush 115, 2) := by decide +kernel
theorem dX12_looked_36 : decode cX12_looked 36 = .ok (.iload_n 1, 1) := by decide +kernel
theorem dX12_looked_37 : decode cX12_looked 37 = .ok (.iadd, 1) := by decide +kernel
theorem dX12_looked_38 : decode cX12_looked 38 = .ok (.iaload, 1) := by decide +kernel
theorem dX12_looked_39 : decode cX12_looked 39 = .ok (.if_icmp .eq 5, 3) := by decide +kernel
theorem dX12_looked_42 : decode cX12_looked 42 = .ok (.iload_n 1, 1) := by decide +kernel
theorem dX12_looked_43 : decode cX12_looked 43 = .ok (.ireturn, 1) := by decide +kernel
theorem dX12_looked_44 : decode cX12_looked 44 = .ok (.iinc 1 1, 3) := by decide +kernel
theorem dX12_looked_47 : decode cX12_looked 47 = .ok (.goto (-45), 3) := by decide +kernel
theorem dX12_looked_50 : decode cX12_looked 50 = .ok (.bipush (-5), 2) := by decide +kernel
theorem dX12_looked_52 : decode cX12_looked 52 = .ok (.ireturn, 1) := by decide +kernel
def zb_X12_looked_2 (r2 : zj_K) (E : zj_E) (st : List Value) (m : zj_M) : zj_R := (zi_ild 1 (zi_ald 0 (zi_gf 12 1 (zi_push (.int 30) (zi_iald (zi_clt (zi_ald 0 (zi_gf 12 1 (zi_push (.int 8) (zi_ald 0 (zi_gf 12 1 (zi_push (.int 107) (zi_ild 1 (zi_b (fun x y => x + y) (zi_iald (zi_b (fun x y => x + y) (zi_iald (zi_ald 0 (zi_gf 12 1 (zi_push (.int 115) (zi_ild 1 (zi_b (fun x y => x + y) (zi_iald (zi_ceq (zi_inc 1 1 r2) (zi_ild 1 (zi_ret (some .int))))))))))))))))))))) (zi_push (.int (-5)) (zi_ret (some .int))))))))) E st m
set_option maxRecDepth 20000 in
theorem zs_X12_looked_2 {r2 : zj_K} (h2 : zj_KC cX12_looked RX12 2 (0) (some .int) (0, fun _ => 0) 2 r2) : zj_KC cX12_looked RX12 2 (0) (some .int) (0, fun _ => 0) 2 (zb_X12_looked_2 r2) := (zr_ildn dX12_looked_2 rfl (zr_aldn dX12_looked_3 rfl (zr_gf dX12_looked_4 zfl_X12_9_12 (zr_bipush dX12_looked_7 rfl (zr_iald dX12_looked_9 (zr_icge dX12_looked_10 (tgt := 50) (by decide) (zr_bipush dX12_looked_50 rfl (zr_ret dX12_looked_52)) (zr_aldn dX12_looked_13 rfl (zr_gf dX12_looked_14 zfl_X12_9_12 (zr_bipush dX12_looked_17 rfl (zr_aldn dX12_looked_19 rfl (zr_gf dX12_looked_20 zfl_X12_9_12 (zr_bipush dX12_looked_23 rfl (zr_ildn dX12_looked_25 rfl (zr_iadd dX12_looked_26 (zr_iald dX12_looked_27 (zr_iadd dX12_looked_28 (zr_iald dX12_looked_29 (zr_aldn dX12_looked_30 rfl (zr_gf dX12_looked_31 zfl_X12_9_12 (zr_bipush dX12_looked_34 rfl (zr_ildn dX12_looked_36 rfl (zr_iadd dX12_looked_37 (zr_iald dX12_looked_38 (zr_iceq dX12_looked_39 (tgt := 44) (by decide) (zr_inc dX12_looked_44 rfl (zr_goto dX12_looked_47 (tgt := 2) (by decide) h2)) (zr_ildn dX12_looked_42 rfl (zr_ret dX12_looked_43))))))))))))))))))))))))))
def zb_X12_looked_0 (E : zj_E) (st : List Value) (m : zj_M) : zj_R := (zi_push (.int 0) (zi_ist 1 (zj_lp (zb_X12_looked_2) zj_fu))) E st m
set_option maxRecDepth 20000 in
theorem zs_X12_looked_0 : zj_KC cX12_looked RX12 2 (0) (some .int) (0, fun _ => 0) 0 (zb_X12_looked_0) := (zr_iconst dX12_looked_0 rfl (zr_istn dX12_looked_1 rfl (zr_lp (fun _ h => zs_X12_looked_2 h) zj_fu)))
def zf_X12_looked : zj_F := zj_run 2 zb_X12_looked_0
theorem zm_X12_looked : zj_MS 0 yX12_looked cX12_looked 2 (some .int) zf_X12_looked := zj_met (own := RX12) rfl (by decide +kernel) (Or.inr (Or.inl rfl)) (zs_X12_looked_0)
theorem dX12_ranBody_0 : decode cX12_ranBody 0 = .ok (.aload_n 0, 1) := by decide +kernel
theorem dX12_ranBody_1 : decode cX12_ranBody 1 = .ok (.getfield 228, 3) := by decide +kernel
theorem dX12_ranBody_4 : decode cX12_ranBody 4 = .ok (.bipush 20, 2) := by decide +kernel
theorem dX12_ranBody_6 : decode cX12_ranBody 6 = .ok (.if_icmp .ge 13, 3) := by decide +kernel
theorem dX12_ranBody_9 : decode cX12_ranBody 9 = .ok (.aload_n 0, 1) := by decide +kernel
theorem dX12_ranBody_10 : decode cX12_ranBody 10 = .ok (.getfield 40, 3) := by decide +kernel
theorem dX12_ranBody_13 : decode cX12_ranBody 13 = .ok (.aload_n 0, 1) := by decide +kernel
theorem dX12_ranBody_14 : decode cX12_ranBody 14 = .ok (.getfield 228, 3) := by decide +kernel
theorem dX12_ranBody_17 : decode cX12_ranBody 17 = .ok (.iload_n 1, 1) := by decide +kernel
theorem dX12_ranBody_18 : decode cX12_ranBody 18 = .ok (.iastore, 1) := by decide +kernel
theorem dX12_ranBody_19 : decode cX12_ranBody 19 = .ok (.aload_n 0, 1) := by decide +kernel
theorem dX12_ranBody_20 : decode cX12_ranBody 20 = .ok (.dup, 1) := by decide +kernel
theorem dX12_ranBody_21 : decode cX12_ranBody 21 = .ok (.getfield 228, 3) := by decide +kernel
theorem dX12_ranBody_24 : decode cX12_ranBody 24 = .ok (.iconst 1, 1) := by decide +kernel
theorem dX12_ranBody_25 : decode cX12_ranBody 25 = .ok (.iadd, 1) := by decide +kernel
theorem dX12_ranBody_26 : decode cX12_ranBody 26 = .ok (.putfield 228, 3) := by decide +kernel
theorem dX12_ranBody_29 : decode cX12_ranBody 29 = .ok (.return_, 1) := by decide +kernel
def zb_X12_ranBody_19 (E : zj_E) (st : List Value) (m : zj_M) : zj_R := (zi_ald 0 (zi_dup (zi_gf 12 18 (zi_push (.int 1) (zi_b (fun x y => x + y) (zi_pf 12 18 (zi_ret none))))))) E st m
set_option maxRecDepth 20000 in
theorem zs_X12_ranBody_19 : zj_KC cX12_ranBody RX12 2 (0) none (0, fun _ => 0) 19 (zb_X12_ranBody_19) := (zr_aldn dX12_ranBody_19 rfl (zr_dup dX12_ranBody_20 (zr_gf dX12_ranBody_21 zfl_X12_228_12 (zr_iconst dX12_ranBody_24 rfl (zr_iadd dX12_ranBody_25 (zr_pf dX12_ranBody_26 zfl_X12_228_12w (zr_ret dX12_ranBody_29)))))))
def zb_X12_ranBody_0 (E : zj_E) (st : List Value) (m : zj_M) : zj_R := (zi_ald 0 (zi_gf 12 18 (zi_push (.int 20) (zi_clt (zi_ald 0 (zi_gf 12 17 (zi_ald 0 (zi_gf 12 18 (zi_ild 1 (zi_iast zb_X12_ranBody_19)))))) zb_X12_ranBody_19)))) E st m
set_option maxRecDepth 20000 in
theorem zs_X12_ranBody_0 : zj_KC cX12_ranBody RX12 2 (0) none (0, fun _ => 0) 0 (zb_X12_ranBody_0) := (zr_aldn dX12_ranBody_0 rfl (zr_gf dX12_ranBody_1 zfl_X12_228_12 (zr_bipush dX12_ranBody_4 rfl (zr_icge dX12_ranBody_6 (tgt := 19) (by decide) (zs_X12_ranBody_19) (zr_aldn dX12_ranBody_9 rfl (zr_gf dX12_ranBody_10 zfl_X12_40_12 (zr_aldn dX12_ranBody_13 rfl (zr_gf dX12_ranBody_14 zfl_X12_228_12 (zr_ildn dX12_ranBody_17 rfl (zr_iast dX12_ranBody_18 (zs_X12_ranBody_19)))))))))))
def zf_X12_ranBody : zj_F := zj_run 2 zb_X12_ranBody_0
theorem zm_X12_ranBody : zj_MS 0 yX12_ranBody cX12_ranBody 2 none zf_X12_ranBody := zj_met (own := RX12) rfl (by decide +kernel) (Or.inl rfl) (zs_X12_ranBody_0)
theorem dX12_isUnder_0 : decode cX12_isUnder 0 = .ok (.iload_n 1, 1) := by decide +kernel
theorem dX12_isUnder_1 : decode cX12_isUnder 1 = .ok (.ifCond .eq 24, 3) := by decide +kernel
theorem dX12_isUnder_4 : decode cX12_isUnder 4 = .ok (.iload_n 1, 1) := by decide +kernel
theorem dX12_isUnder_5 : decode cX12_isUnder 5 = .ok (.iload_n 0, 1) := by decide +kernel
theorem dX12_isUnder_6 : decode cX12_isUnder 6 = .ok (.if_icmp .eq 19, 3) := by decide +kernel
theorem dX12_isUnder_9 : decode cX12_isUnder 9 = .ok (.iload_n 1, 1) := by decide +kernel
theorem dX12_isUnder_10 : decode cX12_isUnder 10 = .ok (.ifCond .le 19, 3) := by decide +kernel
theorem dX12_isUnder_13 : decode cX12_isUnder 13 = .ok (.iload_n 1, 1) := by decide +kernel
theorem dX12_isUnder_14 : decode cX12_isUnder 14 = .ok (.iconst 4, 1) := by decide +kernel
theorem dX12_isUnder_15 : decode cX12_isUnder 15 = .ok (.if_icmp .ge 14, 3) := by decide +kernel
theorem dX12_isUnder_18 : decode cX12_isUnder 18 = .ok (.iload_n 0, 1) := by decide +kernel
theorem dX12_isUnder_19 : decode cX12_isUnder 19 = .ok (.iload_n 1, 1) := by decide +kernel
theorem dX12_isUnder_20 : decode cX12_isUnder 20 = .ok (.iconst 3, 1) := by decide +kernel
theorem dX12_isUnder_21 : decode cX12_isUnder 21 = .ok (.iadd, 1) := by decide +kernel
theorem dX12_isUnder_22 : decode cX12_isUnder 22 = .ok (.if_icmp .ne 7, 3) := by decide +kernel
theorem dX12_isUnder_25 : decode cX12_isUnder 25 = .ok (.iconst 1, 1) := by decide +kernel
theorem dX12_isUnder_26 : decode cX12_isUnder 26 = .ok (.goto 4, 3) := by decide +kernel
theorem dX12_isUnder_29 : decode cX12_isUnder 29 = .ok (.iconst 0, 1) := by decide +kernel
theorem dX12_isUnder_30 : decode cX12_isUnder 30 = .ok (.ireturn, 1) := by decide +kernel
def zb_X12_isUnder_30 (E : zj_E) (st : List Value) (m : zj_M) : zj_R := (zi_ret (some .boolean)) E st m
set_option maxRecDepth 20000 in
theorem zs_X12_isUnder_30 : zj_KC cX12_isUnder RX12 2 (0) (some .boolean) (0, fun _ => 0) 30 (zb_X12_isUnder_30) := (zr_ret dX12_isUnder_30)
def zb_X12_isUnder_25 (E : zj_E) (st : List Value) (m : zj_M) : zj_R := (zi_push (.int 1) zb_X12_isUnder_30) E st m
set_option maxRecDepth 20000 in
theorem zs_X12_isUnder_25 : zj_KC cX12_isUnder RX12 2 (0) (some .boolean) (0, fun _ => 0) 25 (zb_X12_isUnder_25) := (zr_iconst dX12_isUnder_25 rfl (zr_goto dX12_isUnder_26 (tgt := 30) (by decide) (zs_X12_isUnder_30)))
def zb_X12_isUnder_29 (E : zj_E) (st : List Value) (m : zj_M) : zj_R := (zi_push (.int 0) zb_X12_isUnder_30) E st m
set_option maxRecDepth 20000 in
theorem zs_X12_isUnder_29 : zj_KC cX12_isUnder RX12 2 (0) (some .boolean) (0, fun _ => 0) 29 (zb_X12_isUnder_29) := (zr_iconst dX12_isUnder_29 rfl (zs_X12_isUnder_30))
def zb_X12_isUnder_0 (E : zj_E) (st : List Value) (m : zj_M) : zj_R := (zi_ild 1 (zi_eq zb_X12_isUnder_25 (zi_ild 1 (zi_ild 0 (zi_ceq zb_X12_isUnder_25 (zi_ild 1 (zi_le zb_X12_isUnder_29 (zi_ild 1 (zi_push (.int 4) (zi_clt (zi_ild 0 (zi_ild 1 (zi_push (.int 3) (zi_b (fun x y => x + y) (zi_ceq zb_X12_isUnder_25 zb_X12_isUnder_29))))) zb_X12_isUnder_29)))))))))) E st m
set_option maxRecDepth 20000 in
theorem zs_X12_isUnder_0 : zj_KC cX12_isUnder RX12 2 (0) (some .boolean) (0, fun _ => 0) 0 (zb_X12_isUnder_0) := (zr_ildn dX12_isUnder_0 rfl (zr_ifeq dX12_isUnder_1 (tgt := 25) (by decide) (zs_X12_isUnder_25) (zr_ildn dX12_isUnder_4 rfl (zr_ildn dX12_isUnder_5 rfl (zr_iceq dX12_isUnder_6 (tgt := 25) (by decide) (zs_X12_isUnder_25) (zr_ildn dX12_isUnder_9 rfl (zr_ifle dX12_isUnder_10 (tgt := 29) (by decide) (zs_X12_isUnder_29) (zr_ildn dX12_isUnder_13 rfl (zr_iconst dX12_isUnder_14 rfl (zr_icge dX12_isUnder_15 (tgt := 29) (by decide) (zs_X12_isUnder_29) (zr_ildn dX12_isUnder_18 rfl (zr_ildn dX12_isUnder_19 rfl (zr_iconst dX12_isUnder_20 rfl (zr_iadd dX12_isUnder_21 (zr_icne dX12_isUnder_22 (tgt := 29) (by decide) (zs_X12_isUnder_29) (zs_X12_isUnder_25))))))))))))))))
def zf_X12_isUnder : zj_F := zj_run 2 zb_X12_isUnder_0
theorem zm_X12_isUnder : zj_MS 0 yX12_isUnder cX12_isUnder 2 (some .boolean) zf_X12_isUnder := zj_met (own := RX12) rfl (by decide +kernel) (Or.inr (Or.inr (Or.inl rfl))) (zs_X12_isUnder_0)
theorem dX12_plainStrolls_0 : decode cX12_plainStrolls 0 = .ok (.aload_n 0, 1) := by decide +kernel
theorem dX12_plainStrolls_1 : decode cX12_plainStrolls 1 = .ok (.iconst 1, 1) := by decide +kernel
theorem dX12_plainStrolls_2 : decode cX12_plainStrolls 2 = .ok (.invokevirtual 231, 3) := by decide +kernel
theorem dX12_plainStrolls_5 : decode cX12_plainStrolls 5 = .ok (.iload_n 1, 1) := by decide +kernel
theorem dX12_plainStrolls_6 : decode cX12_plainStrolls 6 = .ok (.aload_n 0, 1) := by decide +kernel
theorem dX12_plainStrolls_7 : decode cX12_plainStrolls 7 = .ok (.getfield 234, 3) := by decide +kernel
theorem dX12_plainStrolls_10 : decode cX12_plainStrolls 10 = .ok (.iadd, 1) := by decide +kernel
theorem dX12_plainStrolls_11 : decode cX12_plainStrolls 11 = .ok (.ireturn, 1) := by decide +kernel
def zb_X12_plainStrolls_0 (E : zj_E) (st : List Value) (m : zj_M) : zj_R := (zi_ald 0 (zi_push (.int 1) (zi_vc 12 1 zf_X12_ranBody (zi_ild 1 (zi_ald 0 (zi_gf 12 20 (zi_b (fun x y => x + y) (zi_ret (some .int)))))) zi_no))) E st m
set_option maxRecDepth 20000 in
theorem zs_X12_plainStrolls_0 : zj_KC cX12_plainStrolls RX12 2 (1) (some .int) (0, fun _ => 0) 0 (zb_X12_plainStrolls_0) := (zr_aldn dX12_plainStrolls_0 rfl (zr_iconst dX12_plainStrolls_1 rfl (zr_callV dX12_plainStrolls_2 zm_X12_ranBody ⟨⟨zq_1337, zq_77⟩, by decide +kernel, by omega, by decide⟩ rfl rfl zq_1334 zq_1336 zq_58 (zr_ildn dX12_plainStrolls_5 rfl (zr_aldn dX12_plainStrolls_6 rfl (zr_gf dX12_plainStrolls_7 zfl_X12_234_12 (zr_iadd dX12_plainStrolls_10 (zr_ret dX12_plainStrolls_11))))) zr_no)))
def zf_X12_plainStrolls : zj_F := zj_run 2 zb_X12_plainStrolls_0
theorem zm_X12_plainStrolls : zj_MS 1 yX12_plainStrolls cX12_plainStrolls 2 (some .int) zf_X12_plainStrolls := zj_met (own := RX12) rfl (by decide +kernel) (Or.inr (Or.inl rfl)) (zs_X12_plainStrolls_0)
theorem dX12_strollsActs_0 : decode cX12_strollsActs 0 = .ok (.aload_n 0, 1) := by decide +kernel
theorem dX12_strollsActs_1 : decode cX12_strollsActs 1 = .ok (.getfield 237, 3) := by decide +kernel
theorem dX12_strollsActs_4 : decode cX12_strollsActs 4 = .ok (.iconst 1, 1) := by decide +kernel
theorem dX12_strollsActs_5 : decode cX12_strollsActs 5 = .ok (.invokestatic 240, 3) := by decide +kernel
theorem dX12_strollsActs_8 : decode cX12_strollsActs 8 = .ok (.ifCond .eq 17, 3) := by decide +kernel
theorem dX12_strollsActs_11 : decode cX12_strollsActs 11 = .ok (.aload_n 0, 1) := by decide +kernel
theorem dX12_strollsActs_12 : decode cX12_strollsActs 12 = .ok (.bipush 11, 2) := by decide +kernel
theorem dX12_strollsActs_14 : decode cX12_strollsActs 14 = .ok (.invokevirtual 231, 3) := by decide +kernel
theorem dX12_strollsActs_17 : decode cX12_strollsActs 17 = .ok (.aload_n 0, 1) := by decide +kernel
theorem dX12_strollsActs_18 : decode cX12_strollsActs 18 = .ok (.iload_n 1, 1) := by decide +kernel
theorem dX12_strollsActs_19 : decode cX12_strollsActs 19 = .ok (.iconst 3, 1) := by decide +kernel
theorem dX12_strollsActs_20 : decode cX12_strollsActs 20 = .ok (.imul, 1) := by decide +kernel
theorem dX12_strollsActs_21 : decode cX12_strollsActs 21 = .ok (.invokevirtual 243, 3) := by decide +kernel
theorem dX12_strollsActs_24 : decode cX12_strollsActs 24 = .ok (.ireturn, 1) := by decide +kernel
theorem dX12_strollsActs_25 : decode cX12_strollsActs 25 = .ok (.aload_n 0, 1) := by decide +kernel
theorem dX12_strollsActs_26 : decode cX12_strollsActs 26 = .ok (.getfield 237, 3) := by decide +kernel
theorem dX12_strollsActs_29 : decode cX12_strollsActs 29 = .ok (.iconst 5, 1) := by decide +kernel
theorem dX12_strollsActs_30 : decode cX12_strollsActs 30 = .ok (.if_icmp .ne 20, 3) := by decide +kernel
theorem dX12_strollsActs_33 : decode cX12_strollsActs 33 = .ok (.aload_n 0, 1) := by decide +kernel
theorem dX12_strollsActs_34 : decode cX12_strollsActs 34 = .ok (.bipush 51, 2) := by decide +kernel
theorem dX12_strollsActs_36 : decode cX12_strollsActs 36 = .ok (.invokevirtual 231, 3) := by decide +kernel
theorem dX12_strollsActs_39 : decode cX12_strollsActs 39 = .ok (.aload_n 0, 1) := by decide +kernel
theorem dX12_strollsActs_40 : decode cX12_strollsActs 40 = .ok (.iload_n 1, 1) := by decide +kernel
theorem dX12_strollsActs_41 : decode cX12_strollsActs 41 = .ok (.invokevirtual 243, 3) := by decide +kernel
theorem dX12_strollsActs_44 : decode cX12_strollsActs 44 = .ok (.aload_n 0, 1) := by decide +kernel
theorem dX12_strollsActs_45 : decode cX12_strollsActs 45 = .ok (.getfield 234, 3) := by decide +kernel
theorem dX12_strollsActs_48 : decode cX12_strollsActs 48 = .ok (.ixor, 1) := by decide +kernel
theorem dX12_strollsActs_49 : decode cX12_strollsActs 49 = .ok (.ireturn, 1) := by decide +kernel
theorem dX12_strollsActs_50 : decode cX12_strollsActs 50 = .ok (.aload_n 0, 1) := by decide +kernel
theorem dX12_strollsActs_51 : decode cX12_strollsActs 51 = .ok (.iload_n 1, 1) := by decide +kernel
theorem dX12_strollsActs_52 : decode cX12_strollsActs 52 = .ok (.invokevirtual 243, 3) := by decide +kernel
theorem dX12_strollsActs_55 : decode cX12_strollsActs 55 = .ok (.ireturn, 1) := by decide +kernel
def zb_X12_strollsActs_0 (E : zj_E) (st : List Value) (m : zj_M) : zj_R := (zi_ald 0 (zi_gf 12 19 (zi_push (.int 1) (zi_call 2 zf_X12_isUnder (zi_eq (zi_ald 0 (zi_gf 12 19 (zi_push (.int 5) (zi_ceq (zi_ald 0 (zi_push (.int 51) (zi_vc 12 1 zf_X12_ranBody (zi_ald 0 (zi_ild 1 (zi_vc 12 1 zf_X12_plainStrolls (zi_ald 0 (zi_gf 12 20 (zi_b (fun x y => x ^^^ y) (zi_ret (some .int))))) zi_no))) zi_no))) (zi_ald 0 (zi_ild 1 (zi_vc 12 1 zf_X12_plainStrolls (zi_ret (some .int)) zi_no))))))) (zi_ald 0 (zi_push (.int 11) (zi_vc 12 1 zf_X12_ranBody (zi_ald 0 (zi_ild 1 (zi_push (.int 3) (zi_b (fun x y => x * y) (zi_vc 12 1 zf_X12_plainStrolls (zi_ret (some .int)) zi_no))))) zi_no)))))))) E st m
set_option maxRecDepth 20000 in
theorem zs_X12_strollsActs_0 : zj_KC cX12_strollsActs RX12 2 (2) (some .int) (0, fun _ => 0) 0 (zb_X12_strollsActs_0) := (zr_aldn dX12_strollsActs_0 rfl (zr_gf dX12_strollsActs_1 zfl_X12_237_12 (zr_iconst dX12_strollsActs_4 rfl (zr_callS dX12_strollsActs_5 zm_X12_isUnder ⟨⟨zq_1333, zq_77⟩, by decide +kernel, by omega, by decide⟩ zq_1331 zq_1332 (zr_ifeq dX12_strollsActs_8 (tgt := 25) (by decide) (zr_aldn dX12_strollsActs_25 rfl (zr_gf dX12_strollsActs_26 zfl_X12_237_12 (zr_iconst dX12_strollsActs_29 rfl (zr_icne dX12_strollsActs_30 (tgt := 50) (by decide) (zr_aldn dX12_strollsActs_50 rfl (zr_ildn dX12_strollsActs_51 rfl (zr_callV dX12_strollsActs_52 zm_X12_plainStrolls ⟨⟨zq_1341, zq_77⟩, by decide +kernel, by omega, by decide⟩ rfl rfl zq_1338 zq_1340 zq_59 (zr_ret dX12_strollsActs_55) zr_no))) (zr_aldn dX12_strollsActs_33 rfl (zr_bipush dX12_strollsActs_34 rfl (zr_callV dX12_strollsActs_36 zm_X12_ranBody ⟨⟨zq_1337, zq_77⟩, by decide +kernel, by omega, by decide⟩ rfl rfl zq_1334 zq_1336 zq_58 (zr_aldn dX12_strollsActs_39 rfl (zr_ildn dX12_strollsActs_40 rfl (zr_callV dX12_strollsActs_41 zm_X12_plainStrolls ⟨⟨zq_1341, zq_77⟩, by decide +kernel, by omega, by decide⟩ rfl rfl zq_1338 zq_1340 zq_59 (zr_aldn dX12_strollsActs_44 rfl (zr_gf dX12_strollsActs_45 zfl_X12_234_12 (zr_ixor dX12_strollsActs_48 (zr_ret dX12_strollsActs_49)))) zr_no))) zr_no))))))) (zr_aldn dX12_strollsActs_11 rfl (zr_bipush dX12_strollsActs_12 rfl (zr_callV dX12_strollsActs_14 zm_X12_ranBody ⟨⟨zq_1337, zq_77⟩, by decide +kernel, by omega, by decide⟩ rfl rfl zq_1334 zq_1336 zq_58 (zr_aldn dX12_strollsActs_17 rfl (zr_ildn dX12_strollsActs_18 rfl (zr_iconst dX12_strollsActs_19 rfl (zr_imul dX12_strollsActs_20 (zr_callV dX12_strollsActs_21 zm_X12_plainStrolls ⟨⟨zq_1341, zq_77⟩, by decide +kernel, by omega, by decide⟩ rfl rfl zq_1338 zq_1340 zq_59 (zr_ret dX12_strollsActs_24) zr_no))))) zr_no))))))))
def zf_X12_strollsActs : zj_F := zj_run 2 zb_X12_strollsActs_0
theorem zm_X12_strollsActs : zj_MS 2 yX12_strollsActs cX12_strollsActs 2 (some .int) zf_X12_strollsActs := zj_met (own := RX12) rfl (by decide +kernel) (Or.inr (Or.inl rfl)) (zs_X12_strollsActs_0)
theorem dX12_plainLooks_0 : decode cX12_plainLooks 0 = .ok (.aload_n 0, 1) := by decide +kernel
theorem dX12_plainLooks_1 : decode cX12_plainLooks 1 = .ok (.iconst 2, 1) := by decide +kernel
theorem dX12_plainLooks_2 : decode cX12_plainLooks 2 = .ok (.invokevirtual 231, 3) := by decide +kernel
theorem dX12_plainLooks_5 : decode cX12_plainLooks 5 = .ok (.aload_n 0, 1) := by decide +kernel
theorem dX12_plainLooks_6 : decode cX12_plainLooks 6 = .ok (.iload_n 1, 1) := by decide +kernel
theorem dX12_plainLooks_7 : decode cX12_plainLooks 7 = .ok (.invokevirtual 246, 3) := by decide +kernel
theorem dX12_plainLooks_10 : decode cX12_plainLooks 10 = .ok (.aload_n 0, 1) := by decide +kernel
theorem dX12_plainLooks_11 : decode cX12_plainLooks 11 = .ok (.getfield 249, 3) := by decide +kernel
theorem dX12_plainLooks_14 : decode cX12_plainLooks 14 = .ok (.isub, 1) := by decide +kernel
theorem dX12_plainLooks_15 : decode cX12_plainLooks 15 = .ok (.ireturn, 1) := by decide +kernel
def zb_X12_plainLooks_0 (E : zj_E) (st : List Value) (m : zj_M) : zj_R := (zi_ald 0 (zi_push (.int 2) (zi_vc 12 1 zf_X12_ranBody (zi_ald 0 (zi_ild 1 (zi_vc 12 1 zf_X12_strollsActs (zi_ald 0 (zi_gf 12 21 (zi_b (fun x y => x - y) (zi_ret (some .int))))) zi_no))) zi_no))) E st m
set_option maxRecDepth 20000 in
theorem zs_X12_plainLooks_0 : zj_KC cX12_plainLooks RX12 2 (3) (some .int) (0, fun _ => 0) 0 (zb_X12_plainLooks_0) := (zr_aldn dX12_plainLooks_0 rfl (zr_iconst dX12_plainLooks_1 rfl (zr_callV dX12_plainLooks_2 zm_X12_ranBody ⟨⟨zq_1337, zq_77⟩, by decide +kernel, by omega, by decide⟩ rfl rfl zq_1334 zq_1336 zq_58 (zr_aldn dX12_plainLooks_5 rfl (zr_ildn dX12_plainLooks_6 rfl (zr_callV dX12_plainLooks_7 zm_X12_strollsActs ⟨⟨zq_1330, zq_77⟩, by decide +kernel, by omega, by decide⟩ rfl rfl zq_1327 zq_1329 zq_57 (zr_aldn dX12_plainLooks_10 rfl (zr_gf dX12_plainLooks_11 zfl_X12_249_12 (zr_isub dX12_plainLooks_14 (zr_ret dX12_plainLooks_15)))) zr_no))) zr_no)))
def zf_X12_plainLooks : zj_F := zj_run 2 zb_X12_plainLooks_0
theorem zm_X12_plainLooks : zj_MS 3 yX12_plainLooks cX12_plainLooks 2 (some .int) zf_X12_plainLooks := zj_met (own := RX12) rfl (by decide +kernel) (Or.inr (Or.inl rfl)) (zs_X12_plainLooks_0)
