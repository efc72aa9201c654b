theorem dX11_firm_0 : decode cX11_firm 0 = .ok (.aload_n 0, 1) := by decide +kernel
theorem dX11_firm_1 : decode cX11_firm 1 = .ok (.iload_n 1, 1) := by decide +kernel
theorem dX11_firm_2 : decode cX11_firm 2 = .ok (.invokevirtual 140, 3) := by decide +kernel
theorem dX11_firm_5 : decode cX11_firm 5 = .ok (.ifCond .eq 12, 3) := by decide +kernel
theorem dX11_firm_8 : decode cX11_firm 8 = .ok (.iload_n 2, 1) := by decide +kernel
theorem dX11_firm_9 : decode cX11_firm 9 = .ok (.ifCond .eq 10, 3) := by decide +kernel
theorem dX11_firm_12 : decode cX11_firm 12 = .ok (.iload_n 2, 1) := by decide +kernel
theorem dX11_firm_13 : decode cX11_firm 13 = .ok (.iconst 1, 1) := by decide +kernel
theorem dX11_firm_14 : decode cX11_firm 14 = .ok (.if_icmp .eq 5, 3) := by decide +kernel
theorem dX11_firm_17 : decode cX11_firm 17 = .ok (.iconst (-1), 1) := by decide +kernel
theorem dX11_firm_18 : decode cX11_firm 18 = .ok (.ireturn, 1) := by decide +kernel
theorem dX11_firm_19 : decode cX11_firm 19 = .ok (.iconst 0, 1) := by decide +kernel
theorem dX11_firm_20 : decode cX11_firm 20 = .ok (.istore_n 3, 1) := by decide +kernel
theorem dX11_firm_21 : decode cX11_firm 21 = .ok (.bipush (-5), 2) := by decide +kernel
theorem dX11_firm_23 : decode cX11_firm 23 = .ok (.istore 4, 2) := by decide +kernel
theorem dX11_firm_25 : decode cX11_firm 25 = .ok (.bipush 9, 2) := by decide +kernel
theorem dX11_firm_27 : decode cX11_firm 27 = .ok (.istore 5, 2) := by decide +kernel
theorem dX11_firm_29 : decode cX11_firm 29 = .ok (.iload 5, 2) := by decide +kernel
theorem dX11_firm_31 : decode cX11_firm 31 = .ok (.ifCond .lt 46, 3) := by decide +kernel
theorem dX11_firm_34 : decode cX11_firm 34 = .ok (.aload_n 0, 1) := by decide +kernel
theorem dX11_firm_35 : decode cX11_firm 35 = .ok (.invokevirtual 209, 3) := by decide +kernel
theorem dX11_firm_38 : decode cX11_firm 38 = .ok (.astore 6, 2) := by decide +kernel
theorem dX11_firm_40 : decode cX11_firm 40 = .ok (.aload 6, 2) := by decide +kernel
theorem dX11_firm_42 : decode cX11_firm 42 = .ok (.getfield 151, 3) := by decide +kernel
theorem dX11_firm_45 : decode cX11_firm 45 = .ok (.iload_n 1, 1) := by decide +kernel
theorem dX11_firm_46 : decode cX11_firm 46 = .ok (.iload 5, 2) := by decide +kernel
theorem dX11_firm_48 : decode cX11_firm 48 = .ok (.iastore, 1) := by decide +kernel
theorem dX11_firm_49 : decode cX11_firm 49 = .ok (.aload 6, 2) := by decide +kernel
theorem dX11_firm_51 : decode cX11_firm 51 = .ok (.aload_n 0, 1) := by decide +kernel
theorem dX11_firm_52 : decode cX11_firm 52 = .ok (.getfield 61, 3) := by decide +kernel
theorem dX11_firm_55 : decode cX11_firm 55 = .ok (.getfield 228, 3) := by decide +kernel
theorem dX11_firm_58 : decode cX11_firm 58 = .ok (.invokevirtual 231, 3) := by decide +kernel
theorem dX11_firm_61 : decode cX11_firm 61 = .ok (.ifCond .eq 10, 3) := by decide +kernel
theorem dX11_firm_64 : decode cX11_firm 64 = .ok (.iinc 3 1, 3) := by decide +kernel
theorem dX11_firm_67 : decode cX11_firm 67 = .ok (.iload 5, 2) := by decide +kernel
theorem dX11_firm_69 : decode cX11_firm 69 = .ok (.istore 4, 2) := by decide +kernel
theorem dX11_firm_71 : decode cX11_firm 71 = .ok (.iinc 5 (-1), 3) := by decide +kernel
theorem dX11_firm_74 : decode cX11_firm 74 = .ok (.goto (-45), 3) := by decide +kernel
theorem dX11_firm_77 : decode cX11_firm 77 = .ok (.iload_n 2, 1) := by decide +kernel
theorem dX11_firm_78 : decode cX11_firm 78 = .ok (.ifCond .ne 7, 3) := by decide +kernel
theorem dX11_firm_81 : decode cX11_firm 81 = .ok (.iload_n 3, 1) := by decide +kernel
theorem dX11_firm_82 : decode cX11_firm 82 = .ok (.goto 5, 3) := by decide +kernel
theorem dX11_firm_85 : decode cX11_firm 85 = .ok (.iload 4, 2) := by decide +kernel
theorem dX11_firm_87 : decode cX11_firm 87 = .ok (.ireturn, 1) := by decide +kernel
def zb_X11_firm_17 (E : zj_E) (st : List Value) (m : zj_M) : zj_R := (zi_push (.int (-1)) (zi_ret (some .int))) E st m
set_option maxRecDepth 20000 in
theorem zs_X11_firm_17 : zj_KC cX11_firm RX11 7 (7) (some .int) (0, fun _ => 0) 17 (zb_X11_firm_17) := (zr_iconst dX11_firm_17 rfl (zr_ret dX11_firm_18))
def zb_X11_firm_87 (E : zj_E) (st : List Value) (m : zj_M) : zj_R := (zi_ret (some .int)) E st m
set_option maxRecDepth 20000 in
theorem zs_X11_firm_87 : zj_KC cX11_firm RX11 7 (7) (some .int) (0, fun _ => 0) 87 (zb_X11_firm_87) := (zr_ret dX11_firm_87)
def zb_X11_firm_71 (r29 : zj_K) (E : zj_E) (st : List Value) (m : zj_M) : zj_R := (zi_inc 5 (-1) r29) E st m
set_option maxRecDepth 20000 in
theorem zs_X11_firm_71 {r29 : zj_K} (h29 : zj_KC cX11_firm RX11 7 (7) (some .int) (0, fun _ => 0) 29 r29) : zj_KC cX11_firm RX11 7 (7) (some .int) (0, fun _ => 0) 71 (zb_X11_firm_71 r29) := (zr_inc dX11_firm_71 rfl (zr_goto dX11_firm_74 (tgt := 29) (by decide) h29))
def zb_X11_firm_29 (r29 : zj_K) (E : zj_E) (st : List Value) (m : zj_M) : zj_R := (zi_ild 5 (zi_lt (zi_ild 2 (zi_eq (zi_ild 3 zb_X11_firm_87) (zi_ild 4 zb_X11_firm_87))) (zi_ald 0 (zi_vc 11 0 zf_X11_startTrial (zi_ast 6 (zi_ald 6 (zi_gf 4 2 (zi_ild 1 (zi_ild 5 (zi_iast (zi_ald 6 (zi_ald 0 (zi_gf 11 3 (zi_gf 10 3 (zi_vc 4 1 zf_X4_isAsSeen (zi_eq (zb_X11_firm_71 r29) (zi_inc 3 1 (zi_ild 5 (zi_ist 4 (zb_X11_firm_71 r29))))) zi_no))))))))))) zi_no)))) E st m
set_option maxRecDepth 20000 in
theorem zs_X11_firm_29 {r29 : zj_K} (h29 : zj_KC cX11_firm RX11 7 (7) (some .int) (0, fun _ => 0) 29 r29) : zj_KC cX11_firm RX11 7 (7) (some .int) (0, fun _ => 0) 29 (zb_X11_firm_29 r29) := (zr_ild dX11_firm_29 (zr_iflt dX11_firm_31 (tgt := 77) (by decide) (zr_ildn dX11_firm_77 rfl (zr_ifne dX11_firm_78 (tgt := 85) (by decide) (zr_ild dX11_firm_85 (zs_X11_firm_87)) (zr_ildn dX11_firm_81 rfl (zr_goto dX11_firm_82 (tgt := 87) (by decide) (zs_X11_firm_87))))) (zr_aldn dX11_firm_34 rfl (zr_callV dX11_firm_35 zm_X11_startTrial ⟨⟨zq_733, zq_65⟩, by decide +kernel, by omega, by decide⟩ rfl rfl zq_730 zq_732 zq_17 (zr_ast dX11_firm_38 (zr_ald dX11_firm_40 (zr_gf dX11_firm_42 zfl_X11_151_4 (zr_ildn dX11_firm_45 rfl (zr_ild dX11_firm_46 (zr_iast dX11_firm_48 (zr_ald dX11_firm_49 (zr_aldn dX11_firm_51 rfl (zr_gf dX11_firm_52 zfl_X11_61_11 (zr_gf dX11_firm_55 zfl_X11_228_10 (zr_callV dX11_firm_58 zm_X4_isAsSeen ⟨⟨zq_813, zq_76⟩, by decide +kernel, by omega, by decide⟩ rfl rfl zq_810 zq_811 zq_812 (zr_ifeq dX11_firm_61 (tgt := 71) (by decide) (zs_X11_firm_71 h29) (zr_inc dX11_firm_64 rfl (zr_ild dX11_firm_67 (zr_ist dX11_firm_69 (zs_X11_firm_71 h29))))) zr_no))))))))))) zr_no))))
def zb_X11_firm_19 (E : zj_E) (st : List Value) (m : zj_M) : zj_R := (zi_push (.int 0) (zi_ist 3 (zi_push (.int (-5)) (zi_ist 4 (zi_push (.int 9) (zi_ist 5 (zj_lp (zb_X11_firm_29) zj_fu))))))) E st m
set_option maxRecDepth 20000 in
theorem zs_X11_firm_19 : zj_KC cX11_firm RX11 7 (7) (some .int) (0, fun _ => 0) 19 (zb_X11_firm_19) := (zr_iconst dX11_firm_19 rfl (zr_istn dX11_firm_20 rfl (zr_bipush dX11_firm_21 rfl (zr_ist dX11_firm_23 (zr_bipush dX11_firm_25 rfl (zr_ist dX11_firm_27 (zr_lp (fun _ h => zs_X11_firm_29 h) zj_fu)))))))
def zb_X11_firm_0 (E : zj_E) (st : List Value) (m : zj_M) : zj_R := (zi_ald 0 (zi_ild 1 (zi_vc 11 1 zf_X11_isWalker (zi_eq zb_X11_firm_17 (zi_ild 2 (zi_eq zb_X11_firm_19 (zi_ild 2 (zi_push (.int 1) (zi_ceq zb_X11_firm_19 zb_X11_firm_17)))))) zi_no))) E st m
set_option maxRecDepth 20000 in
theorem zs_X11_firm_0 : zj_KC cX11_firm RX11 7 (7) (some .int) (0, fun _ => 0) 0 (zb_X11_firm_0) := (zr_aldn dX11_firm_0 rfl (zr_ildn dX11_firm_1 rfl (zr_callV dX11_firm_2 zm_X11_isWalker ⟨⟨zq_597, zq_65⟩, by decide +kernel, by omega, by decide⟩ rfl rfl zq_594 zq_596 zq_13 (zr_ifeq dX11_firm_5 (tgt := 17) (by decide) (zs_X11_firm_17) (zr_ildn dX11_firm_8 rfl (zr_ifeq dX11_firm_9 (tgt := 19) (by decide) (zs_X11_firm_19) (zr_ildn dX11_firm_12 rfl (zr_iconst dX11_firm_13 rfl (zr_iceq dX11_firm_14 (tgt := 19) (by decide) (zs_X11_firm_19) (zs_X11_firm_17))))))) zr_no)))
def zf_X11_firm : zj_F := zj_run 7 zb_X11_firm_0
theorem zm_X11_firm : zj_MS 7 yX11_firm cX11_firm 7 (some .int) zf_X11_firm := zj_met (own := RX11) rfl (by decide +kernel) (Or.inr (Or.inl rfl)) (zs_X11_firm_0)
theorem dX11_partOf_0 : decode cX11_partOf 0 = .ok (.iload_n 1, 1) := by decide +kernel
theorem dX11_partOf_1 : decode cX11_partOf 1 = .ok (.ifCond .eq 12, 3) := by decide +kernel
theorem dX11_partOf_4 : decode cX11_partOf 4 = .ok (.iload_n 2, 1) := by decide +kernel
theorem dX11_partOf_5 : decode cX11_partOf 5 = .ok (.ifCond .eq 12, 3) := by decide +kernel
theorem dX11_partOf_8 : decode cX11_partOf 8 = .ok (.iload_n 2, 1) := by decide +kernel
theorem dX11_partOf_9 : decode cX11_partOf 9 = .ok (.iconst 1, 1) := by decide +kernel
theorem dX11_partOf_10 : decode cX11_partOf 10 = .ok (.if_icmp .eq 7, 3) := by decide +kernel
theorem dX11_partOf_13 : decode cX11_partOf 13 = .ok (.ldc2_w 234, 3) := by decide +kernel
theorem dX11_partOf_16 : decode cX11_partOf 16 = .ok (.lreturn, 1) := by decide +kernel
theorem dX11_partOf_17 : decode cX11_partOf 17 = .ok (.iload_n 1, 1) := by decide +kernel
theorem dX11_partOf_18 : decode cX11_partOf 18 = .ok (.istore_n 3, 1) := by decide +kernel
theorem dX11_partOf_19 : decode cX11_partOf 19 = .ok (.iload_n 0, 1) := by decide +kernel
theorem dX11_partOf_20 : decode cX11_partOf 20 = .ok (.istore 4, 2) := by decide +kernel
theorem dX11_partOf_22 : decode cX11_partOf 22 = .ok (.iconst 0, 1) := by decide +kernel
theorem dX11_partOf_23 : decode cX11_partOf 23 = .ok (.istore 5, 2) := by decide +kernel
theorem dX11_partOf_25 : decode cX11_partOf 25 = .ok (.iload 5, 2) := by decide +kernel
theorem dX11_partOf_27 : decode cX11_partOf 27 = .ok (.bipush 100, 2) := by decide +kernel
theorem dX11_partOf_29 : decode cX11_partOf 29 = .ok (.if_icmp .ge 27, 3) := by decide +kernel
theorem dX11_partOf_32 : decode cX11_partOf 32 = .ok (.iload 4, 2) := by decide +kernel
theorem dX11_partOf_34 : decode cX11_partOf 34 = .ok (.ifCond .eq 22, 3) := by decide +kernel
theorem dX11_partOf_37 : decode cX11_partOf 37 = .ok (.iload_n 3, 1) := by decide +kernel
theorem dX11_partOf_38 : decode cX11_partOf 38 = .ok (.iload 4, 2) := by decide +kernel
theorem dX11_partOf_40 : decode cX11_partOf 40 = .ok (.irem, 1) := by decide +kernel
theorem dX11_partOf_41 : decode cX11_partOf 41 = .ok (.istore 6, 2) := by decide +kernel
theorem dX11_partOf_43 : decode cX11_partOf 43 = .ok (.iload 4, 2) := by decide +kernel
theorem dX11_partOf_45 : decode cX11_partOf 45 = .ok (.istore_n 3, 1) := by decide +kernel
theorem dX11_partOf_46 : decode cX11_partOf 46 = .ok (.iload 6, 2) := by decide +kernel
theorem dX11_partOf_48 : decode cX11_partOf 48 = .ok (.istore 4, 2) := by decide +kernel
theorem dX11_partOf_50 : decode cX11_partOf 50 = .ok (.iinc 5 1, 3) := by decide +kernel
theorem dX11_partOf_53 : decode cX11_partOf 53 = .ok (.goto (-28), 3) := by decide +kernel
theorem dX11_partOf_56 : decode cX11_partOf 56 = .ok (.iload_n 2, 1) := by decide +kernel
theorem dX11_partOf_57 : decode cX11_partOf 57 = .ok (.ifCond .ne 10, 3) := by decide +kernel
theorem dX11_partOf_60 : decode cX11_partOf 60 = .ok (.iload_n 0, 1) := by decide +kernel
theorem dX11_partOf_61 : decode cX11_partOf 61 = .ok (.iload_n 3, 1) := by decide +kernel
theorem dX11_partOf_62 : decode cX11_partOf 62 = .ok (.idiv, 1) := by decide +kernel
theorem dX11_partOf_63 : decode cX11_partOf 63 = .ok (.i2l, 1) := by decide +kernel
theorem dX11_partOf_64 : decode cX11_partOf 64 = .ok (.goto 7, 3) := by decide +kernel
theorem dX11_partOf_67 : decode cX11_partOf 67 = .ok (.iload_n 1, 1) := by decide +kernel
theorem dX11_partOf_68 : decode cX11_partOf 68 = .ok (.iload_n 3, 1) := by decide +kernel
theorem dX11_partOf_69 : decode cX11_partOf 69 = .ok (.idiv, 1) := by decide +kernel
theorem dX11_partOf_70 : decode cX11_partOf 70 = .ok (.i2l, 1) := by decide +kernel
theorem dX11_partOf_71 : decode cX11_partOf 71 = .ok (.lreturn, 1) := by decide +kernel
def zb_X11_partOf_13 (E : zj_E) (st : List Value) (m : zj_M) : zj_R := (zi_push (.long (-9223372036854775808)) (zi_ret (some .long))) E st m
set_option maxRecDepth 20000 in
theorem zs_X11_partOf_13 : zj_KC cX11_partOf RX11 7 (0) (some .long) (0, fun _ => 0) 13 (zb_X11_partOf_13) := (zr_ldc2 dX11_partOf_13 zq_827 (zr_ret dX11_partOf_16))
def zb_X11_partOf_71 (E : zj_E) (st : List Value) (m : zj_M) : zj_R := (zi_ret (some .long)) E st m
set_option maxRecDepth 20000 in
theorem zs_X11_partOf_71 : zj_KC cX11_partOf RX11 7 (0) (some .long) (0, fun _ => 0) 71 (zb_X11_partOf_71) := (zr_ret dX11_partOf_71)
def zb_X11_partOf_56 (E : zj_E) (st : List Value) (m : zj_M) : zj_R := (zi_ild 2 (zi_eq (zi_ild 0 (zi_ild 3 (zi_bd (fun x y => x / y) (zi_i2l zb_X11_partOf_71)))) (zi_ild 1 (zi_ild 3 (zi_bd (fun x y => x / y) (zi_i2l zb_X11_partOf_71)))))) E st m
set_option maxRecDepth 20000 in
theorem zs_X11_partOf_56 : zj_KC cX11_partOf RX11 7 (0) (some .long) (0, fun _ => 0) 56 (zb_X11_partOf_56) := (zr_ildn dX11_partOf_56 rfl (zr_ifne dX11_partOf_57 (tgt := 67) (by decide) (zr_ildn dX11_partOf_67 rfl (zr_ildn dX11_partOf_68 rfl (zr_idiv dX11_partOf_69 (zr_i2l dX11_partOf_70 (zs_X11_partOf_71))))) (zr_ildn dX11_partOf_60 rfl (zr_ildn dX11_partOf_61 rfl (zr_idiv dX11_partOf_62 (zr_i2l dX11_partOf_63 (zr_goto dX11_partOf_64 (tgt := 71) (by decide) (zs_X11_partOf_71))))))))
def zb_X11_partOf_25 (r25 : zj_K) (E : zj_E) (st : List Value) (m : zj_M) : zj_R := (zi_ild 5 (zi_push (.int 100) (zi_clt (zi_ild 4 (zi_eq zb_X11_partOf_56 (zi_ild 3 (zi_ild 4 (zi_bd (fun x y => x - x / y * y) (zi_ist 6 (zi_ild 4 (zi_ist 3 (zi_ild 6 (zi_ist 4 (zi_inc 5 1 r25))))))))))) zb_X11_partOf_56))) E st m
set_option maxRecDepth 20000 in
theorem zs_X11_partOf_25 {r25 : zj_K} (h25 : zj_KC cX11_partOf RX11 7 (0) (some .long) (0, fun _ => 0) 25 r25) : zj_KC cX11_partOf RX11 7 (0) (some .long) (0, fun _ => 0) 25 (zb_X11_partOf_25 r25) := (zr_ild dX11_partOf_25 (zr_bipush dX11_partOf_27 rfl (zr_icge dX11_partOf_29 (tgt := 56) (by decide) (zs_X11_partOf_56) (zr_ild dX11_partOf_32 (zr_ifeq dX11_partOf_34 (tgt := 56) (by decide) (zs_X11_partOf_56) (zr_ildn dX11_partOf_37 rfl (zr_ild dX11_partOf_38 (zr_irem dX11_partOf_40 (zr_ist dX11_partOf_41 (zr_ild dX11_partOf_43 (zr_istn dX11_partOf_45 rfl (zr_ild dX11_partOf_46 (zr_ist dX11_partOf_48 (zr_inc dX11_partOf_50 rfl (zr_goto dX11_partOf_53 (tgt := 25) (by decide) h25)))))))))))))))
def zb_X11_partOf_17 (E : zj_E) (st : List Value) (m : zj_M) : zj_R := (zi_ild 1 (zi_ist 3 (zi_ild 0 (zi_ist 4 (zi_push (.int 0) (zi_ist 5 (zj_lp (zb_X11_partOf_25) zj_fu))))))) E st m
set_option maxRecDepth 20000 in
theorem zs_X11_partOf_17 : zj_KC cX11_partOf RX11 7 (0) (some .long) (0, fun _ => 0) 17 (zb_X11_partOf_17) := (zr_ildn dX11_partOf_17 rfl (zr_istn dX11_partOf_18 rfl (zr_ildn dX11_partOf_19 rfl (zr_ist dX11_partOf_20 (zr_iconst dX11_partOf_22 rfl (zr_ist dX11_partOf_23 (zr_lp (fun _ h => zs_X11_partOf_25 h) zj_fu)))))))
def zb_X11_partOf_0 (E : zj_E) (st : List Value) (m : zj_M) : zj_R := (zi_ild 1 (zi_eq zb_X11_partOf_13 (zi_ild 2 (zi_eq zb_X11_partOf_17 (zi_ild 2 (zi_push (.int 1) (zi_ceq zb_X11_partOf_17 zb_X11_partOf_13))))))) E st m
set_option maxRecDepth 20000 in
theorem zs_X11_partOf_0 : zj_KC cX11_partOf RX11 7 (0) (some .long) (0, fun _ => 0) 0 (zb_X11_partOf_0) := (zr_ildn dX11_partOf_0 rfl (zr_ifeq dX11_partOf_1 (tgt := 13) (by decide) (zs_X11_partOf_13) (zr_ildn dX11_partOf_4 rfl (zr_ifeq dX11_partOf_5 (tgt := 17) (by decide) (zs_X11_partOf_17) (zr_ildn dX11_partOf_8 rfl (zr_iconst dX11_partOf_9 rfl (zr_iceq dX11_partOf_10 (tgt := 17) (by decide) (zs_X11_partOf_17) (zs_X11_partOf_13))))))))
def zf_X11_partOf : zj_F := zj_run 7 zb_X11_partOf_0
theorem zm_X11_partOf : zj_MS 0 yX11_partOf cX11_partOf 7 (some .long) zf_X11_partOf := zj_met (own := RX11) rfl (by decide +kernel) (Or.inr (Or.inr (Or.inr (Or.inl rfl)))) (zs_X11_partOf_0)
theorem dX11_odds_0 : decode cX11_odds 0 = .ok (.aload_n 0, 1) := by decide +kernel
theorem dX11_odds_1 : decode cX11_odds 1 = .ok (.iload_n 1, 1) := by decide +kernel
theorem dX11_odds_2 : decode cX11_odds 2 = .ok (.invokevirtual 140, 3) := by decide +kernel
theorem dX11_odds_5 : decode cX11_odds 5 = .ok (.ifCond .eq 13, 3) := by decide +kernel
theorem dX11_odds_8 : decode cX11_odds 8 = .ok (.iload_n 2, 1) := by decide +kernel
theorem dX11_odds_9 : decode cX11_odds 9 = .ok (.ifCond .lt 9, 3) := by decide +kernel
theorem dX11_odds_12 : decode cX11_odds 12 = .ok (.iload_n 2, 1) := by decide +kernel
theorem dX11_odds_13 : decode cX11_odds 13 = .ok (.bipush 60, 2) := by decide +kernel
theorem dX11_odds_15 : decode cX11_odds 15 = .ok (.if_icmp .le 7, 3) := by decide +kernel
theorem dX11_odds_18 : decode cX11_odds 18 = .ok (.ldc2_w 234, 3) := by decide +kernel
theorem dX11_odds_21 : decode cX11_odds 21 = .ok (.lreturn, 1) := by decide +kernel
theorem dX11_odds_22 : decode cX11_odds 22 = .ok (.iconst 0, 1) := by decide +kernel
theorem dX11_odds_23 : decode cX11_odds 23 = .ok (.istore 4, 2) := by decide +kernel
theorem dX11_odds_25 : decode cX11_odds 25 = .ok (.iconst 0, 1) := by decide +kernel
theorem dX11_odds_26 : decode cX11_odds 26 = .ok (.istore 5, 2) := by decide +kernel
theorem dX11_odds_28 : decode cX11_odds 28 = .ok (.iload 5, 2) := by decide +kernel
theorem dX11_odds_30 : decode cX11_odds 30 = .ok (.iconst 4, 1) := by decide +kernel
theorem dX11_odds_31 : decode cX11_odds 31 = .ok (.if_icmp .ge 44, 3) := by decide +kernel
theorem dX11_odds_34 : decode cX11_odds 34 = .ok (.aload_n 0, 1) := by decide +kernel
theorem dX11_odds_35 : decode cX11_odds 35 = .ok (.invokevirtual 209, 3) := by decide +kernel
theorem dX11_odds_38 : decode cX11_odds 38 = .ok (.astore 6, 2) := by decide +kernel
theorem dX11_odds_40 : decode cX11_odds 40 = .ok (.aload 6, 2) := by decide +kernel
theorem dX11_odds_42 : decode cX11_odds 42 = .ok (.getfield 157, 3) := by decide +kernel
theorem dX11_odds_45 : decode cX11_odds 45 = .ok (.iload_n 1, 1) := by decide +kernel
theorem dX11_odds_46 : decode cX11_odds 46 = .ok (.iload 5, 2) := by decide +kernel
theorem dX11_odds_48 : decode cX11_odds 48 = .ok (.iastore, 1) := by decide +kernel
theorem dX11_odds_49 : decode cX11_odds 49 = .ok (.aload 6, 2) := by decide +kernel
theorem dX11_odds_51 : decode cX11_odds 51 = .ok (.iload_n 2, 1) := by decide +kernel
theorem dX11_odds_52 : decode cX11_odds 52 = .ok (.invokevirtual 222, 3) := by decide +kernel
theorem dX11_odds_55 : decode cX11_odds 55 = .ok (.iload 4, 2) := by decide +kernel
theorem dX11_odds_57 : decode cX11_odds 57 = .ok (.aload 6, 2) := by decide +kernel
theorem dX11_odds_59 : decode cX11_odds 59 = .ok (.iload_n 1, 1) := by decide +kernel
theorem dX11_odds_60 : decode cX11_odds 60 = .ok (.invokevirtual 170, 3) := by decide +kernel
theorem dX11_odds_63 : decode cX11_odds 63 = .ok (.invokestatic 163, 3) := by decide +kernel
theorem dX11_odds_66 : decode cX11_odds 66 = .ok (.iadd, 1) := by decide +kernel
theorem dX11_odds_67 : decode cX11_odds 67 = .ok (.istore 4, 2) := by decide +kernel
theorem dX11_odds_69 : decode cX11_odds 69 = .ok (.iinc 5 1, 3) := by decide +kernel
theorem dX11_odds_72 : decode cX11_odds 72 = .ok (.goto (-44), 3) := by decide +kernel
theorem dX11_odds_75 : decode cX11_odds 75 = .ok (.iload 4, 2) := by decide +kernel
theorem dX11_odds_77 : decode cX11_odds 77 = .ok (.iconst 4, 1) := by decide +kernel
theorem dX11_odds_78 : decode cX11_odds 78 = .ok (.iload_n 3, 1) := by decide +kernel
theorem dX11_odds_79 : decode cX11_odds 79 = .ok (.invokestatic 236, 3) := by decide +kernel
theorem dX11_odds_82 : decode cX11_odds 82 = .ok (.lreturn, 1) := by decide +kernel
def zb_X11_odds_18 (E : zj_E) (st : List Value) (m : zj_M) : zj_R := (zi_push (.long (-9223372036854775808)) (zi_ret (some .long))) E st m
set_option maxRecDepth 20000 in
theorem zs_X11_odds_18 : zj_KC cX11_odds RX11 7 (7) (some .long) (0, fun _ => 0) 18 (zb_X11_odds_18) := (zr_ldc2 dX11_odds_18 zq_827 (zr_ret dX11_odds_21))
def zb_X11_odds_28 (r28 : zj_K) (E : zj_E) (st : List Value) (m : zj_M) : zj_R := (zi_ild 5 (zi_push (.int 4) (zi_clt (zi_ald 0 (zi_vc 11 0 zf_X11_startTrial (zi_ast 6 (zi_ald 6 (zi_gf 4 4 (zi_ild 1 (zi_ild 5 (zi_iast (zi_ald 6 (zi_ild 2 (zi_vc 4 1 zf_X4_goOn (zi_ild 4 (zi_ald 6 (zi_ild 1 (zi_vc 4 1 zf_X4_isWrong (zi_call 1 zf_X11_bit (zi_b (fun x y => x + y) (zi_ist 4 (zi_inc 5 1 r28)))) zi_no)))) zi_no))))))))) zi_no)) (zi_ild 4 (zi_push (.int 4) (zi_ild 3 (zi_call 3 zf_X11_partOf (zi_ret (some .long))))))))) E st m
set_option maxRecDepth 20000 in
theorem zs_X11_odds_28 {r28 : zj_K} (h28 : zj_KC cX11_odds RX11 7 (7) (some .long) (0, fun _ => 0) 28 r28) : zj_KC cX11_odds RX11 7 (7) (some .long) (0, fun _ => 0) 28 (zb_X11_odds_28 r28) := (zr_ild dX11_odds_28 (zr_iconst dX11_odds_30 rfl (zr_icge dX11_odds_31 (tgt := 75) (by decide) (zr_ild dX11_odds_75 (zr_iconst dX11_odds_77 rfl (zr_ildn dX11_odds_78 rfl (zr_callS dX11_odds_79 zm_X11_partOf ⟨⟨zq_830, zq_65⟩, by decide +kernel, by omega, by decide⟩ zq_828 zq_829 (zr_ret dX11_odds_82))))) (zr_aldn dX11_odds_34 rfl (zr_callV dX11_odds_35 zm_X11_startTrial ⟨⟨zq_733, zq_65⟩, by decide +kernel, by omega, by decide⟩ rfl rfl zq_730 zq_732 zq_17 (zr_ast dX11_odds_38 (zr_ald dX11_odds_40 (zr_gf dX11_odds_42 zfl_X11_157_4 (zr_ildn dX11_odds_45 rfl (zr_ild dX11_odds_46 (zr_iast dX11_odds_48 (zr_ald dX11_odds_49 (zr_ildn dX11_odds_51 rfl (zr_callV dX11_odds_52 zm_X4_goOn ⟨⟨zq_771, zq_76⟩, by decide +kernel, by omega, by decide⟩ rfl rfl zq_768 zq_769 zq_770 (zr_ild dX11_odds_55 (zr_ald dX11_odds_57 (zr_ildn dX11_odds_59 rfl (zr_callV dX11_odds_60 zm_X4_isWrong ⟨⟨zq_614, zq_76⟩, by decide +kernel, by omega, by decide⟩ rfl rfl zq_611 zq_612 zq_613 (zr_callS dX11_odds_63 zm_X11_bit ⟨⟨zq_610, zq_65⟩, by decide +kernel, by omega, by decide⟩ zq_608 zq_609 (zr_iadd dX11_odds_66 (zr_ist dX11_odds_67 (zr_inc dX11_odds_69 rfl (zr_goto dX11_odds_72 (tgt := 28) (by decide) h28))))) zr_no)))) zr_no))))))))) zr_no)))))
def zb_X11_odds_0 (E : zj_E) (st : List Value) (m : zj_M) : zj_R := (zi_ald 0 (zi_ild 1 (zi_vc 11 1 zf_X11_isWalker (zi_eq zb_X11_odds_18 (zi_ild 2 (zi_lt zb_X11_odds_18 (zi_ild 2 (zi_push (.int 60) (zi_cle (zi_push (.int 0) (zi_ist 4 (zi_push (.int 0) (zi_ist 5 (zj_lp (zb_X11_odds_28) zj_fu))))) zb_X11_odds_18)))))) zi_no))) E st m
set_option maxRecDepth 20000 in
theorem zs_X11_odds_0 : zj_KC cX11_odds RX11 7 (7) (some .long) (0, fun _ => 0) 0 (zb_X11_odds_0) := (zr_aldn dX11_odds_0 rfl (zr_ildn dX11_odds_1 rfl (zr_callV dX11_odds_2 zm_X11_isWalker ⟨⟨zq_597, zq_65⟩, by decide +kernel, by omega, by decide⟩ rfl rfl zq_594 zq_596 zq_13 (zr_ifeq dX11_odds_5 (tgt := 18) (by decide) (zs_X11_odds_18) (zr_ildn dX11_odds_8 rfl (zr_iflt dX11_odds_9 (tgt := 18) (by decide) (zs_X11_odds_18) (zr_ildn dX11_odds_12 rfl (zr_bipush dX11_odds_13 rfl (zr_icle dX11_odds_15 (tgt := 22) (by decide) (zr_iconst dX11_odds_22 rfl (zr_ist dX11_odds_23 (zr_iconst dX11_odds_25 rfl (zr_ist dX11_odds_26 (zr_lp (fun _ h => zs_X11_odds_28 h) zj_fu))))) (zs_X11_odds_18))))))) zr_no)))
def zf_X11_odds : zj_F := zj_run 7 zb_X11_odds_0
theorem zm_X11_odds : zj_MS 7 yX11_odds cX11_odds 7 (some .long) zf_X11_odds := zj_met (own := RX11) rfl (by decide +kernel) (Or.inr (Or.inr (Or.inr (Or.inl rfl)))) (zs_X11_odds_0)
theorem dX11_mean_0 : decode cX11_mean 0 = .ok (.iload_n 1, 1) := by decide +kernel
theorem dX11_mean_1 : decode cX11_mean 1 = .ok (.ifCond .lt 9, 3) := by decide +kernel
theorem dX11_mean_4 : decode cX11_mean 4 = .ok (.iload_n 1, 1) := by decide +kernel
theorem dX11_mean_5 : decode cX11_mean 5 = .ok (.bipush 60, 2) := by decide +kernel
theorem dX11_mean_7 : decode cX11_mean 7 = .ok (.if_icmp .le 7, 3) := by decide +kernel
theorem dX11_mean_10 : decode cX11_mean 10 = .ok (.ldc2_w 234, 3) := by decide +kernel
theorem dX11_mean_13 : decode cX11_mean 13 = .ok (.lreturn, 1) := by decide +kernel
theorem dX11_mean_14 : decode cX11_mean 14 = .ok (.aload_n 0, 1) := by decide +kernel
theorem dX11_mean_15 : decode cX11_mean 15 = .ok (.invokevirtual 209, 3) := by decide +kernel
theorem dX11_mean_18 : decode cX11_mean 18 = .ok (.astore_n 3, 1) := by decide +kernel
theorem dX11_mean_19 : decode cX11_mean 19 = .ok (.aload_n 3, 1) := by decide +kernel
theorem dX11_mean_20 : decode cX11_mean 20 = .ok (.iload_n 1, 1) := by decide +kernel
theorem dX11_mean_21 : decode cX11_mean 21 = .ok (.invokevirtual 222, 3) := by decide +kernel
theorem dX11_mean_24 : decode cX11_mean 24 = .ok (.aload_n 3, 1) := by decide +kernel
theorem dX11_mean_25 : decode cX11_mean 25 = .ok (.invokevirtual 206, 3) := by decide +kernel
theorem dX11_mean_28 : decode cX11_mean 28 = .ok (.aload_n 0, 1) := by decide +kernel
theorem dX11_mean_29 : decode cX11_mean 29 = .ok (.getfield 61, 3) := by decide +kernel
theorem dX11_mean_32 : decode cX11_mean 32 = .ok (.getfield 124, 3) := by decide +kernel
theorem dX11_mean_35 : decode cX11_mean 35 = .ok (.invokevirtual 206, 3) := by decide +kernel
theorem dX11_mean_38 : decode cX11_mean 38 = .ok (.isub, 1) := by decide +kernel
theorem dX11_mean_39 : decode cX11_mean 39 = .ok (.aload_n 0, 1) := by decide +kernel
theorem dX11_mean_40 : decode cX11_mean 40 = .ok (.getfield 61, 3) := by decide +kernel
theorem dX11_mean_43 : decode cX11_mean 43 = .ok (.getfield 124, 3) := by decide +kernel
theorem dX11_mean_46 : decode cX11_mean 46 = .ok (.getfield 134, 3) := by decide +kernel
theorem dX11_mean_49 : decode cX11_mean 49 = .ok (.iload_n 2, 1) := by decide +kernel
theorem dX11_mean_50 : decode cX11_mean 50 = .ok (.invokestatic 236, 3) := by decide +kernel
theorem dX11_mean_53 : decode cX11_mean 53 = .ok (.lreturn, 1) := by decide +kernel
def zb_X11_mean_10 (E : zj_E) (st : List Value) (m : zj_M) : zj_R := (zi_push (.long (-9223372036854775808)) (zi_ret (some .long))) E st m
set_option maxRecDepth 20000 in
theorem zs_X11_mean_10 : zj_KC cX11_mean RX11 4 (7) (some .long) (0, fun _ => 0) 10 (zb_X11_mean_10) := (zr_ldc2 dX11_mean_10 zq_827 (zr_ret dX11_mean_13))
def zb_X11_mean_0 (E : zj_E) (st : List Value) (m : zj_M) : zj_R := (zi_ild 1 (zi_lt zb_X11_mean_10 (zi_ild 1 (zi_push (.int 60) (zi_cle (zi_ald 0 (zi_vc 11 0 zf_X11_startTrial (zi_ast 3 (zi_ald 3 (zi_ild 1 (zi_vc 4 1 zf_X4_goOn (zi_ald 3 (zi_vc 4 0 zf_X4_movedOfAll (zi_ald 0 (zi_gf 11 3 (zi_gf 10 1 (zi_vc 4 0 zf_X4_movedOfAll (zi_b (fun x y => x - y) (zi_ald 0 (zi_gf 11 3 (zi_gf 10 1 (zi_gf 4 7 (zi_ild 2 (zi_call 3 zf_X11_partOf (zi_ret (some .long))))))))) zi_no)))) zi_no)) zi_no)))) zi_no)) zb_X11_mean_10))))) E st m
set_option maxRecDepth 20000 in
theorem zs_X11_mean_0 : zj_KC cX11_mean RX11 4 (7) (some .long) (0, fun _ => 0) 0 (zb_X11_mean_0) := (zr_ildn dX11_mean_0 rfl (zr_iflt dX11_mean_1 (tgt := 10) (by decide) (zs_X11_mean_10) (zr_ildn dX11_mean_4 rfl (zr_bipush dX11_mean_5 rfl (zr_icle dX11_mean_7 (tgt := 14) (by decide) (zr_aldn dX11_mean_14 rfl (zr_callV dX11_mean_15 zm_X11_startTrial ⟨⟨zq_733, zq_65⟩, by decide +kernel, by omega, by decide⟩ rfl rfl zq_730 zq_732 zq_17 (zr_astn dX11_mean_18 rfl (zr_aldn dX11_mean_19 rfl (zr_ildn dX11_mean_20 rfl (zr_callV dX11_mean_21 zm_X4_goOn ⟨⟨zq_771, zq_76⟩, by decide +kernel, by omega, by decide⟩ rfl rfl zq_768 zq_769 zq_770 (zr_aldn dX11_mean_24 rfl (zr_callV dX11_mean_25 zm_X4_movedOfAll ⟨⟨zq_729, zq_76⟩, by decide +kernel, by omega, by decide⟩ rfl rfl zq_726 zq_727 zq_728 (zr_aldn dX11_mean_28 rfl (zr_gf dX11_mean_29 zfl_X11_61_11 (zr_gf dX11_mean_32 zfl_X11_124_10 (zr_callV dX11_mean_35 zm_X4_movedOfAll ⟨⟨zq_729, zq_76⟩, by decide +kernel, by omega, by decide⟩ rfl rfl zq_726 zq_727 zq_728 (zr_isub dX11_mean_38 (zr_aldn dX11_mean_39 rfl (zr_gf dX11_mean_40 zfl_X11_61_11 (zr_gf dX11_mean_43 zfl_X11_124_10 (zr_gf dX11_mean_46 zfl_X11_134_4 (zr_ildn dX11_mean_49 rfl (zr_callS dX11_mean_50 zm_X11_partOf ⟨⟨zq_830, zq_65⟩, by decide +kernel, by omega, by decide⟩ zq_828 zq_829 (zr_ret dX11_mean_53)))))))) zr_no)))) zr_no)) zr_no)))) zr_no)) (zs_X11_mean_10))))))
def zf_X11_mean : zj_F := zj_run 4 zb_X11_mean_0
theorem zm_X11_mean : zj_MS 7 yX11_mean cX11_mean 4 (some .long) zf_X11_mean := zj_met (own := RX11) rfl (by decide +kernel) (Or.inr (Or.inr (Or.inr (Or.inl rfl)))) (zs_X11_mean_0)
theorem dX11_plan_0 : decode cX11_plan 0 = .ok (.iload_n 1, 1) := by decide +kernel
theorem dX11_plan_1 : decode cX11_plan 1 = .ok (.iconst (-1), 1) := by decide +kernel
theorem dX11_plan_2 : decode cX11_plan 2 = .ok (.if_icmp .ne 15, 3) := by decide +kernel
theorem dX11_plan_5 : decode cX11_plan 5 = .ok (.aload_n 0, 1) := by decide +kernel
theorem dX11_plan_6 : decode cX11_plan 6 = .ok (.getfield 61, 3) := by decide +kernel
theorem dX11_plan_9 : decode cX11_plan 9 = .ok (.getfield 240, 3) := by decide +kernel
theorem dX11_plan_12 : decode cX11_plan 12 = .ok (.invokevirtual 100, 3) := by decide +kernel
theorem dX11_plan_15 : decode cX11_plan 15 = .ok (.iconst 0, 1) := by decide +kernel
theorem dX11_plan_16 : decode cX11_plan 16 = .ok (.ireturn, 1) := by decide +kernel
theorem dX11_plan_17 : decode cX11_plan 17 = .ok (.iload_n 1, 1) := by decide +kernel
theorem dX11_plan_18 : decode cX11_plan 18 = .ok (.ifCond .eq 35, 3) := by decide +kernel
theorem dX11_plan_21 : decode cX11_plan 21 = .ok (.iload_n 1, 1) := by decide +kernel
theorem dX11_plan_22 : decode cX11_plan 22 = .ok (.iconst 1, 1) := by decide +kernel
theorem dX11_plan_23 : decode cX11_plan 23 = .ok (.if_icmp .eq 8, 3) := by decide +kernel
theorem dX11_plan_26 : decode cX11_plan 26 = .ok (.iload_n 1, 1) := by decide +kernel
theorem dX11_plan_27 : decode cX11_plan 27 = .ok (.iconst 2, 1) := by decide +kernel
theorem dX11_plan_28 : decode cX11_plan 28 = .ok (.if_icmp .ne 11, 3) := by decide +kernel
theorem dX11_plan_31 : decode cX11_plan 31 = .ok (.aload_n 0, 1) := by decide +kernel
theorem dX11_plan_32 : decode cX11_plan 32 = .ok (.iload_n 2, 1) := by decide +kernel
theorem dX11_plan_33 : decode cX11_plan 33 = .ok (.invokevirtual 140, 3) := by decide +kernel
theorem dX11_plan_36 : decode cX11_plan 36 = .ok (.ifCond .ne 17, 3) := by decide +kernel
theorem dX11_plan_39 : decode cX11_plan 39 = .ok (.iload_n 1, 1) := by decide +kernel
theorem dX11_plan_40 : decode cX11_plan 40 = .ok (.iconst 3, 1) := by decide +kernel
theorem dX11_plan_41 : decode cX11_plan 41 = .ok (.if_icmp .ne 16, 3) := by decide +kernel
theorem dX11_plan_44 : decode cX11_plan 44 = .ok (.iload_n 2, 1) := by decide +kernel
theorem dX11_plan_45 : decode cX11_plan 45 = .ok (.bipush 16, 2) := by decide +kernel
theorem dX11_plan_47 : decode cX11_plan 47 = .ok (.invokestatic 119, 3) := by decide +kernel
theorem dX11_plan_50 : decode cX11_plan 50 = .ok (.ifCond .eq 7, 3) := by decide +kernel
theorem dX11_plan_53 : decode cX11_plan 53 = .ok (.iconst 1, 1) := by decide +kernel
theorem dX11_plan_54 : decode cX11_plan 54 = .ok (.goto 4, 3) := by decide +kernel
theorem dX11_plan_57 : decode cX11_plan 57 = .ok (.iconst 0, 1) := by decide +kernel
theorem dX11_plan_58 : decode cX11_plan 58 = .ok (.istore_n 3, 1) := by decide +kernel
theorem dX11_plan_59 : decode cX11_plan 59 = .ok (.iload_n 3, 1) := by decide +kernel
theorem dX11_plan_60 : decode cX11_plan 60 = .ok (.ifCond .ne 5, 3) := by decide +kernel
theorem dX11_plan_63 : decode cX11_plan 63 = .ok (.iconst (-1), 1) := by decide +kernel
theorem dX11_plan_64 : decode cX11_plan 64 = .ok (.ireturn, 1) := by decide +kernel
theorem dX11_plan_65 : decode cX11_plan 65 = .ok (.aload_n 0, 1) := by decide +kernel
theorem dX11_plan_66 : decode cX11_plan 66 = .ok (.getfield 61, 3) := by decide +kernel
theorem dX11_plan_69 : decode cX11_plan 69 = .ok (.getfield 240, 3) := by decide +kernel
theorem dX11_plan_72 : decode cX11_plan 72 = .ok (.invokevirtual 81, 3) := by decide +kernel
theorem dX11_plan_75 : decode cX11_plan 75 = .ok (.ifCond .eq 6, 3) := by decide +kernel
theorem dX11_plan_78 : decode cX11_plan 78 = .ok (.bipush (-4), 2) := by decide +kernel
theorem dX11_plan_80 : decode cX11_plan 80 = .ok (.ireturn, 1) := by decide +kernel
theorem dX11_plan_81 : decode cX11_plan 81 = .ok (.aload_n 0, 1) := by decide +kernel
theorem dX11_plan_82 : decode cX11_plan 82 = .ok (.getfield 61, 3) := by decide +kernel
theorem dX11_plan_85 : decode cX11_plan 85 = .ok (.getfield 240, 3) := by decide +kernel
theorem dX11_plan_88 : decode cX11_plan 88 = .ok (.iload_n 1, 1) := by decide +kernel
theorem dX11_plan_89 : decode cX11_plan 89 = .ok (.iload_n 2, 1) := by decide +kernel
theorem dX11_plan_90 : decode cX11_plan 90 = .ok (.iconst 0, 1) := by decide +kernel
theorem dX11_plan_91 : decode cX11_plan 91 = .ok (.invokevirtual 85, 3) := by decide +kernel
theorem dX11_plan_94 : decode cX11_plan 94 = .ok (.aload_n 0, 1) := by decide +kernel
theorem dX11_plan_95 : decode cX11_plan 95 = .ok (.getfield 61, 3) := by decide +kernel
theorem dX11_plan_98 : decode cX11_plan 98 = .ok (.getfield 240, 3) := by decide +kernel
theorem dX11_plan_101 : decode cX11_plan 101 = .ok (.getfield 89, 3) := by decide +kernel
theorem dX11_plan_104 : decode cX11_plan 104 = .ok (.ireturn, 1) := by decide +kernel
def zb_X11_plan_58 (E : zj_E) (st : List Value) (m : zj_M) : zj_R := (zi_ist 3 (zi_ild 3 (zi_eq (zi_push (.int (-1)) (zi_ret (some .int))) (zi_ald 0 (zi_gf 11 3 (zi_gf 10 4 (zi_vc 5 0 zf_X5_isFull (zi_eq (zi_ald 0 (zi_gf 11 3 (zi_gf 10 4 (zi_ild 1 (zi_ild 2 (zi_push (.int 0) (zi_vc 5 3 zf_X5_add (zi_ald 0 (zi_gf 11 3 (zi_gf 10 4 (zi_gf 5 3 (zi_ret (some .int)))))) zi_no))))))) (zi_push (.int (-4)) (zi_ret (some .int)))) zi_no))))))) E st m
set_option maxRecDepth 20000 in
theorem zs_X11_plan_58 : zj_KC cX11_plan RX11 4 (2) (some .int) (0, fun _ => 0) 58 (zb_X11_plan_58) := (zr_istn dX11_plan_58 rfl (zr_ildn dX11_plan_59 rfl (zr_ifne dX11_plan_60 (tgt := 65) (by decide) (zr_aldn dX11_plan_65 rfl (zr_gf dX11_plan_66 zfl_X11_61_11 (zr_gf dX11_plan_69 zfl_X11_240_10 (zr_callV dX11_plan_72 zm_X5_isFull ⟨⟨zq_373, zq_66⟩, by decide +kernel, by omega, by decide⟩ rfl rfl zq_370 zq_371 zq_372 (zr_ifeq dX11_plan_75 (tgt := 81) (by decide) (zr_aldn dX11_plan_81 rfl (zr_gf dX11_plan_82 zfl_X11_61_11 (zr_gf dX11_plan_85 zfl_X11_240_10 (zr_ildn dX11_plan_88 rfl (zr_ildn dX11_plan_89 rfl (zr_iconst dX11_plan_90 rfl (zr_callV dX11_plan_91 zm_X5_add ⟨⟨zq_377, zq_66⟩, by decide +kernel, by omega, by decide⟩ rfl rfl zq_374 zq_375 zq_376 (zr_aldn dX11_plan_94 rfl (zr_gf dX11_plan_95 zfl_X11_61_11 (zr_gf dX11_plan_98 zfl_X11_240_10 (zr_gf dX11_plan_101 zfl_X11_89_5 (zr_ret dX11_plan_104))))) zr_no))))))) (zr_bipush dX11_plan_78 rfl (zr_ret dX11_plan_80))) zr_no)))) (zr_iconst dX11_plan_63 rfl (zr_ret dX11_plan_64)))))
def zb_X11_plan_53 (E : zj_E) (st : List Value) (m : zj_M) : zj_R := (zi_push (.int 1) zb_X11_plan_58) E st m
set_option maxRecDepth 20000 in
theorem zs_X11_plan_53 : zj_KC cX11_plan RX11 4 (2) (some .int) (0, fun _ => 0) 53 (zb_X11_plan_53) := (zr_iconst dX11_plan_53 rfl (zr_goto dX11_plan_54 (tgt := 58) (by decide) (zs_X11_plan_58)))
def zb_X11_plan_57 (E : zj_E) (st : List Value) (m : zj_M) : zj_R := (zi_push (.int 0) zb_X11_plan_58) E st m
set_option maxRecDepth 20000 in
theorem zs_X11_plan_57 : zj_KC cX11_plan RX11 4 (2) (some .int) (0, fun _ => 0) 57 (zb_X11_plan_57) := (zr_iconst dX11_plan_57 rfl (zs_X11_plan_58))
def zb_X11_plan_39 (E : zj_E) (st : List Value) (m : zj_M) : zj_R := (zi_ild 1 (zi_push (.int 3) (zi_ceq (zi_ild 2 (zi_push (.int 16) (zi_call 2 zf_X11_isBelow (zi_eq zb_X11_plan_57 zb_X11_plan_53)))) zb_X11_plan_57))) E st m
set_option maxRecDepth 20000 in
theorem zs_X11_plan_39 : zj_KC cX11_plan RX11 4 (2) (some .int) (0, fun _ => 0) 39 (zb_X11_plan_39) := (zr_ildn dX11_plan_39 rfl (zr_iconst dX11_plan_40 rfl (zr_icne dX11_plan_41 (tgt := 57) (by decide) (zs_X11_plan_57) (zr_ildn dX11_plan_44 rfl (zr_bipush dX11_plan_45 rfl (zr_callS dX11_plan_47 zm_X11_isBelow ⟨⟨zq_572, zq_65⟩, by decide +kernel, by omega, by decide⟩ zq_570 zq_571 (zr_ifeq dX11_plan_50 (tgt := 57) (by decide) (zs_X11_plan_57) (zs_X11_plan_53))))))))
def zb_X11_plan_31 (E : zj_E) (st : List Value) (m : zj_M) : zj_R := (zi_ald 0 (zi_ild 2 (zi_vc 11 1 zf_X11_isWalker (zi_eq zb_X11_plan_39 zb_X11_plan_53) zi_no))) E st m
set_option maxRecDepth 20000 in
theorem zs_X11_plan_31 : zj_KC cX11_plan RX11 4 (2) (some .int) (0, fun _ => 0) 31 (zb_X11_plan_31) := (zr_aldn dX11_plan_31 rfl (zr_ildn dX11_plan_32 rfl (zr_callV dX11_plan_33 zm_X11_isWalker ⟨⟨zq_597, zq_65⟩, by decide +kernel, by omega, by decide⟩ rfl rfl zq_594 zq_596 zq_13 (zr_ifne dX11_plan_36 (tgt := 53) (by decide) (zs_X11_plan_53) (zs_X11_plan_39)) zr_no)))
def zb_X11_plan_0 (E : zj_E) (st : List Value) (m : zj_M) : zj_R := (zi_ild 1 (zi_push (.int (-1)) (zi_ceq (zi_ald 0 (zi_gf 11 3 (zi_gf 10 4 (zi_vc 5 0 zf_X5_clear (zi_push (.int 0) (zi_ret (some .int))) zi_no)))) (zi_ild 1 (zi_eq zb_X11_plan_53 (zi_ild 1 (zi_push (.int 1) (zi_ceq zb_X11_plan_31 (zi_ild 1 (zi_push (.int 2) (zi_ceq zb_X11_plan_31 zb_X11_plan_39))))))))))) E st m
set_option maxRecDepth 20000 in
theorem zs_X11_plan_0 : zj_KC cX11_plan RX11 4 (2) (some .int) (0, fun _ => 0) 0 (zb_X11_plan_0) := (zr_ildn dX11_plan_0 rfl (zr_iconst dX11_plan_1 rfl (zr_icne dX11_plan_2 (tgt := 17) (by decide) (zr_ildn dX11_plan_17 rfl (zr_ifeq dX11_plan_18 (tgt := 53) (by decide) (zs_X11_plan_53) (zr_ildn dX11_plan_21 rfl (zr_iconst dX11_plan_22 rfl (zr_iceq dX11_plan_23 (tgt := 31) (by decide) (zs_X11_plan_31) (zr_ildn dX11_plan_26 rfl (zr_iconst dX11_plan_27 rfl (zr_icne dX11_plan_28 (tgt := 39) (by decide) (zs_X11_plan_39) (zs_X11_plan_31))))))))) (zr_aldn dX11_plan_5 rfl (zr_gf dX11_plan_6 zfl_X11_61_11 (zr_gf dX11_plan_9 zfl_X11_240_10 (zr_callV dX11_plan_12 zm_X5_clear ⟨⟨zq_553, zq_66⟩, by decide +kernel, by omega, by decide⟩ rfl rfl zq_550 zq_551 zq_552 (zr_iconst dX11_plan_15 rfl (zr_ret dX11_plan_16)) zr_no)))))))
def zf_X11_plan : zj_F := zj_run 4 zb_X11_plan_0
theorem zm_X11_plan : zj_MS 2 yX11_plan cX11_plan 4 (some .int) zf_X11_plan := zj_met (own := RX11) rfl (by decide +kernel) (Or.inr (Or.inl rfl)) (zs_X11_plan_0)
theorem dX11_done_0 : decode cX11_done 0 = .ok (.iload_n 1, 1) := by decide +kernel
theorem dX11_done_1 : decode cX11_done 1 = .ok (.ifCond .eq 10, 3) := by decide +kernel
theorem dX11_done_4 : decode cX11_done 4 = .ok (.iload_n 1, 1) := by decide +kernel
theorem dX11_done_5 : decode cX11_done 5 = .ok (.iconst 1, 1) := by decide +kernel
theorem dX11_done_6 : decode cX11_done 6 = .ok (.if_icmp .eq 5, 3) := by decide +kernel
theorem dX11_done_9 : decode cX11_done 9 = .ok (.iconst (-1), 1) := by decide +kernel
theorem dX11_done_10 : decode cX11_done 10 = .ok (.ireturn, 1) := by decide +kernel
theorem dX11_done_11 : decode cX11_done 11 = .ok (.aload_n 0, 1) := by decide +kernel
theorem dX11_done_12 : decode cX11_done 12 = .ok (.invokevirtual 209, 3) := by decide +kernel
theorem dX11_done_15 : decode cX11_done 15 = .ok (.astore_n 2, 1) := by decide +kernel
theorem dX11_done_16 : decode cX11_done 16 = .ok (.iconst 0, 1) := by decide +kernel
theorem dX11_done_17 : decode cX11_done 17 = .ok (.istore_n 3, 1) := by decide +kernel
theorem dX11_done_18 : decode cX11_done 18 = .ok (.iload_n 3, 1) := by decide +kernel
theorem dX11_done_19 : decode cX11_done 19 = .ok (.aload_n 0, 1) := by decide +kernel
theorem dX11_done_20 : decode cX11_done 20 = .ok (.getfield 61, 3) := by decide +kernel
theorem dX11_done_23 : decode cX11_done 23 = .ok (.getfield 240, 3) := by decide +kernel
theorem dX11_done_26 : decode cX11_done 26 = .ok (.getfield 89, 3) := by decide +kernel
theorem dX11_done_29 : decode cX11_done 29 = .ok (.if_icmp .ge 102, 3) := by decide +kernel
theorem dX11_done_32 : decode cX11_done 32 = .ok (.aload_n 0, 1) := by decide +kernel
theorem dX11_done_33 : decode cX11_done 33 = .ok (.getfield 61, 3) := by decide +kernel
theorem dX11_done_36 : decode cX11_done 36 = .ok (.getfield 240, 3) := by decide +kernel
theorem dX11_done_39 : decode cX11_done 39 = .ok (.getfield 243, 3) := by decide +kernel
theorem dX11_done_42 : decode cX11_done 42 = .ok (.iload_n 3, 1) := by decide +kernel
theorem dX11_done_43 : decode cX11_done 43 = .ok (.iaload, 1) := by decide +kernel
theorem dX11_done_44 : decode cX11_done 44 = .ok (.istore 4, 2) := by decide +kernel
theorem dX11_done_46 : decode cX11_done 46 = .ok (.aload_n 0, 1) := by decide +kernel
theorem dX11_done_47 : decode cX11_done 47 = .ok (.getfield 61, 3) := by decide +kernel
theorem dX11_done_50 : decode cX11_done 50 = .ok (.getfield 240, 3) := by decide +kernel
theorem dX11_done_53 : decode cX11_done 53 = .ok (.getfield 246, 3) := by decide +kernel
theorem dX11_done_56 : decode cX11_done 56 = .ok (.iload_n 3, 1) := by decide +kernel
theorem dX11_done_57 : decode cX11_done 57 = .ok (.iaload, 1) := by decide +kernel
theorem dX11_done_58 : decode cX11_done 58 = .ok (.tableswitch 62 1 3 #[26, 36, 46], 26) := by decide +kernel
theorem dX11_done_84 : decode cX11_done 84 = .ok (.aload_n 2, 1) := by decide +kernel
theorem dX11_done_85 : decode cX11_done 85 = .ok (.iload 4, 2) := by decide +kernel
theorem dX11_done_87 : decode cX11_done 87 = .ok (.iconst 1, 1) := by decide +kernel
theorem dX11_done_88 : decode cX11_done 88 = .ok (.invokevirtual 189, 3) := by decide +kernel
theorem dX11_done_91 : decode cX11_done 91 = .ok (.goto 34, 3) := by decide +kernel
theorem dX11_done_94 : decode cX11_done 94 = .ok (.aload_n 2, 1) := by decide +kernel
theorem dX11_done_95 : decode cX11_done 95 = .ok (.iload 4, 2) := by decide +kernel
theorem dX11_done_97 : decode cX11_done 97 = .ok (.iconst 0, 1) := by decide +kernel
theorem dX11_done_98 : decode cX11_done 98 = .ok (.invokevirtual 189, 3) := by decide +kernel
theorem dX11_done_101 : decode cX11_done 101 = .ok (.goto 24, 3) := by decide +kernel
theorem dX11_done_104 : decode cX11_done 104 = .ok (.aload_n 2, 1) := by decide +kernel
theorem dX11_done_105 : decode cX11_done 105 = .ok (.dup, 1) := by decide +kernel
theorem dX11_done_106 : decode cX11_done 106 = .ok (.getfield 131, 3) := by decide +kernel
theorem dX11_done_109 : decode cX11_done 109 = .ok (.iconst 1, 1) := by decide +kernel
theorem dX11_done_110 : decode cX11_done 110 = .ok (.iload 4, 2) := by decide +kernel
theorem dX11_done_112 : decode cX11_done 112 = .ok (.ishl, 1) := by decide +kernel
theorem dX11_done_113 : decode cX11_done 113 = .ok (.ixor, 1) := by decide +kernel
theorem dX11_done_114 : decode cX11_done 114 = .ok (.putfield 131, 3) := by decide +kernel
theorem dX11_done_117 : decode cX11_done 117 = .ok (.goto 8, 3) := by decide +kernel
theorem dX11_done_120 : decode cX11_done 120 = .ok (.aload_n 2, 1) := by decide +kernel
theorem dX11_done_121 : decode cX11_done 121 = .ok (.iconst 1, 1) := by decide +kernel
theorem dX11_done_122 : decode cX11_done 122 = .ok (.invokevirtual 222, 3) := by decide +kernel
theorem dX11_done_125 : decode cX11_done 125 = .ok (.iinc 3 1, 3) := by decide +kernel
theorem dX11_done_128 : decode cX11_done 128 = .ok (.goto (-110), 3) := by decide +kernel
theorem dX11_done_131 : decode cX11_done 131 = .ok (.iload_n 1, 1) := by decide +kernel
theorem dX11_done_132 : decode cX11_done 132 = .ok (.ifCond .ne 10, 3) := by decide +kernel
theorem dX11_done_135 : decode cX11_done 135 = .ok (.aload_n 2, 1) := by decide +kernel
theorem dX11_done_136 : decode cX11_done 136 = .ok (.invokevirtual 202, 3) := by decide +kernel
theorem dX11_done_139 : decode cX11_done 139 = .ok (.goto 7, 3) := by decide +kernel
theorem dX11_done_142 : decode cX11_done 142 = .ok (.aload_n 2, 1) := by decide +kernel
theorem dX11_done_143 : decode cX11_done 143 = .ok (.invokevirtual 206, 3) := by decide +kernel
theorem dX11_done_146 : decode cX11_done 146 = .ok (.ireturn, 1) := by decide +kernel
def zb_X11_done_146 (E : zj_E) (st : List Value) (m : zj_M) : zj_R := (zi_ret (some .int)) E st m
set_option maxRecDepth 20000 in
theorem zs_X11_done_146 : zj_KC cX11_done RX11 5 (7) (some .int) (0, fun _ => 0) 146 (zb_X11_done_146) := (zr_ret dX11_done_146)
def zb_X11_done_125 (r18 : zj_K) (E : zj_E) (st : List Value) (m : zj_M) : zj_R := (zi_inc 3 1 r18) E st m
set_option maxRecDepth 20000 in
theorem zs_X11_done_125 {r18 : zj_K} (h18 : zj_KC cX11_done RX11 5 (7) (some .int) (0, fun _ => 0) 18 r18) : zj_KC cX11_done RX11 5 (7) (some .int) (0, fun _ => 0) 125 (zb_X11_done_125 r18) := (zr_inc dX11_done_125 rfl (zr_goto dX11_done_128 (tgt := 18) (by decide) h18))
def zb_X11_done_84 (r18 : zj_K) (E : zj_E) (st : List Value) (m : zj_M) : zj_R := (zi_ald 2 (zi_ild 4 (zi_push (.int 1) (zi_vc 4 2 zf_X4_putAway (zb_X11_done_125 r18) zi_no)))) E st m
set_option maxRecDepth 20000 in
theorem zs_X11_done_84 {r18 : zj_K} (h18 : zj_KC cX11_done RX11 5 (7) (some .int) (0, fun _ => 0) 18 r18) : zj_KC cX11_done RX11 5 (7) (some .int) (0, fun _ => 0) 84 (zb_X11_done_84 r18) := (zr_aldn dX11_done_84 rfl (zr_ild dX11_done_85 (zr_iconst dX11_done_87 rfl (zr_callV dX11_done_88 zm_X4_putAway ⟨⟨zq_589, zq_76⟩, by decide +kernel, by omega, by decide⟩ rfl rfl zq_715 zq_587 zq_588 (zr_goto dX11_done_91 (tgt := 125) (by decide) (zs_X11_done_125 h18)) zr_no))))
def zb_X11_done_94 (r18 : zj_K) (E : zj_E) (st : List Value) (m : zj_M) : zj_R := (zi_ald 2 (zi_ild 4 (zi_push (.int 0) (zi_vc 4 2 zf_X4_putAway (zb_X11_done_125 r18) zi_no)))) E st m
set_option maxRecDepth 20000 in
theorem zs_X11_done_94 {r18 : zj_K} (h18 : zj_KC cX11_done RX11 5 (7) (some .int) (0, fun _ => 0) 18 r18) : zj_KC cX11_done RX11 5 (7) (some .int) (0, fun _ => 0) 94 (zb_X11_done_94 r18) := (zr_aldn dX11_done_94 rfl (zr_ild dX11_done_95 (zr_iconst dX11_done_97 rfl (zr_callV dX11_done_98 zm_X4_putAway ⟨⟨zq_589, zq_76⟩, by decide +kernel, by omega, by decide⟩ rfl rfl zq_715 zq_587 zq_588 (zr_goto dX11_done_101 (tgt := 125) (by decide) (zs_X11_done_125 h18)) zr_no))))
def zb_X11_done_104 (r18 : zj_K) (E : zj_E) (st : List Value) (m : zj_M) : zj_R := (zi_ald 2 (zi_dup (zi_gf 4 9 (zi_push (.int 1) (zi_ild 4 (zi_b (fun x y => x <<< (y &&& 31)) (zi_b (fun x y => x ^^^ y) (zi_pf 4 9 (zb_X11_done_125 r18))))))))) E st m
set_option maxRecDepth 20000 in
theorem zs_X11_done_104 {r18 : zj_K} (h18 : zj_KC cX11_done RX11 5 (7) (some .int) (0, fun _ => 0) 18 r18) : zj_KC cX11_done RX11 5 (7) (some .int) (0, fun _ => 0) 104 (zb_X11_done_104 r18) := (zr_aldn dX11_done_104 rfl (zr_dup dX11_done_105 (zr_gf dX11_done_106 zfl_X11_131_4 (zr_iconst dX11_done_109 rfl (zr_ild dX11_done_110 (zr_ishl dX11_done_112 (zr_ixor dX11_done_113 (zr_pf dX11_done_114 zfl_X11_131_4w (zr_goto dX11_done_117 (tgt := 125) (by decide) (zs_X11_done_125 h18))))))))))
def zb_X11_done_120 (r18 : zj_K) (E : zj_E) (st : List Value) (m : zj_M) : zj_R := (zi_ald 2 (zi_push (.int 1) (zi_vc 4 1 zf_X4_goOn (zb_X11_done_125 r18) zi_no))) E st m
set_option maxRecDepth 20000 in
theorem zs_X11_done_120 {r18 : zj_K} (h18 : zj_KC cX11_done RX11 5 (7) (some .int) (0, fun _ => 0) 18 r18) : zj_KC cX11_done RX11 5 (7) (some .int) (0, fun _ => 0) 120 (zb_X11_done_120 r18) := (zr_aldn dX11_done_120 rfl (zr_iconst dX11_done_121 rfl (zr_callV dX11_done_122 zm_X4_goOn ⟨⟨zq_771, zq_76⟩, by decide +kernel, by omega, by decide⟩ rfl rfl zq_768 zq_769 zq_770 (zs_X11_done_125 h18) zr_no)))
def zb_X11_done_18 (r18 : zj_K) (E : zj_E) (st : List Value) (m : zj_M) : zj_R := (zi_ild 3 (zi_ald 0 (zi_gf 11 3 (zi_gf 10 4 (zi_gf 5 3 (zi_clt (zi_ald 0 (zi_gf 11 3 (zi_gf 10 4 (zi_gf 5 1 (zi_ild 3 (zi_iald (zi_ist 4 (zi_ald 0 (zi_gf 11 3 (zi_gf 10 4 (zi_gf 5 0 (zi_ild 3 (zi_iald (zi_tsw 1 [(zb_X11_done_84 r18), (zb_X11_done_94 r18), (zb_X11_done_104 r18)] (zb_X11_done_120 r18))))))))))))))) (zi_ild 1 (zi_eq (zi_ald 2 (zi_vc 4 0 zf_X4_wrongOnes zb_X11_done_146 zi_no)) (zi_ald 2 (zi_vc 4 0 zf_X4_movedOfAll zb_X11_done_146 zi_no)))))))))) E st m
set_option maxRecDepth 20000 in
theorem zs_X11_done_18 {r18 : zj_K} (h18 : zj_KC cX11_done RX11 5 (7) (some .int) (0, fun _ => 0) 18 r18) : zj_KC cX11_done RX11 5 (7) (some .int) (0, fun _ => 0) 18 (zb_X11_done_18 r18) := (zr_ildn dX11_done_18 rfl (zr_aldn dX11_done_19 rfl (zr_gf dX11_done_20 zfl_X11_61_11 (zr_gf dX11_done_23 zfl_X11_240_10 (zr_gf dX11_done_26 zfl_X11_89_5 (zr_icge dX11_done_29 (tgt := 131) (by decide) (zr_ildn dX11_done_131 rfl (zr_ifne dX11_done_132 (tgt := 142) (by decide) (zr_aldn dX11_done_142 rfl (zr_callV dX11_done_143 zm_X4_movedOfAll ⟨⟨zq_729, zq_76⟩, by decide +kernel, by omega, by decide⟩ rfl rfl zq_726 zq_727 zq_728 (zs_X11_done_146) zr_no)) (zr_aldn dX11_done_135 rfl (zr_callV dX11_done_136 zm_X4_wrongOnes ⟨⟨zq_724, zq_76⟩, by decide +kernel, by omega, by decide⟩ rfl rfl zq_721 zq_722 zq_723 (zr_goto dX11_done_139 (tgt := 146) (by decide) (zs_X11_done_146)) zr_no)))) (zr_aldn dX11_done_32 rfl (zr_gf dX11_done_33 zfl_X11_61_11 (zr_gf dX11_done_36 zfl_X11_240_10 (zr_gf dX11_done_39 zfl_X11_243_5 (zr_ildn dX11_done_42 rfl (zr_iald dX11_done_43 (zr_ist dX11_done_44 (zr_aldn dX11_done_46 rfl (zr_gf dX11_done_47 zfl_X11_61_11 (zr_gf dX11_done_50 zfl_X11_240_10 (zr_gf dX11_done_53 zfl_X11_246_5 (zr_ildn dX11_done_56 rfl (zr_iald dX11_done_57 (zr_tsw dX11_done_58 (tgt := 120) (by decide) (hkd := (zs_X11_done_120 h18)) (tg := [84, 94, 104] ) (hn := rfl) (hoff := by decide) (hl := rfl) ⟨(zs_X11_done_84 h18), (zs_X11_done_94 h18), (zs_X11_done_104 h18), trivial⟩))))))))))))))))))))
def zb_X11_done_11 (E : zj_E) (st : List Value) (m : zj_M) : zj_R := (zi_ald 0 (zi_vc 11 0 zf_X11_startTrial (zi_ast 2 (zi_push (.int 0) (zi_ist 3 (zj_lp (zb_X11_done_18) zj_fu)))) zi_no)) E st m
set_option maxRecDepth 20000 in
theorem zs_X11_done_11 : zj_KC cX11_done RX11 5 (7) (some .int) (0, fun _ => 0) 11 (zb_X11_done_11) := (zr_aldn dX11_done_11 rfl (zr_callV dX11_done_12 zm_X11_startTrial ⟨⟨zq_733, zq_65⟩, by decide +kernel, by omega, by decide⟩ rfl rfl zq_730 zq_732 zq_17 (zr_astn dX11_done_15 rfl (zr_iconst dX11_done_16 rfl (zr_istn dX11_done_17 rfl (zr_lp (fun _ h => zs_X11_done_18 h) zj_fu)))) zr_no))
def zb_X11_done_0 (E : zj_E) (st : List Value) (m : zj_M) : zj_R := (zi_ild 1 (zi_eq zb_X11_done_11 (zi_ild 1 (zi_push (.int 1) (zi_ceq zb_X11_done_11 (zi_push (.int (-1)) (zi_ret (some .int)))))))) E st m
set_option maxRecDepth 20000 in
theorem zs_X11_done_0 : zj_KC cX11_done RX11 5 (7) (some .int) (0, fun _ => 0) 0 (zb_X11_done_0) := (zr_ildn dX11_done_0 rfl (zr_ifeq dX11_done_1 (tgt := 11) (by decide) (zs_X11_done_11) (zr_ildn dX11_done_4 rfl (zr_iconst dX11_done_5 rfl (zr_iceq dX11_done_6 (tgt := 11) (by decide) (zs_X11_done_11) (zr_iconst dX11_done_9 rfl (zr_ret dX11_done_10)))))))
def zf_X11_done : zj_F := zj_run 5 zb_X11_done_0
theorem zm_X11_done : zj_MS 7 yX11_done cX11_done 5 (some .int) zf_X11_done := zj_met (own := RX11) rfl (by decide +kernel) (Or.inr (Or.inl rfl)) (zs_X11_done_0)
theorem dX11_book_0 : decode cX11_book 0 = .ok (.iload_n 1, 1) := by decide +kernel
theorem dX11_book_1 : decode cX11_book 1 = .ok (.iconst (-1), 1) := by decide +kernel
theorem dX11_book_2 : decode cX11_book 2 = .ok (.if_icmp .ne 15, 3) := by decide +kernel
theorem dX11_book_5 : decode cX11_book 5 = .ok (.aload_n 0, 1) := by decide +kernel
theorem dX11_book_6 : decode cX11_book 6 = .ok (.getfield 61, 3) := by decide +kernel
theorem dX11_book_9 : decode cX11_book 9 = .ok (.getfield 249, 3) := by decide +kernel
theorem dX11_book_12 : decode cX11_book 12 = .ok (.invokevirtual 100, 3) := by decide +kernel
theorem dX11_book_15 : decode cX11_book 15 = .ok (.iconst 0, 1) := by decide +kernel
theorem dX11_book_16 : decode cX11_book 16 = .ok (.ireturn, 1) := by decide +kernel
theorem dX11_book_17 : decode cX11_book 17 = .ok (.aload_n 0, 1) := by decide +kernel
theorem dX11_book_18 : decode cX11_book 18 = .ok (.iload_n 1, 1) := by decide +kernel
theorem dX11_book_19 : decode cX11_book 19 = .ok (.invokevirtual 140, 3) := by decide +kernel
theorem dX11_book_22 : decode cX11_book 22 = .ok (.ifCond .eq 11, 3) := by decide +kernel
theorem dX11_book_25 : decode cX11_book 25 = .ok (.iload_n 2, 1) := by decide +kernel
theorem dX11_book_26 : decode cX11_book 26 = .ok (.iconst 4, 1) := by decide +kernel
theorem dX11_book_27 : decode cX11_book 27 = .ok (.invokestatic 119, 3) := by decide +kernel
theorem dX11_book_30 : decode cX11_book 30 = .ok (.ifCond .ne 5, 3) := by decide +kernel
theorem dX11_book_33 : decode cX11_book 33 = .ok (.iconst (-1), 1) := by decide +kernel
theorem dX11_book_34 : decode cX11_book 34 = .ok (.ireturn, 1) := by decide +kernel
theorem dX11_book_35 : decode cX11_book 35 = .ok (.aload_n 0, 1) := by decide +kernel
theorem dX11_book_36 : decode cX11_book 36 = .ok (.getfield 61, 3) := by decide +kernel
theorem dX11_book_39 : decode cX11_book 39 = .ok (.getfield 249, 3) := by decide +kernel
theorem dX11_book_42 : decode cX11_book 42 = .ok (.invokevirtual 81, 3) := by decide +kernel
theorem dX11_book_45 : decode cX11_book 45 = .ok (.ifCond .eq 6, 3) := by decide +kernel
theorem dX11_book_48 : decode cX11_book 48 = .ok (.bipush (-4), 2) := by decide +kernel
theorem dX11_book_50 : decode cX11_book 50 = .ok (.ireturn, 1) := by decide +kernel
theorem dX11_book_51 : decode cX11_book 51 = .ok (.aload_n 0, 1) := by decide +kernel
theorem dX11_book_52 : decode cX11_book 52 = .ok (.getfield 61, 3) := by decide +kernel
theorem dX11_book_55 : decode cX11_book 55 = .ok (.getfield 249, 3) := by decide +kernel
theorem dX11_book_58 : decode cX11_book 58 = .ok (.iload_n 1, 1) := by decide +kernel
theorem dX11_book_59 : decode cX11_book 59 = .ok (.iload_n 2, 1) := by decide +kernel
theorem dX11_book_60 : decode cX11_book 60 = .ok (.iconst 0, 1) := by decide +kernel
theorem dX11_book_61 : decode cX11_book 61 = .ok (.invokevirtual 85, 3) := by decide +kernel
theorem dX11_book_64 : decode cX11_book 64 = .ok (.aload_n 0, 1) := by decide +kernel
theorem dX11_book_65 : decode cX11_book 65 = .ok (.getfield 61, 3) := by decide +kernel
theorem dX11_book_68 : decode cX11_book 68 = .ok (.getfield 249, 3) := by decide +kernel
theorem dX11_book_71 : decode cX11_book 71 = .ok (.getfield 89, 3) := by decide +kernel
theorem dX11_book_74 : decode cX11_book 74 = .ok (.ireturn, 1) := by decide +kernel
def zb_X11_book_33 (E : zj_E) (st : List Value) (m : zj_M) : zj_R := (zi_push (.int (-1)) (zi_ret (some .int))) E st m
set_option maxRecDepth 20000 in
theorem zs_X11_book_33 : zj_KC cX11_book RX11 3 (2) (some .int) (0, fun _ => 0) 33 (zb_X11_book_33) := (zr_iconst dX11_book_33 rfl (zr_ret dX11_book_34))
def zb_X11_book_0 (E : zj_E) (st : List Value) (m : zj_M) : zj_R := (zi_ild 1 (zi_push (.int (-1)) (zi_ceq (zi_ald 0 (zi_gf 11 3 (zi_gf 10 5 (zi_vc 5 0 zf_X5_clear (zi_push (.int 0) (zi_ret (some .int))) zi_no)))) (zi_ald 0 (zi_ild 1 (zi_vc 11 1 zf_X11_isWalker (zi_eq zb_X11_book_33 (zi_ild 2 (zi_push (.int 4) (zi_call 2 zf_X11_isBelow (zi_eq zb_X11_book_33 (zi_ald 0 (zi_gf 11 3 (zi_gf 10 5 (zi_vc 5 0 zf_X5_isFull (zi_eq (zi_ald 0 (zi_gf 11 3 (zi_gf 10 5 (zi_ild 1 (zi_ild 2 (zi_push (.int 0) (zi_vc 5 3 zf_X5_add (zi_ald 0 (zi_gf 11 3 (zi_gf 10 5 (zi_gf 5 3 (zi_ret (some .int)))))) zi_no))))))) (zi_push (.int (-4)) (zi_ret (some .int)))) zi_no))))))))) zi_no)))))) E st m
set_option maxRecDepth 20000 in
theorem zs_X11_book_0 : zj_KC cX11_book RX11 3 (2) (some .int) (0, fun _ => 0) 0 (zb_X11_book_0) := (zr_ildn dX11_book_0 rfl (zr_iconst dX11_book_1 rfl (zr_icne dX11_book_2 (tgt := 17) (by decide) (zr_aldn dX11_book_17 rfl (zr_ildn dX11_book_18 rfl (zr_callV dX11_book_19 zm_X11_isWalker ⟨⟨zq_597, zq_65⟩, by decide +kernel, by omega, by decide⟩ rfl rfl zq_594 zq_596 zq_13 (zr_ifeq dX11_book_22 (tgt := 33) (by decide) (zs_X11_book_33) (zr_ildn dX11_book_25 rfl (zr_iconst dX11_book_26 rfl (zr_callS dX11_book_27 zm_X11_isBelow ⟨⟨zq_572, zq_65⟩, by decide +kernel, by omega, by decide⟩ zq_570 zq_571 (zr_ifne dX11_book_30 (tgt := 35) (by decide) (zr_aldn dX11_book_35 rfl (zr_gf dX11_book_36 zfl_X11_61_11 (zr_gf dX11_book_39 zfl_X11_249_10 (zr_callV dX11_book_42 zm_X5_isFull ⟨⟨zq_373, zq_66⟩, by decide +kernel, by omega, by decide⟩ rfl rfl zq_370 zq_371 zq_372 (zr_ifeq dX11_book_45 (tgt := 51) (by decide) (zr_aldn dX11_book_51 rfl (zr_gf dX11_book_52 zfl_X11_61_11 (zr_gf dX11_book_55 zfl_X11_249_10 (zr_ildn dX11_book_58 rfl (zr_ildn dX11_book_59 rfl (zr_iconst dX11_book_60 rfl (zr_callV dX11_book_61 zm_X5_add ⟨⟨zq_377, zq_66⟩, by decide +kernel, by omega, by decide⟩ rfl rfl zq_374 zq_375 zq_376 (zr_aldn dX11_book_64 rfl (zr_gf dX11_book_65 zfl_X11_61_11 (zr_gf dX11_book_68 zfl_X11_249_10 (zr_gf dX11_book_71 zfl_X11_89_5 (zr_ret dX11_book_74))))) zr_no))))))) (zr_bipush dX11_book_48 rfl (zr_ret dX11_book_50))) zr_no)))) (zs_X11_book_33)))))) zr_no))) (zr_aldn dX11_book_5 rfl (zr_gf dX11_book_6 zfl_X11_61_11 (zr_gf dX11_book_9 zfl_X11_249_10 (zr_callV dX11_book_12 zm_X5_clear ⟨⟨zq_553, zq_66⟩, by decide +kernel, by omega, by decide⟩ rfl rfl zq_550 zq_551 zq_552 (zr_iconst dX11_book_15 rfl (zr_ret dX11_book_16)) zr_no)))))))
def zf_X11_book : zj_F := zj_run 3 zb_X11_book_0
theorem zm_X11_book : zj_MS 2 yX11_book cX11_book 3 (some .int) zf_X11_book := zj_met (own := RX11) rfl (by decide +kernel) (Or.inr (Or.inl rfl)) (zs_X11_book_0)
theorem dX11_looked_0 : decode cX11_looked 0 = .ok (.iconst 0, 1) := by decide +kernel
theorem dX11_looked_1 : decode cX11_looked 1 = .ok (.istore_n 1, 1) := by decide +kernel
theorem dX11_looked_2 : decode cX11_looked 2 = .ok (.iload_n 1, 1) := by decide +kernel
theorem dX11_looked_3 : decode cX11_looked 3 = .ok (.aload_n 0, 1) := by decide +kernel
theorem dX11_looked_4 : decode cX11_looked 4 = .ok (.getfield 61, 3) := by decide +kernel
theorem dX11_looked_7 : decode cX11_looked 7 = .ok (.getfield 249, 3) := by decide +kernel
theorem dX11_looked_10 : decode cX11_looked 10 = .ok (.getfield 89, 3) := by decide +kernel
theorem dX11_looked_13 : decode cX11_looked 13 = .ok (.if_icmp .ge 49, 3) := by decide +kernel
theorem dX11_looked_16 : decode cX11_looked 16 = .ok (.aload_n 0, 1) := by decide +kernel
theorem dX11_looked_17 : decode cX11_looked 17 = .ok (.getfield 61, 3) := by decide +kernel
theorem dX11_looked_20 : decode cX11_looked 20 = .ok (.getfield 124, 3) := by decide +kernel
theorem dX11_looked_23 : decode cX11_looked 23 = .ok (.getfield 157, 3) := by decide +kernel
theorem dX11_looked_26 : decode cX11_looked 26 = .ok (.aload_n 0, 1) := by decide +kernel
theorem dX11_looked_27 : decode cX11_looked 27 = .ok (.getfield 61, 3) := by decide +kernel
theorem dX11_looked_30 : decode cX11_looked 30 = .ok (.getfield 249, 3) := by decide +kernel
theorem dX11_looked_33 : decode cX11_looked 33 = .ok (.getfield 246, 3) := by decide +kernel
theorem dX11_looked_36 : decode cX11_looked 36 = .ok (.iload_n 1, 1) := by decide +kernel
theorem dX11_looked_37 : decode cX11_looked 37 = .ok (.iaload, 1) := by decide +kernel
theorem dX11_looked_38 : decode cX11_looked 38 = .ok (.iaload, 1) := by decide +kernel
theorem dX11_looked_39 : decode cX11_looked 39 = .ok (.aload_n 0, 1) := by decide +kernel
theorem dX11_looked_40 : decode cX11_looked 40 = .ok (.getfield 61, 3) := by decide +kernel
theorem dX11_looked_43 : decode cX11_looked 43 = .ok (.getfield 249, 3) := by decide +kernel
theorem dX11_looked_46 : decode cX11_looked 46 = .ok (.getfield 243, 3) := by decide +kernel
theorem dX11_looked_49 : decode cX11_looked 49 = .ok (.iload_n 1, 1) := by decide +kernel
theorem dX11_looked_50 : decode cX11_looked 50 = .ok (.iaload, 1) := by decide +kernel
theorem dX11_looked_51 : decode cX11_looked 51 = .ok (.if_icmp .eq 5, 3) := by decide +kernel
theorem dX11_looked_54 : decode cX11_looked 54 = .ok (.iload_n 1, 1) := by decide +kernel
theorem dX11_looked_55 : decode cX11_looked 55 = .ok (.ireturn, 1) := by decide +kernel
theorem dX11_looked_56 : decode cX11_looked 56 = .ok (.iinc 1 1, 3) := by decide +kernel
theorem dX11_looked_59 : decode cX11_looked 59 = .ok (.goto (-57), 3) := by decide +kernel
theorem dX11_looked_62 : decode cX11_looked 62 = .ok (.bipush (-5), 2) := by decide +kernel
theorem dX11_looked_64 : decode cX11_looked 64 = .ok (.ireturn, 1) := by decide +kernel
def zb_X11_looked_2 (r2 : zj_K) (E : zj_E) (st : List Value) (m : zj_M) : zj_R := (zi_ild 1 (zi_ald 0 (zi_gf 11 3 (zi_gf 10 5 (zi_gf 5 3 (zi_clt (zi_ald 0 (zi_gf 11 3 (zi_gf 10 1 (zi_gf 4 4 (zi_ald 0 (zi_gf 11 3 (zi_gf 10 5 (zi_gf 5 0 (zi_ild 1 (zi_iald (zi_iald (zi_ald 0 (zi_gf 11 3 (zi_gf 10 5 (zi_gf 5 1 (zi_ild 1 (zi_iald (zi_ceq (zi_inc 1 1 r2) (zi_ild 1 (zi_ret (some .int))))))))))))))))))))) (zi_push (.int (-5)) (zi_ret (some .int))))))))) E st m
set_option maxRecDepth 20000 in
theorem zs_X11_looked_2 {r2 : zj_K} (h2 : zj_KC cX11_looked RX11 2 (0) (some .int) (0, fun _ => 0) 2 r2) : zj_KC cX11_looked RX11 2 (0) (some .int) (0, fun _ => 0) 2 (zb_X11_looked_2 r2) := (zr_ildn dX11_looked_2 rfl (zr_aldn dX11_looked_3 rfl (zr_gf dX11_looked_4 zfl_X11_61_11 (zr_gf dX11_looked_7 zfl_X11_249_10 (zr_gf dX11_looked_10 zfl_X11_89_5 (zr_icge dX11_looked_13 (tgt := 62) (by decide) (zr_bipush dX11_looked_62 rfl (zr_ret dX11_looked_64)) (zr_aldn dX11_looked_16 rfl (zr_gf dX11_looked_17 zfl_X11_61_11 (zr_gf dX11_looked_20 zfl_X11_124_10 (zr_gf dX11_looked_23 zfl_X11_157_4 (zr_aldn dX11_looked_26 rfl (zr_gf dX11_looked_27 zfl_X11_61_11 (zr_gf dX11_looked_30 zfl_X11_249_10 (zr_gf dX11_looked_33 zfl_X11_246_5 (zr_ildn dX11_looked_36 rfl (zr_iald dX11_looked_37 (zr_iald dX11_looked_38 (zr_aldn dX11_looked_39 rfl (zr_gf dX11_looked_40 zfl_X11_61_11 (zr_gf dX11_looked_43 zfl_X11_249_10 (zr_gf dX11_looked_46 zfl_X11_243_5 (zr_ildn dX11_looked_49 rfl (zr_iald dX11_looked_50 (zr_iceq dX11_looked_51 (tgt := 56) (by decide) (zr_inc dX11_looked_56 rfl (zr_goto dX11_looked_59 (tgt := 2) (by decide) h2)) (zr_ildn dX11_looked_54 rfl (zr_ret dX11_looked_55))))))))))))))))))))))))))
def zb_X11_looked_0 (E : zj_E) (st : List Value) (m : zj_M) : zj_R := (zi_push (.int 0) (zi_ist 1 (zj_lp (zb_X11_looked_2) zj_fu))) E st m
set_option maxRecDepth 20000 in
theorem zs_X11_looked_0 : zj_KC cX11_looked RX11 2 (0) (some .int) (0, fun _ => 0) 0 (zb_X11_looked_0) := (zr_iconst dX11_looked_0 rfl (zr_istn dX11_looked_1 rfl (zr_lp (fun _ h => zs_X11_looked_2 h) zj_fu)))
def zf_X11_looked : zj_F := zj_run 2 zb_X11_looked_0
theorem zm_X11_looked : zj_MS 0 yX11_looked cX11_looked 2 (some .int) zf_X11_looked := zj_met (own := RX11) rfl (by decide +kernel) (Or.inr (Or.inl rfl)) (zs_X11_looked_0)
theorem dX11_act_0 : decode cX11_act 0 = .ok (.aload_n 0, 1) := by decide +kernel
theorem dX11_act_1 : decode cX11_act 1 = .ok (.getfield 44, 3) := by decide +kernel
theorem dX11_act_4 : decode cX11_act 4 = .ok (.invokevirtual 100, 3) := by decide +kernel
theorem dX11_act_7 : decode cX11_act 7 = .ok (.aload_n 0, 1) := by decide +kernel
theorem dX11_act_8 : decode cX11_act 8 = .ok (.iload_n 1, 1) := by decide +kernel
theorem dX11_act_9 : decode cX11_act 9 = .ok (.invokevirtual 140, 3) := by decide +kernel
theorem dX11_act_12 : decode cX11_act 12 = .ok (.ifCond .ne 5, 3) := by decide +kernel
theorem dX11_act_15 : decode cX11_act 15 = .ok (.iconst 0, 1) := by decide +kernel
theorem dX11_act_16 : decode cX11_act 16 = .ok (.ireturn, 1) := by decide +kernel
theorem dX11_act_17 : decode cX11_act 17 = .ok (.aload_n 0, 1) := by decide +kernel
theorem dX11_act_18 : decode cX11_act 18 = .ok (.getfield 48, 3) := by decide +kernel
theorem dX11_act_21 : decode cX11_act 21 = .ok (.aload_n 0, 1) := by decide +kernel
theorem dX11_act_22 : decode cX11_act 22 = .ok (.getfield 61, 3) := by decide +kernel
theorem dX11_act_25 : decode cX11_act 25 = .ok (.getfield 124, 3) := by decide +kernel
theorem dX11_act_28 : decode cX11_act 28 = .ok (.getfield 148, 3) := by decide +kernel
theorem dX11_act_31 : decode cX11_act 31 = .ok (.iload_n 1, 1) := by decide +kernel
theorem dX11_act_32 : decode cX11_act 32 = .ok (.iaload, 1) := by decide +kernel
theorem dX11_act_33 : decode cX11_act 33 = .ok (.aaload, 1) := by decide +kernel
theorem dX11_act_34 : decode cX11_act 34 = .ok (.astore 4, 2) := by decide +kernel
theorem dX11_act_36 : decode cX11_act 36 = .ok (.aload_n 0, 1) := by decide +kernel
theorem dX11_act_37 : decode cX11_act 37 = .ok (.getfield 61, 3) := by decide +kernel
theorem dX11_act_40 : decode cX11_act 40 = .ok (.getfield 124, 3) := by decide +kernel
theorem dX11_act_43 : decode cX11_act 43 = .ok (.getfield 151, 3) := by decide +kernel
theorem dX11_act_46 : decode cX11_act 46 = .ok (.iload_n 1, 1) := by decide +kernel
theorem dX11_act_47 : decode cX11_act 47 = .ok (.iaload, 1) := by decide +kernel
theorem dX11_act_48 : decode cX11_act 48 = .ok (.istore 5, 2) := by decide +kernel
theorem dX11_act_50 : decode cX11_act 50 = .ok (.iload_n 2, 1) := by decide +kernel
theorem dX11_act_51 : decode cX11_act 51 = .ok (.tableswitch 55 0 2 #[25, 35, 45], 25) := by decide +kernel
theorem dX11_act_76 : decode cX11_act 76 = .ok (.aload 4, 2) := by decide +kernel
theorem dX11_act_78 : decode cX11_act 78 = .ok (.iload_n 1, 1) := by decide +kernel
theorem dX11_act_79 : decode cX11_act 79 = .ok (.iload 5, 2) := by decide +kernel
theorem dX11_act_81 : decode cX11_act 81 = .ok (.iload_n 3, 1) := by decide +kernel
theorem dX11_act_82 : decode cX11_act 82 = .ok (.invokevirtual 252, 3) := by decide +kernel
theorem dX11_act_85 : decode cX11_act 85 = .ok (.ireturn, 1) := by decide +kernel
theorem dX11_act_86 : decode cX11_act 86 = .ok (.aload 4, 2) := by decide +kernel
theorem dX11_act_88 : decode cX11_act 88 = .ok (.iload_n 1, 1) := by decide +kernel
theorem dX11_act_89 : decode cX11_act 89 = .ok (.iload 5, 2) := by decide +kernel
theorem dX11_act_91 : decode cX11_act 91 = .ok (.iload_n 3, 1) := by decide +kernel
theorem dX11_act_92 : decode cX11_act 92 = .ok (.invokevirtual 256, 3) := by decide +kernel
theorem dX11_act_95 : decode cX11_act 95 = .ok (.ireturn, 1) := by decide +kernel
theorem dX11_act_96 : decode cX11_act 96 = .ok (.aload 4, 2) := by decide +kernel
theorem dX11_act_98 : decode cX11_act 98 = .ok (.iload_n 1, 1) := by decide +kernel
theorem dX11_act_99 : decode cX11_act 99 = .ok (.iload 5, 2) := by decide +kernel
theorem dX11_act_101 : decode cX11_act 101 = .ok (.iload_n 3, 1) := by decide +kernel
theorem dX11_act_102 : decode cX11_act 102 = .ok (.invokevirtual 259, 3) := by decide +kernel
theorem dX11_act_105 : decode cX11_act 105 = .ok (.ireturn, 1) := by decide +kernel
theorem dX11_act_106 : decode cX11_act 106 = .ok (.iconst 0, 1) := by decide +kernel
theorem dX11_act_107 : decode cX11_act 107 = .ok (.ireturn, 1) := by decide +kernel
def zb_X11_act_85 (E : zj_E) (st : List Value) (m : zj_M) : zj_R := (zi_ret (some .int)) E st m
set_option maxRecDepth 20000 in
theorem zs_X11_act_85 : zj_KC cX11_act RX11 6 (8) (some .int) (0, fun _ => 0) 85 (zb_X11_act_85) := (zr_ret dX11_act_85)
def zb_X11_act_76 (E : zj_E) (st : List Value) (m : zj_M) : zj_R := (zi_ald 4 (zi_ild 1 (zi_ild 5 (zi_ild 3 (zi_vc 9 3 zf_X9_strolls zb_X11_act_85 (zi_vc 1 3 zf_X1_strolls zb_X11_act_85 (zi_vc 6 3 zf_X1_strolls zb_X11_act_85 (zi_vc 7 3 zf_X9_strolls zb_X11_act_85 (zi_vc 3 3 zf_X3_strolls zb_X11_act_85 (zi_vc 0 3 zf_X9_strolls zb_X11_act_85 (zi_vc 8 3 zf_X9_strolls zb_X11_act_85 zi_no))))))))))) E st m
set_option maxRecDepth 20000 in
theorem zs_X11_act_76 : zj_KC cX11_act RX11 6 (8) (some .int) (0, fun _ => 0) 76 (zb_X11_act_76) := (zr_ald dX11_act_76 (zr_ildn dX11_act_78 rfl (zr_ild dX11_act_79 (zr_ildn dX11_act_81 rfl (zr_callV dX11_act_82 zm_X9_strolls ⟨⟨zq_884, zq_67⟩, by decide +kernel, by omega, by decide⟩ rfl rfl zq_855 zq_856 zq_857 (zs_X11_act_85) (zr_callU dX11_act_82 zm_X1_strolls ⟨⟨zq_862, zq_68⟩, by decide +kernel, by omega, by decide⟩ rfl zq_855 zq_858 zq_856 zq_884 (by decide +kernel) zq_861 zq_860 (zs_X11_act_85) (zr_callU dX11_act_82 zm_X1_strolls ⟨⟨zq_862, zq_68⟩, by decide +kernel, by omega, by decide⟩ rfl zq_855 zq_858 zq_856 zq_884 (by decide +kernel) zq_861 zq_881 (zs_X11_act_85) (zr_callU dX11_act_82 zm_X9_strolls ⟨⟨zq_884, zq_67⟩, by decide +kernel, by omega, by decide⟩ rfl zq_855 zq_858 zq_856 zq_884 (by decide +kernel) zq_856 zq_882 (zs_X11_act_85) (zr_callU dX11_act_82 zm_X3_strolls ⟨⟨zq_874, zq_72⟩, by decide +kernel, by omega, by decide⟩ rfl zq_855 zq_858 zq_856 zq_884 (by decide +kernel) zq_873 zq_872 (zs_X11_act_85) (zr_callU dX11_act_82 zm_X9_strolls ⟨⟨zq_884, zq_67⟩, by decide +kernel, by omega, by decide⟩ rfl zq_855 zq_858 zq_856 zq_884 (by decide +kernel) zq_856 zq_859 (zs_X11_act_85) (zr_callU dX11_act_82 zm_X9_strolls ⟨⟨zq_884, zq_67⟩, by decide +kernel, by omega, by decide⟩ rfl zq_855 zq_858 zq_856 zq_884 (by decide +kernel) zq_856 zq_883 (zs_X11_act_85) zr_no)))))))))))
def zb_X11_act_95 (E : zj_E) (st : List Value) (m : zj_M) : zj_R := (zi_ret (some .int)) E st m
set_option maxRecDepth 20000 in
theorem zs_X11_act_95 : zj_KC cX11_act RX11 6 (8) (some .int) (0, fun _ => 0) 95 (zb_X11_act_95) := (zr_ret dX11_act_95)
def zb_X11_act_86 (E : zj_E) (st : List Value) (m : zj_M) : zj_R := (zi_ald 4 (zi_ild 1 (zi_ild 5 (zi_ild 3 (zi_vc 9 3 zf_X9_looks zb_X11_act_95 (zi_vc 1 3 zf_X9_looks zb_X11_act_95 (zi_vc 6 3 zf_X9_looks zb_X11_act_95 (zi_vc 7 3 zf_X7_looks zb_X11_act_95 (zi_vc 3 3 zf_X7_looks zb_X11_act_95 (zi_vc 0 3 zf_X9_looks zb_X11_act_95 (zi_vc 8 3 zf_X8_looks zb_X11_act_95 zi_no))))))))))) E st m
set_option maxRecDepth 20000 in
theorem zs_X11_act_86 : zj_KC cX11_act RX11 6 (8) (some .int) (0, fun _ => 0) 86 (zb_X11_act_86) := (zr_ald dX11_act_86 (zr_ildn dX11_act_88 rfl (zr_ild dX11_act_89 (zr_ildn dX11_act_91 rfl (zr_callV dX11_act_92 zm_X9_looks ⟨⟨zq_911, zq_67⟩, by decide +kernel, by omega, by decide⟩ rfl rfl zq_886 zq_887 zq_888 (zs_X11_act_95) (zr_callU dX11_act_92 zm_X9_looks ⟨⟨zq_911, zq_67⟩, by decide +kernel, by omega, by decide⟩ rfl zq_886 zq_889 zq_887 zq_911 (by decide +kernel) zq_887 zq_891 (zs_X11_act_95) (zr_callU dX11_act_92 zm_X9_looks ⟨⟨zq_911, zq_67⟩, by decide +kernel, by omega, by decide⟩ rfl zq_886 zq_889 zq_887 zq_911 (by decide +kernel) zq_887 zq_900 (zs_X11_act_95) (zr_callU dX11_act_92 zm_X7_looks ⟨⟨zq_894, zq_69⟩, by decide +kernel, by omega, by decide⟩ rfl zq_886 zq_889 zq_887 zq_911 (by decide +kernel) zq_893 zq_901 (zs_X11_act_95) (zr_callU dX11_act_92 zm_X7_looks ⟨⟨zq_894, zq_69⟩, by decide +kernel, by omega, by decide⟩ rfl zq_886 zq_889 zq_887 zq_911 (by decide +kernel) zq_893 zq_892 (zs_X11_act_95) (zr_callU dX11_act_92 zm_X9_looks ⟨⟨zq_911, zq_67⟩, by decide +kernel, by omega, by decide⟩ rfl zq_886 zq_889 zq_887 zq_911 (by decide +kernel) zq_887 zq_890 (zs_X11_act_95) (zr_callU dX11_act_92 zm_X8_looks ⟨⟨zq_904, zq_73⟩, by decide +kernel, by omega, by decide⟩ rfl zq_886 zq_889 zq_887 zq_911 (by decide +kernel) zq_903 zq_902 (zs_X11_act_95) zr_no)))))))))))
def zb_X11_act_105 (E : zj_E) (st : List Value) (m : zj_M) : zj_R := (zi_ret (some .int)) E st m
set_option maxRecDepth 20000 in
theorem zs_X11_act_105 : zj_KC cX11_act RX11 6 (8) (some .int) (0, fun _ => 0) 105 (zb_X11_act_105) := (zr_ret dX11_act_105)
def zb_X11_act_96 (E : zj_E) (st : List Value) (m : zj_M) : zj_R := (zi_ald 4 (zi_ild 1 (zi_ild 5 (zi_ild 3 (zi_vc 9 3 zf_X9_tells zb_X11_act_105 (zi_vc 1 3 zf_X9_tells zb_X11_act_105 (zi_vc 6 3 zf_X6_tells zb_X11_act_105 (zi_vc 7 3 zf_X9_tells zb_X11_act_105 (zi_vc 3 3 zf_X9_tells zb_X11_act_105 (zi_vc 0 3 zf_X0_tells zb_X11_act_105 (zi_vc 8 3 zf_X0_tells zb_X11_act_105 zi_no))))))))))) E st m
set_option maxRecDepth 20000 in
theorem zs_X11_act_96 : zj_KC cX11_act RX11 6 (8) (some .int) (0, fun _ => 0) 96 (zb_X11_act_96) := (zr_ald dX11_act_96 (zr_ildn dX11_act_98 rfl (zr_ild dX11_act_99 (zr_ildn dX11_act_101 rfl (zr_callV dX11_act_102 zm_X9_tells ⟨⟨zq_942, zq_67⟩, by decide +kernel, by omega, by decide⟩ rfl rfl zq_913 zq_914 zq_915 (zs_X11_act_105) (zr_callU dX11_act_102 zm_X9_tells ⟨⟨zq_942, zq_67⟩, by decide +kernel, by omega, by decide⟩ rfl zq_913 zq_916 zq_914 zq_942 (by decide +kernel) zq_914 zq_925 (zs_X11_act_105) (zr_callU dX11_act_102 zm_X6_tells ⟨⟨zq_929, zq_71⟩, by decide +kernel, by omega, by decide⟩ rfl zq_913 zq_916 zq_914 zq_942 (by decide +kernel) zq_928 zq_927 (zs_X11_act_105) (zr_callU dX11_act_102 zm_X9_tells ⟨⟨zq_942, zq_67⟩, by decide +kernel, by omega, by decide⟩ rfl zq_913 zq_916 zq_914 zq_942 (by decide +kernel) zq_914 zq_940 (zs_X11_act_105) (zr_callU dX11_act_102 zm_X9_tells ⟨⟨zq_942, zq_67⟩, by decide +kernel, by omega, by decide⟩ rfl zq_913 zq_916 zq_914 zq_942 (by decide +kernel) zq_914 zq_926 (zs_X11_act_105) (zr_callU dX11_act_102 zm_X0_tells ⟨⟨zq_919, zq_70⟩, by decide +kernel, by omega, by decide⟩ rfl zq_913 zq_916 zq_914 zq_942 (by decide +kernel) zq_918 zq_917 (zs_X11_act_105) (zr_callU dX11_act_102 zm_X0_tells ⟨⟨zq_919, zq_70⟩, by decide +kernel, by omega, by decide⟩ rfl zq_913 zq_916 zq_914 zq_942 (by decide +kernel) zq_918 zq_941 (zs_X11_act_105) zr_no)))))))))))
def zb_X11_act_106 (E : zj_E) (st : List Value) (m : zj_M) : zj_R := (zi_push (.int 0) (zi_ret (some .int))) E st m
set_option maxRecDepth 20000 in
theorem zs_X11_act_106 : zj_KC cX11_act RX11 6 (8) (some .int) (0, fun _ => 0) 106 (zb_X11_act_106) := (zr_iconst dX11_act_106 rfl (zr_ret dX11_act_107))
def zb_X11_act_0 (E : zj_E) (st : List Value) (m : zj_M) : zj_R := (zi_ald 0 (zi_gf 11 0 (zi_vc 5 0 zf_X5_clear (zi_ald 0 (zi_ild 1 (zi_vc 11 1 zf_X11_isWalker (zi_eq (zi_push (.int 0) (zi_ret (some .int))) (zi_ald 0 (zi_gf 11 1 (zi_ald 0 (zi_gf 11 3 (zi_gf 10 1 (zi_gf 4 1 (zi_ild 1 (zi_iald (zi_aald (zi_ast 4 (zi_ald 0 (zi_gf 11 3 (zi_gf 10 1 (zi_gf 4 2 (zi_ild 1 (zi_iald (zi_ist 5 (zi_ild 2 (zi_tsw 0 [zb_X11_act_76, zb_X11_act_86, zb_X11_act_96] zb_X11_act_106)))))))))))))))))))) zi_no))) zi_no))) E st m
set_option maxRecDepth 20000 in
theorem zs_X11_act_0 : zj_KC cX11_act RX11 6 (8) (some .int) (0, fun _ => 0) 0 (zb_X11_act_0) := (zr_aldn dX11_act_0 rfl (zr_gf dX11_act_1 zfl_X11_44_11 (zr_callV dX11_act_4 zm_X5_clear ⟨⟨zq_553, zq_66⟩, by decide +kernel, by omega, by decide⟩ rfl rfl zq_550 zq_551 zq_552 (zr_aldn dX11_act_7 rfl (zr_ildn dX11_act_8 rfl (zr_callV dX11_act_9 zm_X11_isWalker ⟨⟨zq_597, zq_65⟩, by decide +kernel, by omega, by decide⟩ rfl rfl zq_594 zq_596 zq_13 (zr_ifne dX11_act_12 (tgt := 17) (by decide) (zr_aldn dX11_act_17 rfl (zr_gf dX11_act_18 zfl_X11_48_11 (zr_aldn dX11_act_21 rfl (zr_gf dX11_act_22 zfl_X11_61_11 (zr_gf dX11_act_25 zfl_X11_124_10 (zr_gf dX11_act_28 zfl_X11_148_4 (zr_ildn dX11_act_31 rfl (zr_iald dX11_act_32 (zr_aald dX11_act_33 (zr_ast dX11_act_34 (zr_aldn dX11_act_36 rfl (zr_gf dX11_act_37 zfl_X11_61_11 (zr_gf dX11_act_40 zfl_X11_124_10 (zr_gf dX11_act_43 zfl_X11_151_4 (zr_ildn dX11_act_46 rfl (zr_iald dX11_act_47 (zr_ist dX11_act_48 (zr_ildn dX11_act_50 rfl (zr_tsw dX11_act_51 (tgt := 106) (by decide) (hkd := (zs_X11_act_106)) (tg := [76, 86, 96] ) (hn := rfl) (hoff := by decide) (hl := rfl) ⟨(zs_X11_act_76), (zs_X11_act_86), (zs_X11_act_96), trivial⟩))))))))))))))))))) (zr_iconst dX11_act_15 rfl (zr_ret dX11_act_16))) zr_no))) zr_no)))
def zf_X11_act : zj_F := zj_run 6 zb_X11_act_0
theorem zm_X11_act : zj_MS 8 yX11_act cX11_act 6 (some .int) zf_X11_act := zj_met (own := RX11) rfl (by decide +kernel) (Or.inr (Or.inl rfl)) (zs_X11_act_0)
theorem dX11_trace_0 : decode cX11_trace 0 = .ok (.iload_n 1, 1) := by decide +kernel
theorem dX11_trace_1 : decode cX11_trace 1 = .ok (.ifCond .lt 26, 3) := by decide +kernel
theorem dX11_trace_4 : decode cX11_trace 4 = .ok (.iload_n 1, 1) := by decide +kernel
theorem dX11_trace_5 : decode cX11_trace 5 = .ok (.aload_n 0, 1) := by decide +kernel
theorem dX11_trace_6 : decode cX11_trace 6 = .ok (.getfield 44, 3) := by decide +kernel
theorem dX11_trace_9 : decode cX11_trace 9 = .ok (.getfield 89, 3) := by decide +kernel
theorem dX11_trace_12 : decode cX11_trace 12 = .ok (.if_icmp .ge 15, 3) := by decide +kernel
theorem dX11_trace_15 : decode cX11_trace 15 = .ok (.iload_n 1, 1) := by decide +kernel
theorem dX11_trace_16 : decode cX11_trace 16 = .ok (.aload_n 0, 1) := by decide +kernel
theorem dX11_trace_17 : decode cX11_trace 17 = .ok (.getfield 44, 3) := by decide +kernel
theorem dX11_trace_20 : decode cX11_trace 20 = .ok (.getfield 246, 3) := by decide +kernel
theorem dX11_trace_23 : decode cX11_trace 23 = .ok (.arraylength, 1) := by decide +kernel
theorem dX11_trace_24 : decode cX11_trace 24 = .ok (.if_icmp .lt 5, 3) := by decide +kernel
theorem dX11_trace_27 : decode cX11_trace 27 = .ok (.iconst (-1), 1) := by decide +kernel
theorem dX11_trace_28 : decode cX11_trace 28 = .ok (.ireturn, 1) := by decide +kernel
theorem dX11_trace_29 : decode cX11_trace 29 = .ok (.aload_n 0, 1) := by decide +kernel
theorem dX11_trace_30 : decode cX11_trace 30 = .ok (.getfield 44, 3) := by decide +kernel
theorem dX11_trace_33 : decode cX11_trace 33 = .ok (.getfield 246, 3) := by decide +kernel
theorem dX11_trace_36 : decode cX11_trace 36 = .ok (.iload_n 1, 1) := by decide +kernel
theorem dX11_trace_37 : decode cX11_trace 37 = .ok (.iaload, 1) := by decide +kernel
theorem dX11_trace_38 : decode cX11_trace 38 = .ok (.ireturn, 1) := by decide +kernel
def zb_X11_trace_27 (E : zj_E) (st : List Value) (m : zj_M) : zj_R := (zi_push (.int (-1)) (zi_ret (some .int))) E st m
set_option maxRecDepth 20000 in
theorem zs_X11_trace_27 : zj_KC cX11_trace RX11 2 (0) (some .int) (0, fun _ => 0) 27 (zb_X11_trace_27) := (zr_iconst dX11_trace_27 rfl (zr_ret dX11_trace_28))
def zb_X11_trace_0 (E : zj_E) (st : List Value) (m : zj_M) : zj_R := (zi_ild 1 (zi_lt zb_X11_trace_27 (zi_ild 1 (zi_ald 0 (zi_gf 11 0 (zi_gf 5 3 (zi_clt (zi_ild 1 (zi_ald 0 (zi_gf 11 0 (zi_gf 5 0 (zi_alen (zi_clt (zi_ald 0 (zi_gf 11 0 (zi_gf 5 0 (zi_ild 1 (zi_iald (zi_ret (some .int))))))) zb_X11_trace_27)))))) zb_X11_trace_27))))))) E st m
set_option maxRecDepth 20000 in
theorem zs_X11_trace_0 : zj_KC cX11_trace RX11 2 (0) (some .int) (0, fun _ => 0) 0 (zb_X11_trace_0) := (zr_ildn dX11_trace_0 rfl (zr_iflt dX11_trace_1 (tgt := 27) (by decide) (zs_X11_trace_27) (zr_ildn dX11_trace_4 rfl (zr_aldn dX11_trace_5 rfl (zr_gf dX11_trace_6 zfl_X11_44_11 (zr_gf dX11_trace_9 zfl_X11_89_5 (zr_icge dX11_trace_12 (tgt := 27) (by decide) (zs_X11_trace_27) (zr_ildn dX11_trace_15 rfl (zr_aldn dX11_trace_16 rfl (zr_gf dX11_trace_17 zfl_X11_44_11 (zr_gf dX11_trace_20 zfl_X11_246_5 (zr_alen dX11_trace_23 (zr_iclt dX11_trace_24 (tgt := 29) (by decide) (zr_aldn dX11_trace_29 rfl (zr_gf dX11_trace_30 zfl_X11_44_11 (zr_gf dX11_trace_33 zfl_X11_246_5 (zr_ildn dX11_trace_36 rfl (zr_iald dX11_trace_37 (zr_ret dX11_trace_38)))))) (zs_X11_trace_27))))))))))))))
def zf_X11_trace : zj_F := zj_run 2 zb_X11_trace_0
theorem zm_X11_trace : zj_MS 0 yX11_trace cX11_trace 2 (some .int) zf_X11_trace := zj_met (own := RX11) rfl (by decide +kernel) (Or.inr (Or.inl rfl)) (zs_X11_trace_0)
theorem dX11_as_0 : decode cX11_as 0 = .ok (.aload_n 0, 1) := by decide +kernel
theorem dX11_as_1 : decode cX11_as 1 = .ok (.iload_n 1, 1) := by decide +kernel
theorem dX11_as_2 : decode cX11_as 2 = .ok (.invokevirtual 140, 3) := by decide +kernel
theorem dX11_as_5 : decode cX11_as 5 = .ok (.ifCond .eq 12, 3) := by decide +kernel
theorem dX11_as_8 : decode cX11_as 8 = .ok (.iload_n 2, 1) := by decide +kernel
theorem dX11_as_9 : decode cX11_as 9 = .ok (.bipush 7, 2) := by decide +kernel
theorem dX11_as_11 : decode cX11_as 11 = .ok (.invokestatic 119, 3) := by decide +kernel
theorem dX11_as_14 : decode cX11_as 14 = .ok (.ifCond .ne 5, 3) := by decide +kernel
theorem dX11_as_17 : decode cX11_as 17 = .ok (.iconst (-1), 1) := by decide +kernel
theorem dX11_as_18 : decode cX11_as 18 = .ok (.ireturn, 1) := by decide +kernel
theorem dX11_as_19 : decode cX11_as 19 = .ok (.aload_n 0, 1) := by decide +kernel
theorem dX11_as_20 : decode cX11_as 20 = .ok (.iload_n 1, 1) := by decide +kernel
theorem dX11_as_21 : decode cX11_as 21 = .ok (.iload_n 2, 1) := by decide +kernel
theorem dX11_as_22 : decode cX11_as 22 = .ok (.invokevirtual 183, 3) := by decide +kernel
theorem dX11_as_25 : decode cX11_as 25 = .ok (.ifCond .eq 18, 3) := by decide +kernel
theorem dX11_as_28 : decode cX11_as 28 = .ok (.aload_n 0, 1) := by decide +kernel
theorem dX11_as_29 : decode cX11_as 29 = .ok (.getfield 61, 3) := by decide +kernel
theorem dX11_as_32 : decode cX11_as 32 = .ok (.getfield 124, 3) := by decide +kernel
theorem dX11_as_35 : decode cX11_as 35 = .ok (.getfield 151, 3) := by decide +kernel
theorem dX11_as_38 : decode cX11_as 38 = .ok (.iload_n 1, 1) := by decide +kernel
theorem dX11_as_39 : decode cX11_as 39 = .ok (.iaload, 1) := by decide +kernel
theorem dX11_as_40 : decode cX11_as 40 = .ok (.goto 5, 3) := by decide +kernel
theorem dX11_as_43 : decode cX11_as 43 = .ok (.bipush (-6), 2) := by decide +kernel
theorem dX11_as_45 : decode cX11_as 45 = .ok (.ireturn, 1) := by decide +kernel
def zb_X11_as_17 (E : zj_E) (st : List Value) (m : zj_M) : zj_R := (zi_push (.int (-1)) (zi_ret (some .int))) E st m
set_option maxRecDepth 20000 in
theorem zs_X11_as_17 : zj_KC cX11_as RX11 3 (2) (some .int) (0, fun _ => 0) 17 (zb_X11_as_17) := (zr_iconst dX11_as_17 rfl (zr_ret dX11_as_18))
def zb_X11_as_45 (E : zj_E) (st : List Value) (m : zj_M) : zj_R := (zi_ret (some .int)) E st m
set_option maxRecDepth 20000 in
theorem zs_X11_as_45 : zj_KC cX11_as RX11 3 (2) (some .int) (0, fun _ => 0) 45 (zb_X11_as_45) := (zr_ret dX11_as_45)
def zb_X11_as_0 (E : zj_E) (st : List Value) (m : zj_M) : zj_R := (zi_ald 0 (zi_ild 1 (zi_vc 11 1 zf_X11_isWalker (zi_eq zb_X11_as_17 (zi_ild 2 (zi_push (.int 7) (zi_call 2 zf_X11_isBelow (zi_eq zb_X11_as_17 (zi_ald 0 (zi_ild 1 (zi_ild 2 (zi_vc 11 2 zf_X11_isUnder (zi_eq (zi_push (.int (-6)) zb_X11_as_45) (zi_ald 0 (zi_gf 11 3 (zi_gf 10 1 (zi_gf 4 2 (zi_ild 1 (zi_iald zb_X11_as_45))))))) zi_no))))))))) zi_no))) E st m
set_option maxRecDepth 20000 in
theorem zs_X11_as_0 : zj_KC cX11_as RX11 3 (2) (some .int) (0, fun _ => 0) 0 (zb_X11_as_0) := (zr_aldn dX11_as_0 rfl (zr_ildn dX11_as_1 rfl (zr_callV dX11_as_2 zm_X11_isWalker ⟨⟨zq_597, zq_65⟩, by decide +kernel, by omega, by decide⟩ rfl rfl zq_594 zq_596 zq_13 (zr_ifeq dX11_as_5 (tgt := 17) (by decide) (zs_X11_as_17) (zr_ildn dX11_as_8 rfl (zr_bipush dX11_as_9 rfl (zr_callS dX11_as_11 zm_X11_isBelow ⟨⟨zq_572, zq_65⟩, by decide +kernel, by omega, by decide⟩ zq_570 zq_571 (zr_ifne dX11_as_14 (tgt := 19) (by decide) (zr_aldn dX11_as_19 rfl (zr_ildn dX11_as_20 rfl (zr_ildn dX11_as_21 rfl (zr_callV dX11_as_22 zm_X11_isUnder ⟨⟨zq_706, zq_65⟩, by decide +kernel, by omega, by decide⟩ rfl rfl zq_703 zq_705 zq_16 (zr_ifeq dX11_as_25 (tgt := 43) (by decide) (zr_bipush dX11_as_43 rfl (zs_X11_as_45)) (zr_aldn dX11_as_28 rfl (zr_gf dX11_as_29 zfl_X11_61_11 (zr_gf dX11_as_32 zfl_X11_124_10 (zr_gf dX11_as_35 zfl_X11_151_4 (zr_ildn dX11_as_38 rfl (zr_iald dX11_as_39 (zr_goto dX11_as_40 (tgt := 45) (by decide) (zs_X11_as_45))))))))) zr_no)))) (zs_X11_as_17)))))) zr_no)))
def zf_X11_as : zj_F := zj_run 3 zb_X11_as_0
theorem zm_X11_as : zj_MS 2 yX11_as cX11_as 3 (some .int) zf_X11_as := zj_met (own := RX11) rfl (by decide +kernel) (Or.inr (Or.inl rfl)) (zs_X11_as_0)
theorem dX11_image_0 : decode cX11_image 0 = .ok (.aload_n 0, 1) := by decide +kernel
theorem dX11_image_1 : decode cX11_image 1 = .ok (.getfield 65, 3) := by decide +kernel
theorem dX11_image_4 : decode cX11_image 4 = .ok (.aload_n 0, 1) := by decide +kernel
theorem dX11_image_5 : decode cX11_image 5 = .ok (.getfield 61, 3) := by decide +kernel
theorem dX11_image_8 : decode cX11_image 8 = .ok (.invokevirtual 262, 3) := by decide +kernel
theorem dX11_image_11 : decode cX11_image 11 = .ok (.aload_n 0, 1) := by decide +kernel
theorem dX11_image_12 : decode cX11_image 12 = .ok (.iconst 1, 1) := by decide +kernel
theorem dX11_image_13 : decode cX11_image 13 = .ok (.putfield 265, 3) := by decide +kernel
theorem dX11_image_16 : decode cX11_image 16 = .ok (.aload_n 0, 1) := by decide +kernel
theorem dX11_image_17 : decode cX11_image 17 = .ok (.getfield 61, 3) := by decide +kernel
theorem dX11_image_20 : decode cX11_image 20 = .ok (.getfield 124, 3) := by decide +kernel
theorem dX11_image_23 : decode cX11_image 23 = .ok (.getfield 134, 3) := by decide +kernel
theorem dX11_image_26 : decode cX11_image 26 = .ok (.ireturn, 1) := by decide +kernel
def zb_X11_image_0 (E : zj_E) (st : List Value) (m : zj_M) : zj_R := (zi_ald 0 (zi_gf 11 4 (zi_ald 0 (zi_gf 11 3 (zi_vc 10 1 zf_X10_copyFrom (zi_ald 0 (zi_push (.int 1) (zi_pz 11 6 (zi_ald 0 (zi_gf 11 3 (zi_gf 10 1 (zi_gf 4 7 (zi_ret (some .int))))))))) zi_no))))) E st m
set_option maxRecDepth 20000 in
theorem zs_X11_image_0 : zj_KC cX11_image RX11 1 (4) (some .int) (0, fun _ => 0) 0 (zb_X11_image_0) := (zr_aldn dX11_image_0 rfl (zr_gf dX11_image_1 zfl_X11_65_11 (zr_aldn dX11_image_4 rfl (zr_gf dX11_image_5 zfl_X11_61_11 (zr_callV dX11_image_8 zm_X10_copyFrom ⟨⟨zq_959, zq_75⟩, by decide +kernel, by omega, by decide⟩ rfl rfl zq_956 zq_957 zq_958 (zr_aldn dX11_image_11 rfl (zr_iconst dX11_image_12 rfl (zr_pz dX11_image_13 zfl_X11_265_11w (zr_aldn dX11_image_16 rfl (zr_gf dX11_image_17 zfl_X11_61_11 (zr_gf dX11_image_20 zfl_X11_124_10 (zr_gf dX11_image_23 zfl_X11_134_4 (zr_ret dX11_image_26)))))))) zr_no)))))
def zf_X11_image : zj_F := zj_run 1 zb_X11_image_0
theorem zm_X11_image : zj_MS 4 yX11_image cX11_image 1 (some .int) zf_X11_image := zj_met (own := RX11) rfl (by decide +kernel) (Or.inr (Or.inl rfl)) (zs_X11_image_0)
theorem dX11_undo_0 : decode cX11_undo 0 = .ok (.aload_n 0, 1) := by decide +kernel
theorem dX11_undo_1 : decode cX11_undo 1 = .ok (.getfield 265, 3) := by decide +kernel
theorem dX11_undo_4 : decode cX11_undo 4 = .ok (.ifCond .ne 6, 3) := by decide +kernel
theorem dX11_undo_7 : decode cX11_undo 7 = .ok (.bipush (-3), 2) := by decide +kernel
theorem dX11_undo_9 : decode cX11_undo 9 = .ok (.ireturn, 1) := by decide +kernel
theorem dX11_undo_10 : decode cX11_undo 10 = .ok (.aload_n 0, 1) := by decide +kernel
theorem dX11_undo_11 : decode cX11_undo 11 = .ok (.getfield 61, 3) := by decide +kernel
theorem dX11_undo_14 : decode cX11_undo 14 = .ok (.aload_n 0, 1) := by decide +kernel
theorem dX11_undo_15 : decode cX11_undo 15 = .ok (.getfield 65, 3) := by decide +kernel
theorem dX11_undo_18 : decode cX11_undo 18 = .ok (.invokevirtual 262, 3) := by decide +kernel
theorem dX11_undo_21 : decode cX11_undo 21 = .ok (.aload_n 0, 1) := by decide +kernel
theorem dX11_undo_22 : decode cX11_undo 22 = .ok (.getfield 61, 3) := by decide +kernel
theorem dX11_undo_25 : decode cX11_undo 25 = .ok (.getfield 124, 3) := by decide +kernel
theorem dX11_undo_28 : decode cX11_undo 28 = .ok (.getfield 134, 3) := by decide +kernel
theorem dX11_undo_31 : decode cX11_undo 31 = .ok (.ireturn, 1) := by decide +kernel
def zb_X11_undo_0 (E : zj_E) (st : List Value) (m : zj_M) : zj_R := (zi_ald 0 (zi_gf 11 6 (zi_eq (zi_push (.int (-3)) (zi_ret (some .int))) (zi_ald 0 (zi_gf 11 3 (zi_ald 0 (zi_gf 11 4 (zi_vc 10 1 zf_X10_copyFrom (zi_ald 0 (zi_gf 11 3 (zi_gf 10 1 (zi_gf 4 7 (zi_ret (some .int)))))) zi_no)))))))) E st m
set_option maxRecDepth 20000 in
theorem zs_X11_undo_0 : zj_KC cX11_undo RX11 1 (4) (some .int) (0, fun _ => 0) 0 (zb_X11_undo_0) := (zr_aldn dX11_undo_0 rfl (zr_gf dX11_undo_1 zfl_X11_265_11 (zr_ifne dX11_undo_4 (tgt := 10) (by decide) (zr_aldn dX11_undo_10 rfl (zr_gf dX11_undo_11 zfl_X11_61_11 (zr_aldn dX11_undo_14 rfl (zr_gf dX11_undo_15 zfl_X11_65_11 (zr_callV dX11_undo_18 zm_X10_copyFrom ⟨⟨zq_959, zq_75⟩, by decide +kernel, by omega, by decide⟩ rfl rfl zq_956 zq_957 zq_958 (zr_aldn dX11_undo_21 rfl (zr_gf dX11_undo_22 zfl_X11_61_11 (zr_gf dX11_undo_25 zfl_X11_124_10 (zr_gf dX11_undo_28 zfl_X11_134_4 (zr_ret dX11_undo_31))))) zr_no))))) (zr_bipush dX11_undo_7 rfl (zr_ret dX11_undo_9)))))
def zf_X11_undo : zj_F := zj_run 1 zb_X11_undo_0
theorem zm_X11_undo : zj_MS 4 yX11_undo cX11_undo 1 (some .int) zf_X11_undo := zj_met (own := RX11) rfl (by decide +kernel) (Or.inr (Or.inl rfl)) (zs_X11_undo_0)
