theorem dX6_tells_0 : decode cX6_tells 0 = .ok (.aload_n 0, 1) := by decide +kernel
theorem dX6_tells_1 : decode cX6_tells 1 = .ok (.bipush 41, 2) := by decide +kernel
theorem dX6_tells_3 : decode cX6_tells 3 = .ok (.invokevirtual 21, 3) := by decide +kernel
theorem dX6_tells_6 : decode cX6_tells 6 = .ok (.aload_n 0, 1) := by decide +kernel
theorem dX6_tells_7 : decode cX6_tells 7 = .ok (.iload_n 1, 1) := by decide +kernel
theorem dX6_tells_8 : decode cX6_tells 8 = .ok (.iload_n 2, 1) := by decide +kernel
theorem dX6_tells_9 : decode cX6_tells 9 = .ok (.iload_n 3, 1) := by decide +kernel
theorem dX6_tells_10 : decode cX6_tells 10 = .ok (.iconst 1, 1) := by decide +kernel
theorem dX6_tells_11 : decode cX6_tells 11 = .ok (.isub, 1) := by decide +kernel
theorem dX6_tells_12 : decode cX6_tells 12 = .ok (.invokespecial 27, 3) := by decide +kernel
theorem dX6_tells_15 : decode cX6_tells 15 = .ok (.aload_n 0, 1) := by decide +kernel
theorem dX6_tells_16 : decode cX6_tells 16 = .ok (.iload_n 1, 1) := by decide +kernel
theorem dX6_tells_17 : decode cX6_tells 17 = .ok (.iload_n 2, 1) := by decide +kernel
theorem dX6_tells_18 : decode cX6_tells 18 = .ok (.iconst 2, 1) := by decide +kernel
theorem dX6_tells_19 : decode cX6_tells 19 = .ok (.invokevirtual 31, 3) := by decide +kernel
theorem dX6_tells_22 : decode cX6_tells 22 = .ok (.iadd, 1) := by decide +kernel
theorem dX6_tells_23 : decode cX6_tells 23 = .ok (.ireturn, 1) := by decide +kernel
def zb_X6_tells_0 (E : zj_E) (st : List Value) (m : zj_M) : zj_R := (zi_ald 0 (zi_push (.int 41) (zi_vc 6 1 zf_X9_begin (zi_ald 0 (zi_ild 1 (zi_ild 2 (zi_ild 3 (zi_push (.int 1) (zi_b (fun x y => x - y) (zi_vc 6 3 zf_X9_tells (zi_ald 0 (zi_ild 1 (zi_ild 2 (zi_push (.int 2) (zi_vc 6 3 zf_X1_strolls (zi_b (fun x y => x + y) (zi_ret (some .int))) zi_no))))) zi_no))))))) zi_no))) E st m
set_option maxRecDepth 20000 in
theorem zs_X6_tells_0 : zj_KC cX6_tells RX6 4 (7) (some .int) (0, fun _ => 0) 0 (zb_X6_tells_0) := (zr_aldn dX6_tells_0 rfl (zr_bipush dX6_tells_1 rfl (zr_callU dX6_tells_3 zm_X9_begin ⟨⟨zq_869, zq_67⟩, by decide +kernel, by omega, by decide⟩ rfl zq_930 zq_931 zq_868 zq_869 (by decide +kernel) zq_868 zq_932 (zr_aldn dX6_tells_6 rfl (zr_ildn dX6_tells_7 rfl (zr_ildn dX6_tells_8 rfl (zr_ildn dX6_tells_9 rfl (zr_iconst dX6_tells_10 rfl (zr_isub dX6_tells_11 (zr_callSUx dX6_tells_12 zm_X9_tells ⟨⟨zq_942, zq_67⟩, by decide +kernel, by omega, by decide⟩ rfl rfl zq_933 zq_934 zq_165 zq_141 (by decide) zq_914 (zr_aldn dX6_tells_15 rfl (zr_ildn dX6_tells_16 rfl (zr_ildn dX6_tells_17 rfl (zr_iconst dX6_tells_18 rfl (zr_callU dX6_tells_19 zm_X1_strolls ⟨⟨zq_862, zq_68⟩, by decide +kernel, by omega, by decide⟩ rfl zq_936 zq_937 zq_861 zq_862 (by decide +kernel) zq_861 zq_939 (zr_iadd dX6_tells_22 (zr_ret dX6_tells_23)) zr_no))))) zr_no))))))) zr_no)))
def zf_X6_tells : zj_F := zj_run 4 zb_X6_tells_0
theorem zm_X6_tells : zj_MS 7 yX6_tells cX6_tells 4 (some .int) zf_X6_tells := zj_met (own := RX6) rfl (by decide +kernel) (Or.inr (Or.inl rfl)) (zs_X6_tells_0)
theorem dX10_copyFrom_0 : decode cX10_copyFrom 0 = .ok (.aload_n 0, 1) := by decide +kernel
theorem dX10_copyFrom_1 : decode cX10_copyFrom 1 = .ok (.getfield 31, 3) := by decide +kernel
theorem dX10_copyFrom_4 : decode cX10_copyFrom 4 = .ok (.aload_n 1, 1) := by decide +kernel
theorem dX10_copyFrom_5 : decode cX10_copyFrom 5 = .ok (.getfield 31, 3) := by decide +kernel
theorem dX10_copyFrom_8 : decode cX10_copyFrom 8 = .ok (.invokevirtual 44, 3) := by decide +kernel
theorem dX10_copyFrom_11 : decode cX10_copyFrom 11 = .ok (.aload_n 0, 1) := by decide +kernel
theorem dX10_copyFrom_12 : decode cX10_copyFrom 12 = .ok (.getfield 40, 3) := by decide +kernel
theorem dX10_copyFrom_15 : decode cX10_copyFrom 15 = .ok (.aload_n 1, 1) := by decide +kernel
theorem dX10_copyFrom_16 : decode cX10_copyFrom 16 = .ok (.getfield 40, 3) := by decide +kernel
theorem dX10_copyFrom_19 : decode cX10_copyFrom 19 = .ok (.invokevirtual 48, 3) := by decide +kernel
theorem dX10_copyFrom_22 : decode cX10_copyFrom 22 = .ok (.aload_n 0, 1) := by decide +kernel
theorem dX10_copyFrom_23 : decode cX10_copyFrom 23 = .ok (.getfield 16, 3) := by decide +kernel
theorem dX10_copyFrom_26 : decode cX10_copyFrom 26 = .ok (.aload_n 1, 1) := by decide +kernel
theorem dX10_copyFrom_27 : decode cX10_copyFrom 27 = .ok (.getfield 16, 3) := by decide +kernel
theorem dX10_copyFrom_30 : decode cX10_copyFrom 30 = .ok (.invokevirtual 51, 3) := by decide +kernel
theorem dX10_copyFrom_33 : decode cX10_copyFrom 33 = .ok (.aload_n 0, 1) := by decide +kernel
theorem dX10_copyFrom_34 : decode cX10_copyFrom 34 = .ok (.getfield 22, 3) := by decide +kernel
theorem dX10_copyFrom_37 : decode cX10_copyFrom 37 = .ok (.aload_n 1, 1) := by decide +kernel
theorem dX10_copyFrom_38 : decode cX10_copyFrom 38 = .ok (.getfield 22, 3) := by decide +kernel
theorem dX10_copyFrom_41 : decode cX10_copyFrom 41 = .ok (.invokevirtual 51, 3) := by decide +kernel
theorem dX10_copyFrom_44 : decode cX10_copyFrom 44 = .ok (.aload_n 0, 1) := by decide +kernel
theorem dX10_copyFrom_45 : decode cX10_copyFrom 45 = .ok (.getfield 25, 3) := by decide +kernel
theorem dX10_copyFrom_48 : decode cX10_copyFrom 48 = .ok (.aload_n 1, 1) := by decide +kernel
theorem dX10_copyFrom_49 : decode cX10_copyFrom 49 = .ok (.getfield 25, 3) := by decide +kernel
theorem dX10_copyFrom_52 : decode cX10_copyFrom 52 = .ok (.invokevirtual 51, 3) := by decide +kernel
theorem dX10_copyFrom_55 : decode cX10_copyFrom 55 = .ok (.aload_n 0, 1) := by decide +kernel
theorem dX10_copyFrom_56 : decode cX10_copyFrom 56 = .ok (.getfield 28, 3) := by decide +kernel
theorem dX10_copyFrom_59 : decode cX10_copyFrom 59 = .ok (.aload_n 1, 1) := by decide +kernel
theorem dX10_copyFrom_60 : decode cX10_copyFrom 60 = .ok (.getfield 28, 3) := by decide +kernel
theorem dX10_copyFrom_63 : decode cX10_copyFrom 63 = .ok (.invokevirtual 51, 3) := by decide +kernel
theorem dX10_copyFrom_66 : decode cX10_copyFrom 66 = .ok (.aload_n 0, 1) := by decide +kernel
theorem dX10_copyFrom_67 : decode cX10_copyFrom 67 = .ok (.aload_n 1, 1) := by decide +kernel
theorem dX10_copyFrom_68 : decode cX10_copyFrom 68 = .ok (.getfield 54, 3) := by decide +kernel
theorem dX10_copyFrom_71 : decode cX10_copyFrom 71 = .ok (.putfield 54, 3) := by decide +kernel
theorem dX10_copyFrom_74 : decode cX10_copyFrom 74 = .ok (.return_, 1) := by decide +kernel
def zb_X10_copyFrom_0 (E : zj_E) (st : List Value) (m : zj_M) : zj_R := (zi_ald 0 (zi_gf 10 0 (zi_ald 1 (zi_gf 10 0 (zi_vc 2 1 zf_X2_copyFrom (zi_ald 0 (zi_gf 10 1 (zi_ald 1 (zi_gf 10 1 (zi_vc 4 1 zf_X4_copyFrom (zi_ald 0 (zi_gf 10 2 (zi_ald 1 (zi_gf 10 2 (zi_vc 5 1 zf_X5_copyFrom (zi_ald 0 (zi_gf 10 3 (zi_ald 1 (zi_gf 10 3 (zi_vc 5 1 zf_X5_copyFrom (zi_ald 0 (zi_gf 10 4 (zi_ald 1 (zi_gf 10 4 (zi_vc 5 1 zf_X5_copyFrom (zi_ald 0 (zi_gf 10 5 (zi_ald 1 (zi_gf 10 5 (zi_vc 5 1 zf_X5_copyFrom (zi_ald 0 (zi_ald 1 (zi_gf 10 6 (zi_pf 10 6 (zi_ret none))))) zi_no))))) zi_no))))) zi_no))))) zi_no))))) zi_no))))) zi_no))))) E st m
set_option maxRecDepth 20000 in
theorem zs_X10_copyFrom_0 : zj_KC cX10_copyFrom RX10 2 (3) none (0, fun _ => 0) 0 (zb_X10_copyFrom_0) := (zr_aldn dX10_copyFrom_0 rfl (zr_gf dX10_copyFrom_1 zfl_X10_31_10 (zr_aldn dX10_copyFrom_4 rfl (zr_gf dX10_copyFrom_5 zfl_X10_31_10 (zr_callV dX10_copyFrom_8 zm_X2_copyFrom ⟨⟨zq_557, zq_74⟩, by decide +kernel, by omega, by decide⟩ rfl rfl zq_960 zq_555 zq_556 (zr_aldn dX10_copyFrom_11 rfl (zr_gf dX10_copyFrom_12 zfl_X10_40_10 (zr_aldn dX10_copyFrom_15 rfl (zr_gf dX10_copyFrom_16 zfl_X10_40_10 (zr_callV dX10_copyFrom_19 zm_X4_copyFrom ⟨⟨zq_737, zq_76⟩, by decide +kernel, by omega, by decide⟩ rfl rfl zq_961 zq_735 zq_736 (zr_aldn dX10_copyFrom_22 rfl (zr_gf dX10_copyFrom_23 zfl_X10_16_10 (zr_aldn dX10_copyFrom_26 rfl (zr_gf dX10_copyFrom_27 zfl_X10_16_10 (zr_callV dX10_copyFrom_30 zm_X5_copyFrom ⟨⟨zq_965, zq_66⟩, by decide +kernel, by omega, by decide⟩ rfl rfl zq_962 zq_963 zq_964 (zr_aldn dX10_copyFrom_33 rfl (zr_gf dX10_copyFrom_34 zfl_X10_22_10 (zr_aldn dX10_copyFrom_37 rfl (zr_gf dX10_copyFrom_38 zfl_X10_22_10 (zr_callV dX10_copyFrom_41 zm_X5_copyFrom ⟨⟨zq_965, zq_66⟩, by decide +kernel, by omega, by decide⟩ rfl rfl zq_962 zq_963 zq_964 (zr_aldn dX10_copyFrom_44 rfl (zr_gf dX10_copyFrom_45 zfl_X10_25_10 (zr_aldn dX10_copyFrom_48 rfl (zr_gf dX10_copyFrom_49 zfl_X10_25_10 (zr_callV dX10_copyFrom_52 zm_X5_copyFrom ⟨⟨zq_965, zq_66⟩, by decide +kernel, by omega, by decide⟩ rfl rfl zq_962 zq_963 zq_964 (zr_aldn dX10_copyFrom_55 rfl (zr_gf dX10_copyFrom_56 zfl_X10_28_10 (zr_aldn dX10_copyFrom_59 rfl (zr_gf dX10_copyFrom_60 zfl_X10_28_10 (zr_callV dX10_copyFrom_63 zm_X5_copyFrom ⟨⟨zq_965, zq_66⟩, by decide +kernel, by omega, by decide⟩ rfl rfl zq_962 zq_963 zq_964 (zr_aldn dX10_copyFrom_66 rfl (zr_aldn dX10_copyFrom_67 rfl (zr_gf dX10_copyFrom_68 zfl_X10_54_10 (zr_pf dX10_copyFrom_71 zfl_X10_54_10w (zr_ret dX10_copyFrom_74))))) zr_no))))) zr_no))))) zr_no))))) zr_no))))) zr_no))))) zr_no)))))
def zf_X10_copyFrom : zj_F := zj_run 2 zb_X10_copyFrom_0
theorem zm_X10_copyFrom : zj_MS 3 yX10_copyFrom cX10_copyFrom 2 none zf_X10_copyFrom := zj_met (own := RX10) rfl (by decide +kernel) (Or.inl rfl) (zs_X10_copyFrom_0)
theorem dX11_feed_0 : decode cX11_feed 0 = .ok (.iload_n 1, 1) := by decide +kernel
theorem dX11_feed_1 : decode cX11_feed 1 = .ok (.ifCond .lt 9, 3) := by decide +kernel
theorem dX11_feed_4 : decode cX11_feed 4 = .ok (.iload_n 1, 1) := by decide +kernel
theorem dX11_feed_5 : decode cX11_feed 5 = .ok (.bipush 127, 2) := by decide +kernel
theorem dX11_feed_7 : decode cX11_feed 7 = .ok (.if_icmp .le 6, 3) := by decide +kernel
theorem dX11_feed_10 : decode cX11_feed 10 = .ok (.bipush (-2), 2) := by decide +kernel
theorem dX11_feed_12 : decode cX11_feed 12 = .ok (.ireturn, 1) := by decide +kernel
theorem dX11_feed_13 : decode cX11_feed 13 = .ok (.aload_n 0, 1) := by decide +kernel
theorem dX11_feed_14 : decode cX11_feed 14 = .ok (.getfield 61, 3) := by decide +kernel
theorem dX11_feed_17 : decode cX11_feed 17 = .ok (.getfield 78, 3) := by decide +kernel
theorem dX11_feed_20 : decode cX11_feed 20 = .ok (.invokevirtual 81, 3) := by decide +kernel
theorem dX11_feed_23 : decode cX11_feed 23 = .ok (.ifCond .eq 6, 3) := by decide +kernel
theorem dX11_feed_26 : decode cX11_feed 26 = .ok (.bipush (-4), 2) := by decide +kernel
theorem dX11_feed_28 : decode cX11_feed 28 = .ok (.ireturn, 1) := by decide +kernel
theorem dX11_feed_29 : decode cX11_feed 29 = .ok (.aload_n 0, 1) := by decide +kernel
theorem dX11_feed_30 : decode cX11_feed 30 = .ok (.getfield 61, 3) := by decide +kernel
theorem dX11_feed_33 : decode cX11_feed 33 = .ok (.getfield 78, 3) := by decide +kernel
theorem dX11_feed_36 : decode cX11_feed 36 = .ok (.iload_n 1, 1) := by decide +kernel
theorem dX11_feed_37 : decode cX11_feed 37 = .ok (.iconst 0, 1) := by decide +kernel
theorem dX11_feed_38 : decode cX11_feed 38 = .ok (.iconst 0, 1) := by decide +kernel
theorem dX11_feed_39 : decode cX11_feed 39 = .ok (.invokevirtual 85, 3) := by decide +kernel
theorem dX11_feed_42 : decode cX11_feed 42 = .ok (.aload_n 0, 1) := by decide +kernel
theorem dX11_feed_43 : decode cX11_feed 43 = .ok (.getfield 61, 3) := by decide +kernel
theorem dX11_feed_46 : decode cX11_feed 46 = .ok (.getfield 78, 3) := by decide +kernel
theorem dX11_feed_49 : decode cX11_feed 49 = .ok (.getfield 89, 3) := by decide +kernel
theorem dX11_feed_52 : decode cX11_feed 52 = .ok (.ireturn, 1) := by decide +kernel
def zb_X11_feed_10 (E : zj_E) (st : List Value) (m : zj_M) : zj_R := (zi_push (.int (-2)) (zi_ret (some .int))) E st m
set_option maxRecDepth 20000 in
theorem zs_X11_feed_10 : zj_KC cX11_feed RX11 2 (1) (some .int) (0, fun _ => 0) 10 (zb_X11_feed_10) := (zr_bipush dX11_feed_10 rfl (zr_ret dX11_feed_12))
def zb_X11_feed_0 (E : zj_E) (st : List Value) (m : zj_M) : zj_R := (zi_ild 1 (zi_lt zb_X11_feed_10 (zi_ild 1 (zi_push (.int 127) (zi_cle (zi_ald 0 (zi_gf 11 3 (zi_gf 10 2 (zi_vc 5 0 zf_X5_isFull (zi_eq (zi_ald 0 (zi_gf 11 3 (zi_gf 10 2 (zi_ild 1 (zi_push (.int 0) (zi_push (.int 0) (zi_vc 5 3 zf_X5_add (zi_ald 0 (zi_gf 11 3 (zi_gf 10 2 (zi_gf 5 3 (zi_ret (some .int)))))) zi_no))))))) (zi_push (.int (-4)) (zi_ret (some .int)))) zi_no)))) zb_X11_feed_10))))) E st m
set_option maxRecDepth 20000 in
theorem zs_X11_feed_0 : zj_KC cX11_feed RX11 2 (1) (some .int) (0, fun _ => 0) 0 (zb_X11_feed_0) := (zr_ildn dX11_feed_0 rfl (zr_iflt dX11_feed_1 (tgt := 10) (by decide) (zs_X11_feed_10) (zr_ildn dX11_feed_4 rfl (zr_bipush dX11_feed_5 rfl (zr_icle dX11_feed_7 (tgt := 13) (by decide) (zr_aldn dX11_feed_13 rfl (zr_gf dX11_feed_14 zfl_X11_61_11 (zr_gf dX11_feed_17 zfl_X11_78_10 (zr_callV dX11_feed_20 zm_X5_isFull ⟨⟨zq_373, zq_66⟩, by decide +kernel, by omega, by decide⟩ rfl rfl zq_370 zq_371 zq_372 (zr_ifeq dX11_feed_23 (tgt := 29) (by decide) (zr_aldn dX11_feed_29 rfl (zr_gf dX11_feed_30 zfl_X11_61_11 (zr_gf dX11_feed_33 zfl_X11_78_10 (zr_ildn dX11_feed_36 rfl (zr_iconst dX11_feed_37 rfl (zr_iconst dX11_feed_38 rfl (zr_callV dX11_feed_39 zm_X5_add ⟨⟨zq_377, zq_66⟩, by decide +kernel, by omega, by decide⟩ rfl rfl zq_374 zq_375 zq_376 (zr_aldn dX11_feed_42 rfl (zr_gf dX11_feed_43 zfl_X11_61_11 (zr_gf dX11_feed_46 zfl_X11_78_10 (zr_gf dX11_feed_49 zfl_X11_89_5 (zr_ret dX11_feed_52))))) zr_no))))))) (zr_bipush dX11_feed_26 rfl (zr_ret dX11_feed_28))) zr_no)))) (zs_X11_feed_10))))))
def zf_X11_feed : zj_F := zj_run 2 zb_X11_feed_0
theorem zm_X11_feed : zj_MS 1 yX11_feed cX11_feed 2 (some .int) zf_X11_feed := zj_met (own := RX11) rfl (by decide +kernel) (Or.inr (Or.inl rfl)) (zs_X11_feed_0)
theorem dX11_park_0 : decode cX11_park 0 = .ok (.aload_n 0, 1) := by decide +kernel
theorem dX11_park_1 : decode cX11_park 1 = .ok (.getfield 61, 3) := by decide +kernel
theorem dX11_park_4 : decode cX11_park 4 = .ok (.getfield 93, 3) := by decide +kernel
theorem dX11_park_7 : decode cX11_park 7 = .ok (.iconst 5, 1) := by decide +kernel
theorem dX11_park_8 : decode cX11_park 8 = .ok (.if_icmp .lt 6, 3) := by decide +kernel
theorem dX11_park_11 : decode cX11_park 11 = .ok (.bipush (-4), 2) := by decide +kernel
theorem dX11_park_13 : decode cX11_park 13 = .ok (.ireturn, 1) := by decide +kernel
theorem dX11_park_14 : decode cX11_park 14 = .ok (.aload_n 0, 1) := by decide +kernel
theorem dX11_park_15 : decode cX11_park 15 = .ok (.getfield 52, 3) := by decide +kernel
theorem dX11_park_18 : decode cX11_park 18 = .ok (.aload_n 0, 1) := by decide +kernel
theorem dX11_park_19 : decode cX11_park 19 = .ok (.getfield 61, 3) := by decide +kernel
theorem dX11_park_22 : decode cX11_park 22 = .ok (.getfield 78, 3) := by decide +kernel
theorem dX11_park_25 : decode cX11_park 25 = .ok (.invokevirtual 96, 3) := by decide +kernel
theorem dX11_park_28 : decode cX11_park 28 = .ok (.istore_n 1, 1) := by decide +kernel
theorem dX11_park_29 : decode cX11_park 29 = .ok (.aload_n 0, 1) := by decide +kernel
theorem dX11_park_30 : decode cX11_park 30 = .ok (.getfield 61, 3) := by decide +kernel
theorem dX11_park_33 : decode cX11_park 33 = .ok (.getfield 78, 3) := by decide +kernel
theorem dX11_park_36 : decode cX11_park 36 = .ok (.invokevirtual 100, 3) := by decide +kernel
theorem dX11_park_39 : decode cX11_park 39 = .ok (.iload_n 1, 1) := by decide +kernel
theorem dX11_park_40 : decode cX11_park 40 = .ok (.ifCond .ne 14, 3) := by decide +kernel
theorem dX11_park_43 : decode cX11_park 43 = .ok (.bipush (-10), 2) := by decide +kernel
theorem dX11_park_45 : decode cX11_park 45 = .ok (.aload_n 0, 1) := by decide +kernel
theorem dX11_park_46 : decode cX11_park 46 = .ok (.getfield 52, 3) := by decide +kernel
theorem dX11_park_49 : decode cX11_park 49 = .ok (.getfield 103, 3) := by decide +kernel
theorem dX11_park_52 : decode cX11_park 52 = .ok (.isub, 1) := by decide +kernel
theorem dX11_park_53 : decode cX11_park 53 = .ok (.ireturn, 1) := by decide +kernel
theorem dX11_park_54 : decode cX11_park 54 = .ok (.aload_n 0, 1) := by decide +kernel
theorem dX11_park_55 : decode cX11_park 55 = .ok (.dup, 1) := by decide +kernel
theorem dX11_park_56 : decode cX11_park 56 = .ok (.getfield 106, 3) := by decide +kernel
theorem dX11_park_59 : decode cX11_park 59 = .ok (.iconst 1, 1) := by decide +kernel
theorem dX11_park_60 : decode cX11_park 60 = .ok (.iadd, 1) := by decide +kernel
theorem dX11_park_61 : decode cX11_park 61 = .ok (.putfield 106, 3) := by decide +kernel
theorem dX11_park_64 : decode cX11_park 64 = .ok (.aload_n 0, 1) := by decide +kernel
theorem dX11_park_65 : decode cX11_park 65 = .ok (.getfield 52, 3) := by decide +kernel
theorem dX11_park_68 : decode cX11_park 68 = .ok (.aload_n 0, 1) := by decide +kernel
theorem dX11_park_69 : decode cX11_park 69 = .ok (.getfield 106, 3) := by decide +kernel
theorem dX11_park_72 : decode cX11_park 72 = .ok (.putfield 109, 3) := by decide +kernel
theorem dX11_park_75 : decode cX11_park 75 = .ok (.aload_n 0, 1) := by decide +kernel
theorem dX11_park_76 : decode cX11_park 76 = .ok (.getfield 61, 3) := by decide +kernel
theorem dX11_park_79 : decode cX11_park 79 = .ok (.getfield 112, 3) := by decide +kernel
theorem dX11_park_82 : decode cX11_park 82 = .ok (.aload_n 0, 1) := by decide +kernel
theorem dX11_park_83 : decode cX11_park 83 = .ok (.getfield 52, 3) := by decide +kernel
theorem dX11_park_86 : decode cX11_park 86 = .ok (.invokevirtual 115, 3) := by decide +kernel
theorem dX11_park_89 : decode cX11_park 89 = .ok (.aload_n 0, 1) := by decide +kernel
theorem dX11_park_90 : decode cX11_park 90 = .ok (.getfield 61, 3) := by decide +kernel
theorem dX11_park_93 : decode cX11_park 93 = .ok (.dup, 1) := by decide +kernel
theorem dX11_park_94 : decode cX11_park 94 = .ok (.getfield 93, 3) := by decide +kernel
theorem dX11_park_97 : decode cX11_park 97 = .ok (.iconst 1, 1) := by decide +kernel
theorem dX11_park_98 : decode cX11_park 98 = .ok (.iadd, 1) := by decide +kernel
theorem dX11_park_99 : decode cX11_park 99 = .ok (.putfield 93, 3) := by decide +kernel
theorem dX11_park_102 : decode cX11_park 102 = .ok (.aload_n 0, 1) := by decide +kernel
theorem dX11_park_103 : decode cX11_park 103 = .ok (.getfield 61, 3) := by decide +kernel
theorem dX11_park_106 : decode cX11_park 106 = .ok (.getfield 93, 3) := by decide +kernel
theorem dX11_park_109 : decode cX11_park 109 = .ok (.iconst 1, 1) := by decide +kernel
theorem dX11_park_110 : decode cX11_park 110 = .ok (.isub, 1) := by decide +kernel
theorem dX11_park_111 : decode cX11_park 111 = .ok (.ireturn, 1) := by decide +kernel
def zb_X11_park_0 (E : zj_E) (st : List Value) (m : zj_M) : zj_R := (zi_ald 0 (zi_gf 11 3 (zi_gf 10 6 (zi_push (.int 5) (zi_clt (zi_ald 0 (zi_gf 11 2 (zi_ald 0 (zi_gf 11 3 (zi_gf 10 2 (zi_vc 2 1 zf_X2_read (zi_ist 1 (zi_ald 0 (zi_gf 11 3 (zi_gf 10 2 (zi_vc 5 0 zf_X5_clear (zi_ild 1 (zi_eq (zi_push (.int (-10)) (zi_ald 0 (zi_gf 11 2 (zi_gf 2 2 (zi_b (fun x y => x - y) (zi_ret (some .int))))))) (zi_ald 0 (zi_dup (zi_gf 11 7 (zi_push (.int 1) (zi_b (fun x y => x + y) (zi_pf 11 7 (zi_ald 0 (zi_gf 11 2 (zi_ald 0 (zi_gf 11 7 (zi_pf 2 1 (zi_ald 0 (zi_gf 11 3 (zi_gf 10 0 (zi_ald 0 (zi_gf 11 2 (zi_vc 2 1 zf_X2_copyFrom (zi_ald 0 (zi_gf 11 3 (zi_dup (zi_gf 10 6 (zi_push (.int 1) (zi_b (fun x y => x + y) (zi_pf 10 6 (zi_ald 0 (zi_gf 11 3 (zi_gf 10 6 (zi_push (.int 1) (zi_b (fun x y => x - y) (zi_ret (some .int)))))))))))))) zi_no))))))))))))))))))) zi_no))))) zi_no)))))) (zi_push (.int (-4)) (zi_ret (some .int)))))))) E st m
set_option maxRecDepth 20000 in
theorem zs_X11_park_0 : zj_KC cX11_park RX11 2 (57) (some .int) (0, fun _ => 0) 0 (zb_X11_park_0) := (zr_aldn dX11_park_0 rfl (zr_gf dX11_park_1 zfl_X11_61_11 (zr_gf dX11_park_4 zfl_X11_93_10 (zr_iconst dX11_park_7 rfl (zr_iclt dX11_park_8 (tgt := 14) (by decide) (zr_aldn dX11_park_14 rfl (zr_gf dX11_park_15 zfl_X11_52_11 (zr_aldn dX11_park_18 rfl (zr_gf dX11_park_19 zfl_X11_61_11 (zr_gf dX11_park_22 zfl_X11_78_10 (zr_callV dX11_park_25 zm_X2_read ⟨⟨zq_385, zq_74⟩, by decide +kernel, by omega, by decide⟩ rfl rfl zq_382 zq_383 zq_384 (zr_istn dX11_park_28 rfl (zr_aldn dX11_park_29 rfl (zr_gf dX11_park_30 zfl_X11_61_11 (zr_gf dX11_park_33 zfl_X11_78_10 (zr_callV dX11_park_36 zm_X5_clear ⟨⟨zq_553, zq_66⟩, by decide +kernel, by omega, by decide⟩ rfl rfl zq_550 zq_551 zq_552 (zr_ildn dX11_park_39 rfl (zr_ifne dX11_park_40 (tgt := 54) (by decide) (zr_aldn dX11_park_54 rfl (zr_dup dX11_park_55 (zr_gf dX11_park_56 zfl_X11_106_11 (zr_iconst dX11_park_59 rfl (zr_iadd dX11_park_60 (zr_pf dX11_park_61 zfl_X11_106_11w (zr_aldn dX11_park_64 rfl (zr_gf dX11_park_65 zfl_X11_52_11 (zr_aldn dX11_park_68 rfl (zr_gf dX11_park_69 zfl_X11_106_11 (zr_pf dX11_park_72 zfl_X11_109_2w (zr_aldn dX11_park_75 rfl (zr_gf dX11_park_76 zfl_X11_61_11 (zr_gf dX11_park_79 zfl_X11_112_10 (zr_aldn dX11_park_82 rfl (zr_gf dX11_park_83 zfl_X11_52_11 (zr_callV dX11_park_86 zm_X2_copyFrom ⟨⟨zq_557, zq_74⟩, by decide +kernel, by omega, by decide⟩ rfl rfl zq_554 zq_555 zq_556 (zr_aldn dX11_park_89 rfl (zr_gf dX11_park_90 zfl_X11_61_11 (zr_dup dX11_park_93 (zr_gf dX11_park_94 zfl_X11_93_10 (zr_iconst dX11_park_97 rfl (zr_iadd dX11_park_98 (zr_pf dX11_park_99 zfl_X11_93_10w (zr_aldn dX11_park_102 rfl (zr_gf dX11_park_103 zfl_X11_61_11 (zr_gf dX11_park_106 zfl_X11_93_10 (zr_iconst dX11_park_109 rfl (zr_isub dX11_park_110 (zr_ret dX11_park_111))))))))))))) zr_no))))))))))))))))) (zr_bipush dX11_park_43 rfl (zr_aldn dX11_park_45 rfl (zr_gf dX11_park_46 zfl_X11_52_11 (zr_gf dX11_park_49 zfl_X11_103_2 (zr_isub dX11_park_52 (zr_ret dX11_park_53)))))))) zr_no))))) zr_no)))))) (zr_bipush dX11_park_11 rfl (zr_ret dX11_park_13)))))))
def zf_X11_park : zj_F := zj_run 2 zb_X11_park_0
theorem zm_X11_park : zj_MS 57 yX11_park cX11_park 2 (some .int) zf_X11_park := zj_met (own := RX11) rfl (by decide +kernel) (Or.inr (Or.inl rfl)) (zs_X11_park_0)
theorem dX11_isBelow_0 : decode cX11_isBelow 0 = .ok (.iload_n 0, 1) := by decide +kernel
theorem dX11_isBelow_1 : decode cX11_isBelow 1 = .ok (.ifCond .lt 12, 3) := by decide +kernel
theorem dX11_isBelow_4 : decode cX11_isBelow 4 = .ok (.iload_n 0, 1) := by decide +kernel
theorem dX11_isBelow_5 : decode cX11_isBelow 5 = .ok (.iload_n 1, 1) := by decide +kernel
theorem dX11_isBelow_6 : decode cX11_isBelow 6 = .ok (.if_icmp .ge 7, 3) := by decide +kernel
theorem dX11_isBelow_9 : decode cX11_isBelow 9 = .ok (.iconst 1, 1) := by decide +kernel
theorem dX11_isBelow_10 : decode cX11_isBelow 10 = .ok (.goto 4, 3) := by decide +kernel
theorem dX11_isBelow_13 : decode cX11_isBelow 13 = .ok (.iconst 0, 1) := by decide +kernel
theorem dX11_isBelow_14 : decode cX11_isBelow 14 = .ok (.ireturn, 1) := by decide +kernel
def zb_X11_isBelow_14 (E : zj_E) (st : List Value) (m : zj_M) : zj_R := (zi_ret (some .boolean)) E st m
set_option maxRecDepth 20000 in
theorem zs_X11_isBelow_14 : zj_KC cX11_isBelow RX11 2 (0) (some .boolean) (0, fun _ => 0) 14 (zb_X11_isBelow_14) := (zr_ret dX11_isBelow_14)
def zb_X11_isBelow_13 (E : zj_E) (st : List Value) (m : zj_M) : zj_R := (zi_push (.int 0) zb_X11_isBelow_14) E st m
set_option maxRecDepth 20000 in
theorem zs_X11_isBelow_13 : zj_KC cX11_isBelow RX11 2 (0) (some .boolean) (0, fun _ => 0) 13 (zb_X11_isBelow_13) := (zr_iconst dX11_isBelow_13 rfl (zs_X11_isBelow_14))
def zb_X11_isBelow_0 (E : zj_E) (st : List Value) (m : zj_M) : zj_R := (zi_ild 0 (zi_lt zb_X11_isBelow_13 (zi_ild 0 (zi_ild 1 (zi_clt (zi_push (.int 1) zb_X11_isBelow_14) zb_X11_isBelow_13))))) E st m
set_option maxRecDepth 20000 in
theorem zs_X11_isBelow_0 : zj_KC cX11_isBelow RX11 2 (0) (some .boolean) (0, fun _ => 0) 0 (zb_X11_isBelow_0) := (zr_ildn dX11_isBelow_0 rfl (zr_iflt dX11_isBelow_1 (tgt := 13) (by decide) (zs_X11_isBelow_13) (zr_ildn dX11_isBelow_4 rfl (zr_ildn dX11_isBelow_5 rfl (zr_icge dX11_isBelow_6 (tgt := 13) (by decide) (zs_X11_isBelow_13) (zr_iconst dX11_isBelow_9 rfl (zr_goto dX11_isBelow_10 (tgt := 14) (by decide) (zs_X11_isBelow_14))))))))
def zf_X11_isBelow : zj_F := zj_run 2 zb_X11_isBelow_0
theorem zm_X11_isBelow : zj_MS 0 yX11_isBelow cX11_isBelow 2 (some .boolean) zf_X11_isBelow := zj_met (own := RX11) rfl (by decide +kernel) (Or.inr (Or.inr (Or.inl rfl))) (zs_X11_isBelow_0)
theorem dX11_road_0 : decode cX11_road 0 = .ok (.iload_n 1, 1) := by decide +kernel
theorem dX11_road_1 : decode cX11_road 1 = .ok (.iconst 4, 1) := by decide +kernel
theorem dX11_road_2 : decode cX11_road 2 = .ok (.invokestatic 119, 3) := by decide +kernel
theorem dX11_road_5 : decode cX11_road 5 = .ok (.ifCond .ne 5, 3) := by decide +kernel
theorem dX11_road_8 : decode cX11_road 8 = .ok (.iconst (-1), 1) := by decide +kernel
theorem dX11_road_9 : decode cX11_road 9 = .ok (.ireturn, 1) := by decide +kernel
theorem dX11_road_10 : decode cX11_road 10 = .ok (.iload_n 2, 1) := by decide +kernel
theorem dX11_road_11 : decode cX11_road 11 = .ok (.ifCond .lt 9, 3) := by decide +kernel
theorem dX11_road_14 : decode cX11_road 14 = .ok (.iload_n 2, 1) := by decide +kernel
theorem dX11_road_15 : decode cX11_road 15 = .ok (.ldc 123, 2) := by decide +kernel
theorem dX11_road_17 : decode cX11_road 17 = .ok (.if_icmp .le 6, 3) := by decide +kernel
theorem dX11_road_20 : decode cX11_road 20 = .ok (.bipush (-2), 2) := by decide +kernel
theorem dX11_road_22 : decode cX11_road 22 = .ok (.ireturn, 1) := by decide +kernel
theorem dX11_road_23 : decode cX11_road 23 = .ok (.aload_n 0, 1) := by decide +kernel
theorem dX11_road_24 : decode cX11_road 24 = .ok (.getfield 61, 3) := by decide +kernel
theorem dX11_road_27 : decode cX11_road 27 = .ok (.getfield 124, 3) := by decide +kernel
theorem dX11_road_30 : decode cX11_road 30 = .ok (.getfield 127, 3) := by decide +kernel
theorem dX11_road_33 : decode cX11_road 33 = .ok (.iload_n 1, 1) := by decide +kernel
theorem dX11_road_34 : decode cX11_road 34 = .ok (.iaload, 1) := by decide +kernel
theorem dX11_road_35 : decode cX11_road 35 = .ok (.istore_n 3, 1) := by decide +kernel
theorem dX11_road_36 : decode cX11_road 36 = .ok (.aload_n 0, 1) := by decide +kernel
theorem dX11_road_37 : decode cX11_road 37 = .ok (.getfield 61, 3) := by decide +kernel
theorem dX11_road_40 : decode cX11_road 40 = .ok (.getfield 124, 3) := by decide +kernel
theorem dX11_road_43 : decode cX11_road 43 = .ok (.getfield 127, 3) := by decide +kernel
theorem dX11_road_46 : decode cX11_road 46 = .ok (.iload_n 1, 1) := by decide +kernel
theorem dX11_road_47 : decode cX11_road 47 = .ok (.iload_n 2, 1) := by decide +kernel
theorem dX11_road_48 : decode cX11_road 48 = .ok (.iastore, 1) := by decide +kernel
theorem dX11_road_49 : decode cX11_road 49 = .ok (.iload_n 3, 1) := by decide +kernel
theorem dX11_road_50 : decode cX11_road 50 = .ok (.ireturn, 1) := by decide +kernel
def zb_X11_road_20 (E : zj_E) (st : List Value) (m : zj_M) : zj_R := (zi_push (.int (-2)) (zi_ret (some .int))) E st m
set_option maxRecDepth 20000 in
theorem zs_X11_road_20 : zj_KC cX11_road RX11 4 (1) (some .int) (0, fun _ => 0) 20 (zb_X11_road_20) := (zr_bipush dX11_road_20 rfl (zr_ret dX11_road_22))
def zb_X11_road_0 (E : zj_E) (st : List Value) (m : zj_M) : zj_R := (zi_ild 1 (zi_push (.int 4) (zi_call 2 zf_X11_isBelow (zi_eq (zi_push (.int (-1)) (zi_ret (some .int))) (zi_ild 2 (zi_lt zb_X11_road_20 (zi_ild 2 (zi_push (.int 65535) (zi_cle (zi_ald 0 (zi_gf 11 3 (zi_gf 10 1 (zi_gf 4 0 (zi_ild 1 (zi_iald (zi_ist 3 (zi_ald 0 (zi_gf 11 3 (zi_gf 10 1 (zi_gf 4 0 (zi_ild 1 (zi_ild 2 (zi_iast (zi_ild 3 (zi_ret (some .int))))))))))))))))) zb_X11_road_20))))))))) E st m
set_option maxRecDepth 20000 in
theorem zs_X11_road_0 : zj_KC cX11_road RX11 4 (1) (some .int) (0, fun _ => 0) 0 (zb_X11_road_0) := (zr_ildn dX11_road_0 rfl (zr_iconst dX11_road_1 rfl (zr_callS dX11_road_2 zm_X11_isBelow ⟨⟨zq_572, zq_65⟩, by decide +kernel, by omega, by decide⟩ zq_570 zq_571 (zr_ifne dX11_road_5 (tgt := 10) (by decide) (zr_ildn dX11_road_10 rfl (zr_iflt dX11_road_11 (tgt := 20) (by decide) (zs_X11_road_20) (zr_ildn dX11_road_14 rfl (zr_ldc dX11_road_15 zq_573 (zr_icle dX11_road_17 (tgt := 23) (by decide) (zr_aldn dX11_road_23 rfl (zr_gf dX11_road_24 zfl_X11_61_11 (zr_gf dX11_road_27 zfl_X11_124_10 (zr_gf dX11_road_30 zfl_X11_127_4 (zr_ildn dX11_road_33 rfl (zr_iald dX11_road_34 (zr_istn dX11_road_35 rfl (zr_aldn dX11_road_36 rfl (zr_gf dX11_road_37 zfl_X11_61_11 (zr_gf dX11_road_40 zfl_X11_124_10 (zr_gf dX11_road_43 zfl_X11_127_4 (zr_ildn dX11_road_46 rfl (zr_ildn dX11_road_47 rfl (zr_iast dX11_road_48 (zr_ildn dX11_road_49 rfl (zr_ret dX11_road_50)))))))))))))))) (zs_X11_road_20)))))) (zr_iconst dX11_road_8 rfl (zr_ret dX11_road_9))))))
def zf_X11_road : zj_F := zj_run 4 zb_X11_road_0
theorem zm_X11_road : zj_MS 1 yX11_road cX11_road 4 (some .int) zf_X11_road := zj_met (own := RX11) rfl (by decide +kernel) (Or.inr (Or.inl rfl)) (zs_X11_road_0)
theorem dX11_keep_0 : decode cX11_keep 0 = .ok (.iload_n 1, 1) := by decide +kernel
theorem dX11_keep_1 : decode cX11_keep 1 = .ok (.ifCond .lt 9, 3) := by decide +kernel
theorem dX11_keep_4 : decode cX11_keep 4 = .ok (.iload_n 1, 1) := by decide +kernel
theorem dX11_keep_5 : decode cX11_keep 5 = .ok (.ldc 123, 2) := by decide +kernel
theorem dX11_keep_7 : decode cX11_keep 7 = .ok (.if_icmp .le 6, 3) := by decide +kernel
theorem dX11_keep_10 : decode cX11_keep 10 = .ok (.bipush (-2), 2) := by decide +kernel
theorem dX11_keep_12 : decode cX11_keep 12 = .ok (.ireturn, 1) := by decide +kernel
theorem dX11_keep_13 : decode cX11_keep 13 = .ok (.aload_n 0, 1) := by decide +kernel
theorem dX11_keep_14 : decode cX11_keep 14 = .ok (.getfield 61, 3) := by decide +kernel
theorem dX11_keep_17 : decode cX11_keep 17 = .ok (.getfield 124, 3) := by decide +kernel
theorem dX11_keep_20 : decode cX11_keep 20 = .ok (.getfield 131, 3) := by decide +kernel
theorem dX11_keep_23 : decode cX11_keep 23 = .ok (.istore_n 2, 1) := by decide +kernel
theorem dX11_keep_24 : decode cX11_keep 24 = .ok (.aload_n 0, 1) := by decide +kernel
theorem dX11_keep_25 : decode cX11_keep 25 = .ok (.getfield 61, 3) := by decide +kernel
theorem dX11_keep_28 : decode cX11_keep 28 = .ok (.getfield 124, 3) := by decide +kernel
theorem dX11_keep_31 : decode cX11_keep 31 = .ok (.iload_n 1, 1) := by decide +kernel
theorem dX11_keep_32 : decode cX11_keep 32 = .ok (.putfield 131, 3) := by decide +kernel
theorem dX11_keep_35 : decode cX11_keep 35 = .ok (.iload_n 2, 1) := by decide +kernel
theorem dX11_keep_36 : decode cX11_keep 36 = .ok (.ireturn, 1) := by decide +kernel
def zb_X11_keep_10 (E : zj_E) (st : List Value) (m : zj_M) : zj_R := (zi_push (.int (-2)) (zi_ret (some .int))) E st m
set_option maxRecDepth 20000 in
theorem zs_X11_keep_10 : zj_KC cX11_keep RX11 3 (0) (some .int) (0, fun _ => 0) 10 (zb_X11_keep_10) := (zr_bipush dX11_keep_10 rfl (zr_ret dX11_keep_12))
def zb_X11_keep_0 (E : zj_E) (st : List Value) (m : zj_M) : zj_R := (zi_ild 1 (zi_lt zb_X11_keep_10 (zi_ild 1 (zi_push (.int 65535) (zi_cle (zi_ald 0 (zi_gf 11 3 (zi_gf 10 1 (zi_gf 4 9 (zi_ist 2 (zi_ald 0 (zi_gf 11 3 (zi_gf 10 1 (zi_ild 1 (zi_pf 4 9 (zi_ild 2 (zi_ret (some .int))))))))))))) zb_X11_keep_10))))) E st m
set_option maxRecDepth 20000 in
theorem zs_X11_keep_0 : zj_KC cX11_keep RX11 3 (0) (some .int) (0, fun _ => 0) 0 (zb_X11_keep_0) := (zr_ildn dX11_keep_0 rfl (zr_iflt dX11_keep_1 (tgt := 10) (by decide) (zs_X11_keep_10) (zr_ildn dX11_keep_4 rfl (zr_ldc dX11_keep_5 zq_573 (zr_icle dX11_keep_7 (tgt := 13) (by decide) (zr_aldn dX11_keep_13 rfl (zr_gf dX11_keep_14 zfl_X11_61_11 (zr_gf dX11_keep_17 zfl_X11_124_10 (zr_gf dX11_keep_20 zfl_X11_131_4 (zr_istn dX11_keep_23 rfl (zr_aldn dX11_keep_24 rfl (zr_gf dX11_keep_25 zfl_X11_61_11 (zr_gf dX11_keep_28 zfl_X11_124_10 (zr_ildn dX11_keep_31 rfl (zr_pf dX11_keep_32 zfl_X11_131_4w (zr_ildn dX11_keep_35 rfl (zr_ret dX11_keep_36)))))))))))) (zs_X11_keep_10))))))
def zf_X11_keep : zj_F := zj_run 3 zb_X11_keep_0
theorem zm_X11_keep : zj_MS 0 yX11_keep cX11_keep 3 (some .int) zf_X11_keep := zj_met (own := RX11) rfl (by decide +kernel) (Or.inr (Or.inl rfl)) (zs_X11_keep_0)
theorem dX11_walker_0 : decode cX11_walker 0 = .ok (.iload_n 1, 1) := by decide +kernel
theorem dX11_walker_1 : decode cX11_walker 1 = .ok (.bipush 7, 2) := by decide +kernel
theorem dX11_walker_3 : decode cX11_walker 3 = .ok (.invokestatic 119, 3) := by decide +kernel
theorem dX11_walker_6 : decode cX11_walker 6 = .ok (.ifCond .eq 21, 3) := by decide +kernel
theorem dX11_walker_9 : decode cX11_walker 9 = .ok (.iload_n 3, 1) := by decide +kernel
theorem dX11_walker_10 : decode cX11_walker 10 = .ok (.bipush 16, 2) := by decide +kernel
theorem dX11_walker_12 : decode cX11_walker 12 = .ok (.invokestatic 119, 3) := by decide +kernel
theorem dX11_walker_15 : decode cX11_walker 15 = .ok (.ifCond .eq 12, 3) := by decide +kernel
theorem dX11_walker_18 : decode cX11_walker 18 = .ok (.iload 4, 2) := by decide +kernel
theorem dX11_walker_20 : decode cX11_walker 20 = .ok (.iconst 4, 1) := by decide +kernel
theorem dX11_walker_21 : decode cX11_walker 21 = .ok (.invokestatic 119, 3) := by decide +kernel
theorem dX11_walker_24 : decode cX11_walker 24 = .ok (.ifCond .ne 5, 3) := by decide +kernel
theorem dX11_walker_27 : decode cX11_walker 27 = .ok (.iconst (-1), 1) := by decide +kernel
theorem dX11_walker_28 : decode cX11_walker 28 = .ok (.ireturn, 1) := by decide +kernel
theorem dX11_walker_29 : decode cX11_walker 29 = .ok (.iload_n 2, 1) := by decide +kernel
theorem dX11_walker_30 : decode cX11_walker 30 = .ok (.ifCond .lt 9, 3) := by decide +kernel
theorem dX11_walker_33 : decode cX11_walker 33 = .ok (.iload_n 2, 1) := by decide +kernel
theorem dX11_walker_34 : decode cX11_walker 34 = .ok (.bipush 9, 2) := by decide +kernel
theorem dX11_walker_36 : decode cX11_walker 36 = .ok (.if_icmp .le 6, 3) := by decide +kernel
theorem dX11_walker_39 : decode cX11_walker 39 = .ok (.bipush (-2), 2) := by decide +kernel
theorem dX11_walker_41 : decode cX11_walker 41 = .ok (.ireturn, 1) := by decide +kernel
theorem dX11_walker_42 : decode cX11_walker 42 = .ok (.aload_n 0, 1) := by decide +kernel
theorem dX11_walker_43 : decode cX11_walker 43 = .ok (.getfield 61, 3) := by decide +kernel
theorem dX11_walker_46 : decode cX11_walker 46 = .ok (.getfield 124, 3) := by decide +kernel
theorem dX11_walker_49 : decode cX11_walker 49 = .ok (.getfield 134, 3) := by decide +kernel
theorem dX11_walker_52 : decode cX11_walker 52 = .ok (.bipush 6, 2) := by decide +kernel
theorem dX11_walker_54 : decode cX11_walker 54 = .ok (.if_icmp .lt 6, 3) := by decide +kernel
theorem dX11_walker_57 : decode cX11_walker 57 = .ok (.bipush (-4), 2) := by decide +kernel
theorem dX11_walker_59 : decode cX11_walker 59 = .ok (.ireturn, 1) := by decide +kernel
theorem dX11_walker_60 : decode cX11_walker 60 = .ok (.aload_n 0, 1) := by decide +kernel
theorem dX11_walker_61 : decode cX11_walker 61 = .ok (.getfield 61, 3) := by decide +kernel
theorem dX11_walker_64 : decode cX11_walker 64 = .ok (.getfield 124, 3) := by decide +kernel
theorem dX11_walker_67 : decode cX11_walker 67 = .ok (.iload_n 1, 1) := by decide +kernel
theorem dX11_walker_68 : decode cX11_walker 68 = .ok (.iload_n 2, 1) := by decide +kernel
theorem dX11_walker_69 : decode cX11_walker 69 = .ok (.iload_n 3, 1) := by decide +kernel
theorem dX11_walker_70 : decode cX11_walker 70 = .ok (.iload 4, 2) := by decide +kernel
theorem dX11_walker_72 : decode cX11_walker 72 = .ok (.invokevirtual 137, 3) := by decide +kernel
theorem dX11_walker_75 : decode cX11_walker 75 = .ok (.ireturn, 1) := by decide +kernel
def zb_X11_walker_27 (E : zj_E) (st : List Value) (m : zj_M) : zj_R := (zi_push (.int (-1)) (zi_ret (some .int))) E st m
set_option maxRecDepth 20000 in
theorem zs_X11_walker_27 : zj_KC cX11_walker RX11 5 (2) (some .int) (0, fun _ => 0) 27 (zb_X11_walker_27) := (zr_iconst dX11_walker_27 rfl (zr_ret dX11_walker_28))
def zb_X11_walker_39 (E : zj_E) (st : List Value) (m : zj_M) : zj_R := (zi_push (.int (-2)) (zi_ret (some .int))) E st m
set_option maxRecDepth 20000 in
theorem zs_X11_walker_39 : zj_KC cX11_walker RX11 5 (2) (some .int) (0, fun _ => 0) 39 (zb_X11_walker_39) := (zr_bipush dX11_walker_39 rfl (zr_ret dX11_walker_41))
def zb_X11_walker_0 (E : zj_E) (st : List Value) (m : zj_M) : zj_R := (zi_ild 1 (zi_push (.int 7) (zi_call 2 zf_X11_isBelow (zi_eq zb_X11_walker_27 (zi_ild 3 (zi_push (.int 16) (zi_call 2 zf_X11_isBelow (zi_eq zb_X11_walker_27 (zi_ild 4 (zi_push (.int 4) (zi_call 2 zf_X11_isBelow (zi_eq zb_X11_walker_27 (zi_ild 2 (zi_lt zb_X11_walker_39 (zi_ild 2 (zi_push (.int 9) (zi_cle (zi_ald 0 (zi_gf 11 3 (zi_gf 10 1 (zi_gf 4 7 (zi_push (.int 6) (zi_clt (zi_ald 0 (zi_gf 11 3 (zi_gf 10 1 (zi_ild 1 (zi_ild 2 (zi_ild 3 (zi_ild 4 (zi_vc 4 4 zf_X4_add (zi_ret (some .int)) zi_no)))))))) (zi_push (.int (-4)) (zi_ret (some .int))))))))) zb_X11_walker_39))))))))))))))))) E st m
set_option maxRecDepth 20000 in
theorem zs_X11_walker_0 : zj_KC cX11_walker RX11 5 (2) (some .int) (0, fun _ => 0) 0 (zb_X11_walker_0) := (zr_ildn dX11_walker_0 rfl (zr_bipush dX11_walker_1 rfl (zr_callS dX11_walker_3 zm_X11_isBelow ⟨⟨zq_572, zq_65⟩, by decide +kernel, by omega, by decide⟩ zq_570 zq_571 (zr_ifeq dX11_walker_6 (tgt := 27) (by decide) (zs_X11_walker_27) (zr_ildn dX11_walker_9 rfl (zr_bipush dX11_walker_10 rfl (zr_callS dX11_walker_12 zm_X11_isBelow ⟨⟨zq_572, zq_65⟩, by decide +kernel, by omega, by decide⟩ zq_570 zq_571 (zr_ifeq dX11_walker_15 (tgt := 27) (by decide) (zs_X11_walker_27) (zr_ild dX11_walker_18 (zr_iconst dX11_walker_20 rfl (zr_callS dX11_walker_21 zm_X11_isBelow ⟨⟨zq_572, zq_65⟩, by decide +kernel, by omega, by decide⟩ zq_570 zq_571 (zr_ifne dX11_walker_24 (tgt := 29) (by decide) (zr_ildn dX11_walker_29 rfl (zr_iflt dX11_walker_30 (tgt := 39) (by decide) (zs_X11_walker_39) (zr_ildn dX11_walker_33 rfl (zr_bipush dX11_walker_34 rfl (zr_icle dX11_walker_36 (tgt := 42) (by decide) (zr_aldn dX11_walker_42 rfl (zr_gf dX11_walker_43 zfl_X11_61_11 (zr_gf dX11_walker_46 zfl_X11_124_10 (zr_gf dX11_walker_49 zfl_X11_134_4 (zr_bipush dX11_walker_52 rfl (zr_iclt dX11_walker_54 (tgt := 60) (by decide) (zr_aldn dX11_walker_60 rfl (zr_gf dX11_walker_61 zfl_X11_61_11 (zr_gf dX11_walker_64 zfl_X11_124_10 (zr_ildn dX11_walker_67 rfl (zr_ildn dX11_walker_68 rfl (zr_ildn dX11_walker_69 rfl (zr_ild dX11_walker_70 (zr_callV dX11_walker_72 zm_X4_add ⟨⟨zq_585, zq_76⟩, by decide +kernel, by omega, by decide⟩ rfl rfl zq_582 zq_583 zq_584 (zr_ret dX11_walker_75) zr_no)))))))) (zr_bipush dX11_walker_57 rfl (zr_ret dX11_walker_59)))))))) (zs_X11_walker_39)))))) (zs_X11_walker_27)))))))))))))
def zf_X11_walker : zj_F := zj_run 5 zb_X11_walker_0
theorem zm_X11_walker : zj_MS 2 yX11_walker cX11_walker 5 (some .int) zf_X11_walker := zj_met (own := RX11) rfl (by decide +kernel) (Or.inr (Or.inl rfl)) (zs_X11_walker_0)
theorem dX11_isWalker_0 : decode cX11_isWalker 0 = .ok (.iload_n 1, 1) := by decide +kernel
theorem dX11_isWalker_1 : decode cX11_isWalker 1 = .ok (.aload_n 0, 1) := by decide +kernel
theorem dX11_isWalker_2 : decode cX11_isWalker 2 = .ok (.getfield 61, 3) := by decide +kernel
theorem dX11_isWalker_5 : decode cX11_isWalker 5 = .ok (.getfield 124, 3) := by decide +kernel
theorem dX11_isWalker_8 : decode cX11_isWalker 8 = .ok (.getfield 134, 3) := by decide +kernel
theorem dX11_isWalker_11 : decode cX11_isWalker 11 = .ok (.invokestatic 119, 3) := by decide +kernel
theorem dX11_isWalker_14 : decode cX11_isWalker 14 = .ok (.ireturn, 1) := by decide +kernel
def zb_X11_isWalker_0 (E : zj_E) (st : List Value) (m : zj_M) : zj_R := (zi_ild 1 (zi_ald 0 (zi_gf 11 3 (zi_gf 10 1 (zi_gf 4 7 (zi_call 2 zf_X11_isBelow (zi_ret (some .boolean)))))))) E st m
set_option maxRecDepth 20000 in
theorem zs_X11_isWalker_0 : zj_KC cX11_isWalker RX11 2 (1) (some .boolean) (0, fun _ => 0) 0 (zb_X11_isWalker_0) := (zr_ildn dX11_isWalker_0 rfl (zr_aldn dX11_isWalker_1 rfl (zr_gf dX11_isWalker_2 zfl_X11_61_11 (zr_gf dX11_isWalker_5 zfl_X11_124_10 (zr_gf dX11_isWalker_8 zfl_X11_134_4 (zr_callS dX11_isWalker_11 zm_X11_isBelow ⟨⟨zq_572, zq_65⟩, by decide +kernel, by omega, by decide⟩ zq_570 zq_571 (zr_ret dX11_isWalker_14)))))))
def zf_X11_isWalker : zj_F := zj_run 2 zb_X11_isWalker_0
theorem zm_X11_isWalker : zj_MS 1 yX11_isWalker cX11_isWalker 2 (some .boolean) zf_X11_isWalker := zj_met (own := RX11) rfl (by decide +kernel) (Or.inr (Or.inr (Or.inl rfl))) (zs_X11_isWalker_0)
theorem dX11_of_0 : decode cX11_of 0 = .ok (.aload_n 0, 1) := by decide +kernel
theorem dX11_of_1 : decode cX11_of 1 = .ok (.iload_n 1, 1) := by decide +kernel
theorem dX11_of_2 : decode cX11_of 2 = .ok (.invokevirtual 140, 3) := by decide +kernel
theorem dX11_of_5 : decode cX11_of 5 = .ok (.ifCond .ne 6, 3) := by decide +kernel
theorem dX11_of_8 : decode cX11_of 8 = .ok (.ldc 144, 2) := by decide +kernel
theorem dX11_of_10 : decode cX11_of 10 = .ok (.ireturn, 1) := by decide +kernel
theorem dX11_of_11 : decode cX11_of 11 = .ok (.aload_n 0, 1) := by decide +kernel
theorem dX11_of_12 : decode cX11_of 12 = .ok (.getfield 61, 3) := by decide +kernel
theorem dX11_of_15 : decode cX11_of 15 = .ok (.getfield 124, 3) := by decide +kernel
theorem dX11_of_18 : decode cX11_of 18 = .ok (.astore_n 3, 1) := by decide +kernel
theorem dX11_of_19 : decode cX11_of 19 = .ok (.aload_n 3, 1) := by decide +kernel
theorem dX11_of_20 : decode cX11_of 20 = .ok (.invokevirtual 145, 3) := by decide +kernel
theorem dX11_of_23 : decode cX11_of 23 = .ok (.iload_n 2, 1) := by decide +kernel
theorem dX11_of_24 : decode cX11_of 24 = .ok (.tableswitch 130 0 9 #[56, 63, 70, 77, 84, 93, 100, 109, 118, 124], 56) := by decide +kernel
theorem dX11_of_80 : decode cX11_of 80 = .ok (.aload_n 3, 1) := by decide +kernel
theorem dX11_of_81 : decode cX11_of 81 = .ok (.getfield 148, 3) := by decide +kernel
theorem dX11_of_84 : decode cX11_of 84 = .ok (.iload_n 1, 1) := by decide +kernel
theorem dX11_of_85 : decode cX11_of 85 = .ok (.iaload, 1) := by decide +kernel
theorem dX11_of_86 : decode cX11_of 86 = .ok (.ireturn, 1) := by decide +kernel
theorem dX11_of_87 : decode cX11_of 87 = .ok (.aload_n 3, 1) := by decide +kernel
theorem dX11_of_88 : decode cX11_of 88 = .ok (.getfield 151, 3) := by decide +kernel
theorem dX11_of_91 : decode cX11_of 91 = .ok (.iload_n 1, 1) := by decide +kernel
theorem dX11_of_92 : decode cX11_of 92 = .ok (.iaload, 1) := by decide +kernel
theorem dX11_of_93 : decode cX11_of 93 = .ok (.ireturn, 1) := by decide +kernel
theorem dX11_of_94 : decode cX11_of 94 = .ok (.aload_n 3, 1) := by decide +kernel
theorem dX11_of_95 : decode cX11_of 95 = .ok (.getfield 154, 3) := by decide +kernel
theorem dX11_of_98 : decode cX11_of 98 = .ok (.iload_n 1, 1) := by decide +kernel
theorem dX11_of_99 : decode cX11_of 99 = .ok (.iaload, 1) := by decide +kernel
theorem dX11_of_100 : decode cX11_of 100 = .ok (.ireturn, 1) := by decide +kernel
theorem dX11_of_101 : decode cX11_of 101 = .ok (.aload_n 3, 1) := by decide +kernel
theorem dX11_of_102 : decode cX11_of 102 = .ok (.getfield 157, 3) := by decide +kernel
theorem dX11_of_105 : decode cX11_of 105 = .ok (.iload_n 1, 1) := by decide +kernel
theorem dX11_of_106 : decode cX11_of 106 = .ok (.iaload, 1) := by decide +kernel
theorem dX11_of_107 : decode cX11_of 107 = .ok (.ireturn, 1) := by decide +kernel
theorem dX11_of_108 : decode cX11_of 108 = .ok (.aload_n 3, 1) := by decide +kernel
theorem dX11_of_109 : decode cX11_of 109 = .ok (.iload_n 1, 1) := by decide +kernel
theorem dX11_of_110 : decode cX11_of 110 = .ok (.invokevirtual 160, 3) := by decide +kernel
theorem dX11_of_113 : decode cX11_of 113 = .ok (.invokestatic 163, 3) := by decide +kernel
theorem dX11_of_116 : decode cX11_of 116 = .ok (.ireturn, 1) := by decide +kernel
theorem dX11_of_117 : decode cX11_of 117 = .ok (.aload_n 3, 1) := by decide +kernel
theorem dX11_of_118 : decode cX11_of 118 = .ok (.getfield 167, 3) := by decide +kernel
theorem dX11_of_121 : decode cX11_of 121 = .ok (.iload_n 1, 1) := by decide +kernel
theorem dX11_of_122 : decode cX11_of 122 = .ok (.iaload, 1) := by decide +kernel
theorem dX11_of_123 : decode cX11_of 123 = .ok (.ireturn, 1) := by decide +kernel
theorem dX11_of_124 : decode cX11_of 124 = .ok (.aload_n 3, 1) := by decide +kernel
theorem dX11_of_125 : decode cX11_of 125 = .ok (.iload_n 1, 1) := by decide +kernel
theorem dX11_of_126 : decode cX11_of 126 = .ok (.invokevirtual 170, 3) := by decide +kernel
theorem dX11_of_129 : decode cX11_of 129 = .ok (.invokestatic 163, 3) := by decide +kernel
theorem dX11_of_132 : decode cX11_of 132 = .ok (.ireturn, 1) := by decide +kernel
theorem dX11_of_133 : decode cX11_of 133 = .ok (.aload_n 3, 1) := by decide +kernel
theorem dX11_of_134 : decode cX11_of 134 = .ok (.iload_n 1, 1) := by decide +kernel
theorem dX11_of_135 : decode cX11_of 135 = .ok (.invokevirtual 173, 3) := by decide +kernel
theorem dX11_of_138 : decode cX11_of 138 = .ok (.invokestatic 163, 3) := by decide +kernel
theorem dX11_of_141 : decode cX11_of 141 = .ok (.ireturn, 1) := by decide +kernel
theorem dX11_of_142 : decode cX11_of 142 = .ok (.aload_n 3, 1) := by decide +kernel
theorem dX11_of_143 : decode cX11_of 143 = .ok (.iload_n 1, 1) := by decide +kernel
theorem dX11_of_144 : decode cX11_of 144 = .ok (.invokevirtual 176, 3) := by decide +kernel
theorem dX11_of_147 : decode cX11_of 147 = .ok (.ireturn, 1) := by decide +kernel
theorem dX11_of_148 : decode cX11_of 148 = .ok (.aload_n 3, 1) := by decide +kernel
theorem dX11_of_149 : decode cX11_of 149 = .ok (.iload_n 1, 1) := by decide +kernel
theorem dX11_of_150 : decode cX11_of 150 = .ok (.invokevirtual 180, 3) := by decide +kernel
theorem dX11_of_153 : decode cX11_of 153 = .ok (.ireturn, 1) := by decide +kernel
theorem dX11_of_154 : decode cX11_of 154 = .ok (.ldc 144, 2) := by decide +kernel
theorem dX11_of_156 : decode cX11_of 156 = .ok (.ireturn, 1) := by decide +kernel
def zb_X11_of_80 (E : zj_E) (st : List Value) (m : zj_M) : zj_R := (zi_ald 3 (zi_gf 4 1 (zi_ild 1 (zi_iald (zi_ret (some .int)))))) E st m
set_option maxRecDepth 20000 in
theorem zs_X11_of_80 : zj_KC cX11_of RX11 4 (5) (some .int) (0, fun _ => 0) 80 (zb_X11_of_80) := (zr_aldn dX11_of_80 rfl (zr_gf dX11_of_81 zfl_X11_148_4 (zr_ildn dX11_of_84 rfl (zr_iald dX11_of_85 (zr_ret dX11_of_86)))))
def zb_X11_of_87 (E : zj_E) (st : List Value) (m : zj_M) : zj_R := (zi_ald 3 (zi_gf 4 2 (zi_ild 1 (zi_iald (zi_ret (some .int)))))) E st m
set_option maxRecDepth 20000 in
theorem zs_X11_of_87 : zj_KC cX11_of RX11 4 (5) (some .int) (0, fun _ => 0) 87 (zb_X11_of_87) := (zr_aldn dX11_of_87 rfl (zr_gf dX11_of_88 zfl_X11_151_4 (zr_ildn dX11_of_91 rfl (zr_iald dX11_of_92 (zr_ret dX11_of_93)))))
def zb_X11_of_94 (E : zj_E) (st : List Value) (m : zj_M) : zj_R := (zi_ald 3 (zi_gf 4 3 (zi_ild 1 (zi_iald (zi_ret (some .int)))))) E st m
set_option maxRecDepth 20000 in
theorem zs_X11_of_94 : zj_KC cX11_of RX11 4 (5) (some .int) (0, fun _ => 0) 94 (zb_X11_of_94) := (zr_aldn dX11_of_94 rfl (zr_gf dX11_of_95 zfl_X11_154_4 (zr_ildn dX11_of_98 rfl (zr_iald dX11_of_99 (zr_ret dX11_of_100)))))
def zb_X11_of_101 (E : zj_E) (st : List Value) (m : zj_M) : zj_R := (zi_ald 3 (zi_gf 4 4 (zi_ild 1 (zi_iald (zi_ret (some .int)))))) E st m
set_option maxRecDepth 20000 in
theorem zs_X11_of_101 : zj_KC cX11_of RX11 4 (5) (some .int) (0, fun _ => 0) 101 (zb_X11_of_101) := (zr_aldn dX11_of_101 rfl (zr_gf dX11_of_102 zfl_X11_157_4 (zr_ildn dX11_of_105 rfl (zr_iald dX11_of_106 (zr_ret dX11_of_107)))))
def zb_X11_of_108 (E : zj_E) (st : List Value) (m : zj_M) : zj_R := (zi_ald 3 (zi_ild 1 (zi_vc 4 1 zf_X4_isAway (zi_call 1 zf_X11_bit (zi_ret (some .int))) zi_no))) E st m
set_option maxRecDepth 20000 in
theorem zs_X11_of_108 : zj_KC cX11_of RX11 4 (5) (some .int) (0, fun _ => 0) 108 (zb_X11_of_108) := (zr_aldn dX11_of_108 rfl (zr_ildn dX11_of_109 rfl (zr_callV dX11_of_110 zm_X4_isAway ⟨⟨zq_606, zq_76⟩, by decide +kernel, by omega, by decide⟩ rfl rfl zq_607 zq_604 zq_605 (zr_callS dX11_of_113 zm_X11_bit ⟨⟨zq_610, zq_65⟩, by decide +kernel, by omega, by decide⟩ zq_608 zq_609 (zr_ret dX11_of_116)) zr_no)))
def zb_X11_of_117 (E : zj_E) (st : List Value) (m : zj_M) : zj_R := (zi_ald 3 (zi_gf 4 5 (zi_ild 1 (zi_iald (zi_ret (some .int)))))) E st m
set_option maxRecDepth 20000 in
theorem zs_X11_of_117 : zj_KC cX11_of RX11 4 (5) (some .int) (0, fun _ => 0) 117 (zb_X11_of_117) := (zr_aldn dX11_of_117 rfl (zr_gf dX11_of_118 zfl_X11_167_4 (zr_ildn dX11_of_121 rfl (zr_iald dX11_of_122 (zr_ret dX11_of_123)))))
def zb_X11_of_124 (E : zj_E) (st : List Value) (m : zj_M) : zj_R := (zi_ald 3 (zi_ild 1 (zi_vc 4 1 zf_X4_isWrong (zi_call 1 zf_X11_bit (zi_ret (some .int))) zi_no))) E st m
set_option maxRecDepth 20000 in
theorem zs_X11_of_124 : zj_KC cX11_of RX11 4 (5) (some .int) (0, fun _ => 0) 124 (zb_X11_of_124) := (zr_aldn dX11_of_124 rfl (zr_ildn dX11_of_125 rfl (zr_callV dX11_of_126 zm_X4_isWrong ⟨⟨zq_614, zq_76⟩, by decide +kernel, by omega, by decide⟩ rfl rfl zq_611 zq_612 zq_613 (zr_callS dX11_of_129 zm_X11_bit ⟨⟨zq_610, zq_65⟩, by decide +kernel, by omega, by decide⟩ zq_608 zq_609 (zr_ret dX11_of_132)) zr_no)))
def zb_X11_of_133 (E : zj_E) (st : List Value) (m : zj_M) : zj_R := (zi_ald 3 (zi_ild 1 (zi_vc 4 1 zf_X4_hasCompany (zi_call 1 zf_X11_bit (zi_ret (some .int))) zi_no))) E st m
set_option maxRecDepth 20000 in
theorem zs_X11_of_133 : zj_KC cX11_of RX11 4 (5) (some .int) (0, fun _ => 0) 133 (zb_X11_of_133) := (zr_aldn dX11_of_133 rfl (zr_ildn dX11_of_134 rfl (zr_callV dX11_of_135 zm_X4_hasCompany ⟨⟨zq_618, zq_76⟩, by decide +kernel, by omega, by decide⟩ rfl rfl zq_615 zq_616 zq_617 (zr_callS dX11_of_138 zm_X11_bit ⟨⟨zq_610, zq_65⟩, by decide +kernel, by omega, by decide⟩ zq_608 zq_609 (zr_ret dX11_of_141)) zr_no)))
def zb_X11_of_142 (E : zj_E) (st : List Value) (m : zj_M) : zj_R := (zi_ald 3 (zi_ild 1 (zi_vc 4 1 zf_X4_swayOf (zi_ret (some .int)) zi_no))) E st m
set_option maxRecDepth 20000 in
theorem zs_X11_of_142 : zj_KC cX11_of RX11 4 (5) (some .int) (0, fun _ => 0) 142 (zb_X11_of_142) := (zr_aldn dX11_of_142 rfl (zr_ildn dX11_of_143 rfl (zr_callV dX11_of_144 zm_X4_swayOf ⟨⟨zq_622, zq_76⟩, by decide +kernel, by omega, by decide⟩ rfl rfl zq_619 zq_620 zq_621 (zr_ret dX11_of_147) zr_no)))
def zb_X11_of_148 (E : zj_E) (st : List Value) (m : zj_M) : zj_R := (zi_ald 3 (zi_ild 1 (zi_vc 4 1 zf_X4_paceOf (zi_ret (some .int)) zi_no))) E st m
set_option maxRecDepth 20000 in
theorem zs_X11_of_148 : zj_KC cX11_of RX11 4 (5) (some .int) (0, fun _ => 0) 148 (zb_X11_of_148) := (zr_aldn dX11_of_148 rfl (zr_ildn dX11_of_149 rfl (zr_callV dX11_of_150 zm_X4_paceOf ⟨⟨zq_671, zq_76⟩, by decide +kernel, by omega, by decide⟩ rfl rfl zq_668 zq_669 zq_670 (zr_ret dX11_of_153) zr_no)))
def zb_X11_of_154 (E : zj_E) (st : List Value) (m : zj_M) : zj_R := (zi_push (.int (-999999)) (zi_ret (some .int))) E st m
set_option maxRecDepth 20000 in
theorem zs_X11_of_154 : zj_KC cX11_of RX11 4 (5) (some .int) (0, fun _ => 0) 154 (zb_X11_of_154) := (zr_ldc dX11_of_154 zq_598 (zr_ret dX11_of_156))
def zb_X11_of_0 (E : zj_E) (st : List Value) (m : zj_M) : zj_R := (zi_ald 0 (zi_ild 1 (zi_vc 11 1 zf_X11_isWalker (zi_eq (zi_push (.int (-999999)) (zi_ret (some .int))) (zi_ald 0 (zi_gf 11 3 (zi_gf 10 1 (zi_ast 3 (zi_ald 3 (zi_vc 4 0 zf_X4_lookAround (zi_ild 2 (zi_tsw 0 [zb_X11_of_80, zb_X11_of_87, zb_X11_of_94, zb_X11_of_101, zb_X11_of_108, zb_X11_of_117, zb_X11_of_124, zb_X11_of_133, zb_X11_of_142, zb_X11_of_148] zb_X11_of_154)) zi_no))))))) zi_no))) E st m
set_option maxRecDepth 20000 in
theorem zs_X11_of_0 : zj_KC cX11_of RX11 4 (5) (some .int) (0, fun _ => 0) 0 (zb_X11_of_0) := (zr_aldn dX11_of_0 rfl (zr_ildn dX11_of_1 rfl (zr_callV dX11_of_2 zm_X11_isWalker ⟨⟨zq_597, zq_65⟩, by decide +kernel, by omega, by decide⟩ rfl rfl zq_594 zq_596 zq_13 (zr_ifne dX11_of_5 (tgt := 11) (by decide) (zr_aldn dX11_of_11 rfl (zr_gf dX11_of_12 zfl_X11_61_11 (zr_gf dX11_of_15 zfl_X11_124_10 (zr_astn dX11_of_18 rfl (zr_aldn dX11_of_19 rfl (zr_callV dX11_of_20 zm_X4_lookAround ⟨⟨zq_602, zq_76⟩, by decide +kernel, by omega, by decide⟩ rfl rfl zq_599 zq_600 zq_601 (zr_ildn dX11_of_23 rfl (zr_tsw dX11_of_24 (tgt := 154) (by decide) (hkd := (zs_X11_of_154)) (tg := [80, 87, 94, 101, 108, 117, 124, 133, 142, 148] ) (hn := rfl) (hoff := by decide) (hl := rfl) ⟨(zs_X11_of_80), (zs_X11_of_87), (zs_X11_of_94), (zs_X11_of_101), (zs_X11_of_108), (zs_X11_of_117), (zs_X11_of_124), (zs_X11_of_133), (zs_X11_of_142), (zs_X11_of_148), trivial⟩)) zr_no)))))) (zr_ldc dX11_of_8 zq_598 (zr_ret dX11_of_10))) zr_no)))
def zf_X11_of : zj_F := zj_run 4 zb_X11_of_0
theorem zm_X11_of : zj_MS 5 yX11_of cX11_of 4 (some .int) zf_X11_of := zj_met (own := RX11) rfl (by decide +kernel) (Or.inr (Or.inl rfl)) (zs_X11_of_0)
theorem dX11_isUnder_0 : decode cX11_isUnder 0 = .ok (.aload_n 0, 1) := by decide +kernel
theorem dX11_isUnder_1 : decode cX11_isUnder 1 = .ok (.getfield 48, 3) := by decide +kernel
theorem dX11_isUnder_4 : decode cX11_isUnder 4 = .ok (.aload_n 0, 1) := by decide +kernel
theorem dX11_isUnder_5 : decode cX11_isUnder 5 = .ok (.getfield 61, 3) := by decide +kernel
theorem dX11_isUnder_8 : decode cX11_isUnder 8 = .ok (.getfield 124, 3) := by decide +kernel
theorem dX11_isUnder_11 : decode cX11_isUnder 11 = .ok (.getfield 148, 3) := by decide +kernel
theorem dX11_isUnder_14 : decode cX11_isUnder 14 = .ok (.iload_n 1, 1) := by decide +kernel
theorem dX11_isUnder_15 : decode cX11_isUnder 15 = .ok (.iaload, 1) := by decide +kernel
theorem dX11_isUnder_16 : decode cX11_isUnder 16 = .ok (.aaload, 1) := by decide +kernel
theorem dX11_isUnder_17 : decode cX11_isUnder 17 = .ok (.astore_n 3, 1) := by decide +kernel
theorem dX11_isUnder_18 : decode cX11_isUnder 18 = .ok (.iload_n 2, 1) := by decide +kernel
theorem dX11_isUnder_19 : decode cX11_isUnder 19 = .ok (.tableswitch 67 1 6 #[37, 42, 47, 52, 57, 62], 37) := by decide +kernel
theorem dX11_isUnder_56 : decode cX11_isUnder 56 = .ok (.aload_n 3, 1) := by decide +kernel
theorem dX11_isUnder_57 : decode cX11_isUnder 57 = .ok (.instanceof 21, 3) := by decide +kernel
theorem dX11_isUnder_60 : decode cX11_isUnder 60 = .ok (.ireturn, 1) := by decide +kernel
theorem dX11_isUnder_61 : decode cX11_isUnder 61 = .ok (.aload_n 3, 1) := by decide +kernel
theorem dX11_isUnder_62 : decode cX11_isUnder 62 = .ok (.instanceof 24, 3) := by decide +kernel
theorem dX11_isUnder_65 : decode cX11_isUnder 65 = .ok (.ireturn, 1) := by decide +kernel
theorem dX11_isUnder_66 : decode cX11_isUnder 66 = .ok (.aload_n 3, 1) := by decide +kernel
theorem dX11_isUnder_67 : decode cX11_isUnder 67 = .ok (.instanceof 27, 3) := by decide +kernel
theorem dX11_isUnder_70 : decode cX11_isUnder 70 = .ok (.ireturn, 1) := by decide +kernel
theorem dX11_isUnder_71 : decode cX11_isUnder 71 = .ok (.aload_n 3, 1) := by decide +kernel
theorem dX11_isUnder_72 : decode cX11_isUnder 72 = .ok (.instanceof 30, 3) := by decide +kernel
theorem dX11_isUnder_75 : decode cX11_isUnder 75 = .ok (.ireturn, 1) := by decide +kernel
theorem dX11_isUnder_76 : decode cX11_isUnder 76 = .ok (.aload_n 3, 1) := by decide +kernel
theorem dX11_isUnder_77 : decode cX11_isUnder 77 = .ok (.instanceof 33, 3) := by decide +kernel
theorem dX11_isUnder_80 : decode cX11_isUnder 80 = .ok (.ireturn, 1) := by decide +kernel
theorem dX11_isUnder_81 : decode cX11_isUnder 81 = .ok (.aload_n 3, 1) := by decide +kernel
theorem dX11_isUnder_82 : decode cX11_isUnder 82 = .ok (.instanceof 36, 3) := by decide +kernel
theorem dX11_isUnder_85 : decode cX11_isUnder 85 = .ok (.ireturn, 1) := by decide +kernel
theorem dX11_isUnder_86 : decode cX11_isUnder 86 = .ok (.iconst 1, 1) := by decide +kernel
theorem dX11_isUnder_87 : decode cX11_isUnder 87 = .ok (.ireturn, 1) := by decide +kernel
def zb_X11_isUnder_56 (E : zj_E) (st : List Value) (m : zj_M) : zj_R := (zi_ald 3 (zi_inst [1, 6] [9, 7, 3, 0, 8] (zi_ret (some .boolean)))) E st m
set_option maxRecDepth 20000 in
theorem zs_X11_isUnder_56 : zj_KC cX11_isUnder RX11 4 (0) (some .boolean) (0, fun _ => 0) 56 (zb_X11_isUnder_56) := (zr_aldn dX11_isUnder_56 rfl (zr_inst dX11_isUnder_57 zq_134 (fun ci hq => by simp only [List.mem_cons, List.not_mem_nil, or_false] at hq; rcases hq with rfl | rfl <;> exact ⟨_, _, _, rfl, by decide +kernel⟩) (fun ci hq => by simp only [List.mem_cons, List.not_mem_nil, or_false] at hq; rcases hq with rfl | rfl | rfl | rfl | rfl <;> exact ⟨_, _, _, rfl, by decide +kernel⟩) (zr_ret dX11_isUnder_60)))
def zb_X11_isUnder_61 (E : zj_E) (st : List Value) (m : zj_M) : zj_R := (zi_ald 3 (zi_inst [7, 3] [9, 1, 6, 0, 8] (zi_ret (some .boolean)))) E st m
set_option maxRecDepth 20000 in
theorem zs_X11_isUnder_61 : zj_KC cX11_isUnder RX11 4 (0) (some .boolean) (0, fun _ => 0) 61 (zb_X11_isUnder_61) := (zr_aldn dX11_isUnder_61 rfl (zr_inst dX11_isUnder_62 zq_142 (fun ci hq => by simp only [List.mem_cons, List.not_mem_nil, or_false] at hq; rcases hq with rfl | rfl <;> exact ⟨_, _, _, rfl, by decide +kernel⟩) (fun ci hq => by simp only [List.mem_cons, List.not_mem_nil, or_false] at hq; rcases hq with rfl | rfl | rfl | rfl | rfl <;> exact ⟨_, _, _, rfl, by decide +kernel⟩) (zr_ret dX11_isUnder_65)))
def zb_X11_isUnder_66 (E : zj_E) (st : List Value) (m : zj_M) : zj_R := (zi_ald 3 (zi_inst [0, 8] [9, 1, 6, 7, 3] (zi_ret (some .boolean)))) E st m
set_option maxRecDepth 20000 in
theorem zs_X11_isUnder_66 : zj_KC cX11_isUnder RX11 4 (0) (some .boolean) (0, fun _ => 0) 66 (zb_X11_isUnder_66) := (zr_aldn dX11_isUnder_66 rfl (zr_inst dX11_isUnder_67 zq_150 (fun ci hq => by simp only [List.mem_cons, List.not_mem_nil, or_false] at hq; rcases hq with rfl | rfl <;> exact ⟨_, _, _, rfl, by decide +kernel⟩) (fun ci hq => by simp only [List.mem_cons, List.not_mem_nil, or_false] at hq; rcases hq with rfl | rfl | rfl | rfl | rfl <;> exact ⟨_, _, _, rfl, by decide +kernel⟩) (zr_ret dX11_isUnder_70)))
def zb_X11_isUnder_71 (E : zj_E) (st : List Value) (m : zj_M) : zj_R := (zi_ald 3 (zi_inst [6] [9, 1, 7, 3, 0, 8] (zi_ret (some .boolean)))) E st m
set_option maxRecDepth 20000 in
theorem zs_X11_isUnder_71 : zj_KC cX11_isUnder RX11 4 (0) (some .boolean) (0, fun _ => 0) 71 (zb_X11_isUnder_71) := (zr_aldn dX11_isUnder_71 rfl (zr_inst dX11_isUnder_72 zq_158 (fun ci hq => by simp only [List.mem_cons, List.not_mem_nil, or_false] at hq; rcases hq with rfl <;> exact ⟨_, _, _, rfl, by decide +kernel⟩) (fun ci hq => by simp only [List.mem_cons, List.not_mem_nil, or_false] at hq; rcases hq with rfl | rfl | rfl | rfl | rfl | rfl <;> exact ⟨_, _, _, rfl, by decide +kernel⟩) (zr_ret dX11_isUnder_75)))
def zb_X11_isUnder_76 (E : zj_E) (st : List Value) (m : zj_M) : zj_R := (zi_ald 3 (zi_inst [3] [9, 1, 6, 7, 0, 8] (zi_ret (some .boolean)))) E st m
set_option maxRecDepth 20000 in
theorem zs_X11_isUnder_76 : zj_KC cX11_isUnder RX11 4 (0) (some .boolean) (0, fun _ => 0) 76 (zb_X11_isUnder_76) := (zr_aldn dX11_isUnder_76 rfl (zr_inst dX11_isUnder_77 zq_166 (fun ci hq => by simp only [List.mem_cons, List.not_mem_nil, or_false] at hq; rcases hq with rfl <;> exact ⟨_, _, _, rfl, by decide +kernel⟩) (fun ci hq => by simp only [List.mem_cons, List.not_mem_nil, or_false] at hq; rcases hq with rfl | rfl | rfl | rfl | rfl | rfl <;> exact ⟨_, _, _, rfl, by decide +kernel⟩) (zr_ret dX11_isUnder_80)))
def zb_X11_isUnder_81 (E : zj_E) (st : List Value) (m : zj_M) : zj_R := (zi_ald 3 (zi_inst [8] [9, 1, 6, 7, 3, 0] (zi_ret (some .boolean)))) E st m
set_option maxRecDepth 20000 in
theorem zs_X11_isUnder_81 : zj_KC cX11_isUnder RX11 4 (0) (some .boolean) (0, fun _ => 0) 81 (zb_X11_isUnder_81) := (zr_aldn dX11_isUnder_81 rfl (zr_inst dX11_isUnder_82 zq_174 (fun ci hq => by simp only [List.mem_cons, List.not_mem_nil, or_false] at hq; rcases hq with rfl <;> exact ⟨_, _, _, rfl, by decide +kernel⟩) (fun ci hq => by simp only [List.mem_cons, List.not_mem_nil, or_false] at hq; rcases hq with rfl | rfl | rfl | rfl | rfl | rfl <;> exact ⟨_, _, _, rfl, by decide +kernel⟩) (zr_ret dX11_isUnder_85)))
def zb_X11_isUnder_86 (E : zj_E) (st : List Value) (m : zj_M) : zj_R := (zi_push (.int 1) (zi_ret (some .boolean))) E st m
set_option maxRecDepth 20000 in
theorem zs_X11_isUnder_86 : zj_KC cX11_isUnder RX11 4 (0) (some .boolean) (0, fun _ => 0) 86 (zb_X11_isUnder_86) := (zr_iconst dX11_isUnder_86 rfl (zr_ret dX11_isUnder_87))
def zb_X11_isUnder_0 (E : zj_E) (st : List Value) (m : zj_M) : zj_R := (zi_ald 0 (zi_gf 11 1 (zi_ald 0 (zi_gf 11 3 (zi_gf 10 1 (zi_gf 4 1 (zi_ild 1 (zi_iald (zi_aald (zi_ast 3 (zi_ild 2 (zi_tsw 1 [zb_X11_isUnder_56, zb_X11_isUnder_61, zb_X11_isUnder_66, zb_X11_isUnder_71, zb_X11_isUnder_76, zb_X11_isUnder_81] zb_X11_isUnder_86)))))))))))) E st m
set_option maxRecDepth 20000 in
theorem zs_X11_isUnder_0 : zj_KC cX11_isUnder RX11 4 (0) (some .boolean) (0, fun _ => 0) 0 (zb_X11_isUnder_0) := (zr_aldn dX11_isUnder_0 rfl (zr_gf dX11_isUnder_1 zfl_X11_48_11 (zr_aldn dX11_isUnder_4 rfl (zr_gf dX11_isUnder_5 zfl_X11_61_11 (zr_gf dX11_isUnder_8 zfl_X11_124_10 (zr_gf dX11_isUnder_11 zfl_X11_148_4 (zr_ildn dX11_isUnder_14 rfl (zr_iald dX11_isUnder_15 (zr_aald dX11_isUnder_16 (zr_astn dX11_isUnder_17 rfl (zr_ildn dX11_isUnder_18 rfl (zr_tsw dX11_isUnder_19 (tgt := 86) (by decide) (hkd := (zs_X11_isUnder_86)) (tg := [56, 61, 66, 71, 76, 81] ) (hn := rfl) (hoff := by decide) (hl := rfl) ⟨(zs_X11_isUnder_56), (zs_X11_isUnder_61), (zs_X11_isUnder_66), (zs_X11_isUnder_71), (zs_X11_isUnder_76), (zs_X11_isUnder_81), trivial⟩))))))))))))
def zf_X11_isUnder : zj_F := zj_run 4 zb_X11_isUnder_0
theorem zm_X11_isUnder : zj_MS 0 yX11_isUnder cX11_isUnder 4 (some .boolean) zf_X11_isUnder := zj_met (own := RX11) rfl (by decide +kernel) (Or.inr (Or.inr (Or.inl rfl))) (zs_X11_isUnder_0)
theorem dX11_row_0 : decode cX11_row 0 = .ok (.aload_n 0, 1) := by decide +kernel
theorem dX11_row_1 : decode cX11_row 1 = .ok (.iload_n 1, 1) := by decide +kernel
theorem dX11_row_2 : decode cX11_row 2 = .ok (.invokevirtual 140, 3) := by decide +kernel
theorem dX11_row_5 : decode cX11_row 5 = .ok (.ifCond .eq 11, 3) := by decide +kernel
theorem dX11_row_8 : decode cX11_row 8 = .ok (.iload_n 2, 1) := by decide +kernel
theorem dX11_row_9 : decode cX11_row 9 = .ok (.iconst 4, 1) := by decide +kernel
theorem dX11_row_10 : decode cX11_row 10 = .ok (.invokestatic 119, 3) := by decide +kernel
theorem dX11_row_13 : decode cX11_row 13 = .ok (.ifCond .ne 5, 3) := by decide +kernel
theorem dX11_row_16 : decode cX11_row 16 = .ok (.iconst (-1), 1) := by decide +kernel
theorem dX11_row_17 : decode cX11_row 17 = .ok (.ireturn, 1) := by decide +kernel
theorem dX11_row_18 : decode cX11_row 18 = .ok (.iload_n 3, 1) := by decide +kernel
theorem dX11_row_19 : decode cX11_row 19 = .ok (.ifCond .lt 9, 3) := by decide +kernel
theorem dX11_row_22 : decode cX11_row 22 = .ok (.iload_n 3, 1) := by decide +kernel
theorem dX11_row_23 : decode cX11_row 23 = .ok (.bipush 9, 2) := by decide +kernel
theorem dX11_row_25 : decode cX11_row 25 = .ok (.if_icmp .le 6, 3) := by decide +kernel
theorem dX11_row_28 : decode cX11_row 28 = .ok (.bipush (-2), 2) := by decide +kernel
theorem dX11_row_30 : decode cX11_row 30 = .ok (.ireturn, 1) := by decide +kernel
theorem dX11_row_31 : decode cX11_row 31 = .ok (.aload_n 0, 1) := by decide +kernel
theorem dX11_row_32 : decode cX11_row 32 = .ok (.iload_n 1, 1) := by decide +kernel
theorem dX11_row_33 : decode cX11_row 33 = .ok (.bipush 6, 2) := by decide +kernel
theorem dX11_row_35 : decode cX11_row 35 = .ok (.invokevirtual 183, 3) := by decide +kernel
theorem dX11_row_38 : decode cX11_row 38 = .ok (.ifCond .ne 6, 3) := by decide +kernel
theorem dX11_row_41 : decode cX11_row 41 = .ok (.bipush (-3), 2) := by decide +kernel
theorem dX11_row_43 : decode cX11_row 43 = .ok (.ireturn, 1) := by decide +kernel
theorem dX11_row_44 : decode cX11_row 44 = .ok (.iload_n 1, 1) := by decide +kernel
theorem dX11_row_45 : decode cX11_row 45 = .ok (.iconst 4, 1) := by decide +kernel
theorem dX11_row_46 : decode cX11_row 46 = .ok (.imul, 1) := by decide +kernel
theorem dX11_row_47 : decode cX11_row 47 = .ok (.iload_n 2, 1) := by decide +kernel
theorem dX11_row_48 : decode cX11_row 48 = .ok (.iadd, 1) := by decide +kernel
theorem dX11_row_49 : decode cX11_row 49 = .ok (.istore 4, 2) := by decide +kernel
theorem dX11_row_51 : decode cX11_row 51 = .ok (.aload_n 0, 1) := by decide +kernel
theorem dX11_row_52 : decode cX11_row 52 = .ok (.getfield 61, 3) := by decide +kernel
theorem dX11_row_55 : decode cX11_row 55 = .ok (.getfield 124, 3) := by decide +kernel
theorem dX11_row_58 : decode cX11_row 58 = .ok (.getfield 186, 3) := by decide +kernel
theorem dX11_row_61 : decode cX11_row 61 = .ok (.iload 4, 2) := by decide +kernel
theorem dX11_row_63 : decode cX11_row 63 = .ok (.iaload, 1) := by decide +kernel
theorem dX11_row_64 : decode cX11_row 64 = .ok (.istore 5, 2) := by decide +kernel
theorem dX11_row_66 : decode cX11_row 66 = .ok (.aload_n 0, 1) := by decide +kernel
theorem dX11_row_67 : decode cX11_row 67 = .ok (.getfield 61, 3) := by decide +kernel
theorem dX11_row_70 : decode cX11_row 70 = .ok (.getfield 124, 3) := by decide +kernel
theorem dX11_row_73 : decode cX11_row 73 = .ok (.getfield 186, 3) := by decide +kernel
theorem dX11_row_76 : decode cX11_row 76 = .ok (.iload 4, 2) := by decide +kernel
theorem dX11_row_78 : decode cX11_row 78 = .ok (.iload_n 3, 1) := by decide +kernel
theorem dX11_row_79 : decode cX11_row 79 = .ok (.iastore, 1) := by decide +kernel
theorem dX11_row_80 : decode cX11_row 80 = .ok (.iload 5, 2) := by decide +kernel
theorem dX11_row_82 : decode cX11_row 82 = .ok (.ireturn, 1) := by decide +kernel
def zb_X11_row_16 (E : zj_E) (st : List Value) (m : zj_M) : zj_R := (zi_push (.int (-1)) (zi_ret (some .int))) E st m
set_option maxRecDepth 20000 in
theorem zs_X11_row_16 : zj_KC cX11_row RX11 6 (2) (some .int) (0, fun _ => 0) 16 (zb_X11_row_16) := (zr_iconst dX11_row_16 rfl (zr_ret dX11_row_17))
def zb_X11_row_28 (E : zj_E) (st : List Value) (m : zj_M) : zj_R := (zi_push (.int (-2)) (zi_ret (some .int))) E st m
set_option maxRecDepth 20000 in
theorem zs_X11_row_28 : zj_KC cX11_row RX11 6 (2) (some .int) (0, fun _ => 0) 28 (zb_X11_row_28) := (zr_bipush dX11_row_28 rfl (zr_ret dX11_row_30))
def zb_X11_row_0 (E : zj_E) (st : List Value) (m : zj_M) : zj_R := (zi_ald 0 (zi_ild 1 (zi_vc 11 1 zf_X11_isWalker (zi_eq zb_X11_row_16 (zi_ild 2 (zi_push (.int 4) (zi_call 2 zf_X11_isBelow (zi_eq zb_X11_row_16 (zi_ild 3 (zi_lt zb_X11_row_28 (zi_ild 3 (zi_push (.int 9) (zi_cle (zi_ald 0 (zi_ild 1 (zi_push (.int 6) (zi_vc 11 2 zf_X11_isUnder (zi_eq (zi_push (.int (-3)) (zi_ret (some .int))) (zi_ild 1 (zi_push (.int 4) (zi_b (fun x y => x * y) (zi_ild 2 (zi_b (fun x y => x + y) (zi_ist 4 (zi_ald 0 (zi_gf 11 3 (zi_gf 10 1 (zi_gf 4 6 (zi_ild 4 (zi_iald (zi_ist 5 (zi_ald 0 (zi_gf 11 3 (zi_gf 10 1 (zi_gf 4 6 (zi_ild 4 (zi_ild 3 (zi_iast (zi_ild 5 (zi_ret (some .int)))))))))))))))))))))))) zi_no)))) zb_X11_row_28)))))))))) zi_no))) E st m
set_option maxRecDepth 20000 in
theorem zs_X11_row_0 : zj_KC cX11_row RX11 6 (2) (some .int) (0, fun _ => 0) 0 (zb_X11_row_0) := (zr_aldn dX11_row_0 rfl (zr_ildn dX11_row_1 rfl (zr_callV dX11_row_2 zm_X11_isWalker ⟨⟨zq_597, zq_65⟩, by decide +kernel, by omega, by decide⟩ rfl rfl zq_594 zq_596 zq_13 (zr_ifeq dX11_row_5 (tgt := 16) (by decide) (zs_X11_row_16) (zr_ildn dX11_row_8 rfl (zr_iconst dX11_row_9 rfl (zr_callS dX11_row_10 zm_X11_isBelow ⟨⟨zq_572, zq_65⟩, by decide +kernel, by omega, by decide⟩ zq_570 zq_571 (zr_ifne dX11_row_13 (tgt := 18) (by decide) (zr_ildn dX11_row_18 rfl (zr_iflt dX11_row_19 (tgt := 28) (by decide) (zs_X11_row_28) (zr_ildn dX11_row_22 rfl (zr_bipush dX11_row_23 rfl (zr_icle dX11_row_25 (tgt := 31) (by decide) (zr_aldn dX11_row_31 rfl (zr_ildn dX11_row_32 rfl (zr_bipush dX11_row_33 rfl (zr_callV dX11_row_35 zm_X11_isUnder ⟨⟨zq_706, zq_65⟩, by decide +kernel, by omega, by decide⟩ rfl rfl zq_703 zq_705 zq_16 (zr_ifne dX11_row_38 (tgt := 44) (by decide) (zr_ildn dX11_row_44 rfl (zr_iconst dX11_row_45 rfl (zr_imul dX11_row_46 (zr_ildn dX11_row_47 rfl (zr_iadd dX11_row_48 (zr_ist dX11_row_49 (zr_aldn dX11_row_51 rfl (zr_gf dX11_row_52 zfl_X11_61_11 (zr_gf dX11_row_55 zfl_X11_124_10 (zr_gf dX11_row_58 zfl_X11_186_4 (zr_ild dX11_row_61 (zr_iald dX11_row_63 (zr_ist dX11_row_64 (zr_aldn dX11_row_66 rfl (zr_gf dX11_row_67 zfl_X11_61_11 (zr_gf dX11_row_70 zfl_X11_124_10 (zr_gf dX11_row_73 zfl_X11_186_4 (zr_ild dX11_row_76 (zr_ildn dX11_row_78 rfl (zr_iast dX11_row_79 (zr_ild dX11_row_80 (zr_ret dX11_row_82)))))))))))))))))))))) (zr_bipush dX11_row_41 rfl (zr_ret dX11_row_43))) zr_no)))) (zs_X11_row_28)))))) (zs_X11_row_16)))))) zr_no)))
def zf_X11_row : zj_F := zj_run 6 zb_X11_row_0
theorem zm_X11_row : zj_MS 2 yX11_row cX11_row 6 (some .int) zf_X11_row := zj_met (own := RX11) rfl (by decide +kernel) (Or.inr (Or.inl rfl)) (zs_X11_row_0)
theorem dX11_set_0 : decode cX11_set 0 = .ok (.aload_n 0, 1) := by decide +kernel
theorem dX11_set_1 : decode cX11_set 1 = .ok (.iload_n 1, 1) := by decide +kernel
theorem dX11_set_2 : decode cX11_set 2 = .ok (.invokevirtual 140, 3) := by decide +kernel
theorem dX11_set_5 : decode cX11_set 5 = .ok (.ifCond .ne 5, 3) := by decide +kernel
theorem dX11_set_8 : decode cX11_set 8 = .ok (.iconst (-1), 1) := by decide +kernel
theorem dX11_set_9 : decode cX11_set 9 = .ok (.ireturn, 1) := by decide +kernel
theorem dX11_set_10 : decode cX11_set 10 = .ok (.iconst (-1), 1) := by decide +kernel
theorem dX11_set_11 : decode cX11_set 11 = .ok (.istore 4, 2) := by decide +kernel
theorem dX11_set_13 : decode cX11_set 13 = .ok (.iload_n 2, 1) := by decide +kernel
theorem dX11_set_14 : decode cX11_set 14 = .ok (.ifCond .ne 42, 3) := by decide +kernel
theorem dX11_set_17 : decode cX11_set 17 = .ok (.iload_n 3, 1) := by decide +kernel
theorem dX11_set_18 : decode cX11_set 18 = .ok (.bipush 16, 2) := by decide +kernel
theorem dX11_set_20 : decode cX11_set 20 = .ok (.invokestatic 119, 3) := by decide +kernel
theorem dX11_set_23 : decode cX11_set 23 = .ok (.ifCond .eq 33, 3) := by decide +kernel
theorem dX11_set_26 : decode cX11_set 26 = .ok (.aload_n 0, 1) := by decide +kernel
theorem dX11_set_27 : decode cX11_set 27 = .ok (.getfield 61, 3) := by decide +kernel
theorem dX11_set_30 : decode cX11_set 30 = .ok (.getfield 124, 3) := by decide +kernel
theorem dX11_set_33 : decode cX11_set 33 = .ok (.getfield 154, 3) := by decide +kernel
theorem dX11_set_36 : decode cX11_set 36 = .ok (.iload_n 1, 1) := by decide +kernel
theorem dX11_set_37 : decode cX11_set 37 = .ok (.iaload, 1) := by decide +kernel
theorem dX11_set_38 : decode cX11_set 38 = .ok (.istore 4, 2) := by decide +kernel
theorem dX11_set_40 : decode cX11_set 40 = .ok (.aload_n 0, 1) := by decide +kernel
theorem dX11_set_41 : decode cX11_set 41 = .ok (.getfield 61, 3) := by decide +kernel
theorem dX11_set_44 : decode cX11_set 44 = .ok (.getfield 124, 3) := by decide +kernel
theorem dX11_set_47 : decode cX11_set 47 = .ok (.getfield 154, 3) := by decide +kernel
theorem dX11_set_50 : decode cX11_set 50 = .ok (.iload_n 1, 1) := by decide +kernel
theorem dX11_set_51 : decode cX11_set 51 = .ok (.iload_n 3, 1) := by decide +kernel
theorem dX11_set_52 : decode cX11_set 52 = .ok (.iastore, 1) := by decide +kernel
theorem dX11_set_53 : decode cX11_set 53 = .ok (.goto 43, 3) := by decide +kernel
theorem dX11_set_56 : decode cX11_set 56 = .ok (.iload_n 2, 1) := by decide +kernel
theorem dX11_set_57 : decode cX11_set 57 = .ok (.iconst 1, 1) := by decide +kernel
theorem dX11_set_58 : decode cX11_set 58 = .ok (.if_icmp .ne 38, 3) := by decide +kernel
theorem dX11_set_61 : decode cX11_set 61 = .ok (.iload_n 3, 1) := by decide +kernel
theorem dX11_set_62 : decode cX11_set 62 = .ok (.iconst 4, 1) := by decide +kernel
theorem dX11_set_63 : decode cX11_set 63 = .ok (.invokestatic 119, 3) := by decide +kernel
theorem dX11_set_66 : decode cX11_set 66 = .ok (.ifCond .eq 30, 3) := by decide +kernel
theorem dX11_set_69 : decode cX11_set 69 = .ok (.aload_n 0, 1) := by decide +kernel
theorem dX11_set_70 : decode cX11_set 70 = .ok (.getfield 61, 3) := by decide +kernel
theorem dX11_set_73 : decode cX11_set 73 = .ok (.getfield 124, 3) := by decide +kernel
theorem dX11_set_76 : decode cX11_set 76 = .ok (.getfield 157, 3) := by decide +kernel
theorem dX11_set_79 : decode cX11_set 79 = .ok (.iload_n 1, 1) := by decide +kernel
theorem dX11_set_80 : decode cX11_set 80 = .ok (.iaload, 1) := by decide +kernel
theorem dX11_set_81 : decode cX11_set 81 = .ok (.istore 4, 2) := by decide +kernel
theorem dX11_set_83 : decode cX11_set 83 = .ok (.aload_n 0, 1) := by decide +kernel
theorem dX11_set_84 : decode cX11_set 84 = .ok (.getfield 61, 3) := by decide +kernel
theorem dX11_set_87 : decode cX11_set 87 = .ok (.getfield 124, 3) := by decide +kernel
theorem dX11_set_90 : decode cX11_set 90 = .ok (.getfield 157, 3) := by decide +kernel
theorem dX11_set_93 : decode cX11_set 93 = .ok (.iload_n 1, 1) := by decide +kernel
theorem dX11_set_94 : decode cX11_set 94 = .ok (.iload_n 3, 1) := by decide +kernel
theorem dX11_set_95 : decode cX11_set 95 = .ok (.iastore, 1) := by decide +kernel
theorem dX11_set_96 : decode cX11_set 96 = .ok (.iload 4, 2) := by decide +kernel
theorem dX11_set_98 : decode cX11_set 98 = .ok (.ireturn, 1) := by decide +kernel
def zb_X11_set_96 (E : zj_E) (st : List Value) (m : zj_M) : zj_R := (zi_ild 4 (zi_ret (some .int))) E st m
set_option maxRecDepth 20000 in
theorem zs_X11_set_96 : zj_KC cX11_set RX11 5 (2) (some .int) (0, fun _ => 0) 96 (zb_X11_set_96) := (zr_ild dX11_set_96 (zr_ret dX11_set_98))
def zb_X11_set_56 (E : zj_E) (st : List Value) (m : zj_M) : zj_R := (zi_ild 2 (zi_push (.int 1) (zi_ceq (zi_ild 3 (zi_push (.int 4) (zi_call 2 zf_X11_isBelow (zi_eq zb_X11_set_96 (zi_ald 0 (zi_gf 11 3 (zi_gf 10 1 (zi_gf 4 4 (zi_ild 1 (zi_iald (zi_ist 4 (zi_ald 0 (zi_gf 11 3 (zi_gf 10 1 (zi_gf 4 4 (zi_ild 1 (zi_ild 3 (zi_iast zb_X11_set_96)))))))))))))))))) zb_X11_set_96))) E st m
set_option maxRecDepth 20000 in
theorem zs_X11_set_56 : zj_KC cX11_set RX11 5 (2) (some .int) (0, fun _ => 0) 56 (zb_X11_set_56) := (zr_ildn dX11_set_56 rfl (zr_iconst dX11_set_57 rfl (zr_icne dX11_set_58 (tgt := 96) (by decide) (zs_X11_set_96) (zr_ildn dX11_set_61 rfl (zr_iconst dX11_set_62 rfl (zr_callS dX11_set_63 zm_X11_isBelow ⟨⟨zq_572, zq_65⟩, by decide +kernel, by omega, by decide⟩ zq_570 zq_571 (zr_ifeq dX11_set_66 (tgt := 96) (by decide) (zs_X11_set_96) (zr_aldn dX11_set_69 rfl (zr_gf dX11_set_70 zfl_X11_61_11 (zr_gf dX11_set_73 zfl_X11_124_10 (zr_gf dX11_set_76 zfl_X11_157_4 (zr_ildn dX11_set_79 rfl (zr_iald dX11_set_80 (zr_ist dX11_set_81 (zr_aldn dX11_set_83 rfl (zr_gf dX11_set_84 zfl_X11_61_11 (zr_gf dX11_set_87 zfl_X11_124_10 (zr_gf dX11_set_90 zfl_X11_157_4 (zr_ildn dX11_set_93 rfl (zr_ildn dX11_set_94 rfl (zr_iast dX11_set_95 (zs_X11_set_96))))))))))))))))))))))
def zb_X11_set_0 (E : zj_E) (st : List Value) (m : zj_M) : zj_R := (zi_ald 0 (zi_ild 1 (zi_vc 11 1 zf_X11_isWalker (zi_eq (zi_push (.int (-1)) (zi_ret (some .int))) (zi_push (.int (-1)) (zi_ist 4 (zi_ild 2 (zi_eq (zi_ild 3 (zi_push (.int 16) (zi_call 2 zf_X11_isBelow (zi_eq zb_X11_set_56 (zi_ald 0 (zi_gf 11 3 (zi_gf 10 1 (zi_gf 4 3 (zi_ild 1 (zi_iald (zi_ist 4 (zi_ald 0 (zi_gf 11 3 (zi_gf 10 1 (zi_gf 4 3 (zi_ild 1 (zi_ild 3 (zi_iast zb_X11_set_96)))))))))))))))))) zb_X11_set_56))))) zi_no))) E st m
set_option maxRecDepth 20000 in
theorem zs_X11_set_0 : zj_KC cX11_set RX11 5 (2) (some .int) (0, fun _ => 0) 0 (zb_X11_set_0) := (zr_aldn dX11_set_0 rfl (zr_ildn dX11_set_1 rfl (zr_callV dX11_set_2 zm_X11_isWalker ⟨⟨zq_597, zq_65⟩, by decide +kernel, by omega, by decide⟩ rfl rfl zq_594 zq_596 zq_13 (zr_ifne dX11_set_5 (tgt := 10) (by decide) (zr_iconst dX11_set_10 rfl (zr_ist dX11_set_11 (zr_ildn dX11_set_13 rfl (zr_ifne dX11_set_14 (tgt := 56) (by decide) (zs_X11_set_56) (zr_ildn dX11_set_17 rfl (zr_bipush dX11_set_18 rfl (zr_callS dX11_set_20 zm_X11_isBelow ⟨⟨zq_572, zq_65⟩, by decide +kernel, by omega, by decide⟩ zq_570 zq_571 (zr_ifeq dX11_set_23 (tgt := 56) (by decide) (zs_X11_set_56) (zr_aldn dX11_set_26 rfl (zr_gf dX11_set_27 zfl_X11_61_11 (zr_gf dX11_set_30 zfl_X11_124_10 (zr_gf dX11_set_33 zfl_X11_154_4 (zr_ildn dX11_set_36 rfl (zr_iald dX11_set_37 (zr_ist dX11_set_38 (zr_aldn dX11_set_40 rfl (zr_gf dX11_set_41 zfl_X11_61_11 (zr_gf dX11_set_44 zfl_X11_124_10 (zr_gf dX11_set_47 zfl_X11_154_4 (zr_ildn dX11_set_50 rfl (zr_ildn dX11_set_51 rfl (zr_iast dX11_set_52 (zr_goto dX11_set_53 (tgt := 96) (by decide) (zs_X11_set_96)))))))))))))))))))))))) (zr_iconst dX11_set_8 rfl (zr_ret dX11_set_9))) zr_no)))
def zf_X11_set : zj_F := zj_run 5 zb_X11_set_0
theorem zm_X11_set : zj_MS 2 yX11_set cX11_set 5 (some .int) zf_X11_set := zj_met (own := RX11) rfl (by decide +kernel) (Or.inr (Or.inl rfl)) (zs_X11_set_0)
theorem dX11_away_0 : decode cX11_away 0 = .ok (.aload_n 0, 1) := by decide +kernel
theorem dX11_away_1 : decode cX11_away 1 = .ok (.iload_n 1, 1) := by decide +kernel
theorem dX11_away_2 : decode cX11_away 2 = .ok (.invokevirtual 140, 3) := by decide +kernel
theorem dX11_away_5 : decode cX11_away 5 = .ok (.ifCond .ne 5, 3) := by decide +kernel
theorem dX11_away_8 : decode cX11_away 8 = .ok (.iconst (-1), 1) := by decide +kernel
theorem dX11_away_9 : decode cX11_away 9 = .ok (.ireturn, 1) := by decide +kernel
theorem dX11_away_10 : decode cX11_away 10 = .ok (.aload_n 0, 1) := by decide +kernel
theorem dX11_away_11 : decode cX11_away 11 = .ok (.getfield 61, 3) := by decide +kernel
theorem dX11_away_14 : decode cX11_away 14 = .ok (.getfield 124, 3) := by decide +kernel
theorem dX11_away_17 : decode cX11_away 17 = .ok (.iload_n 1, 1) := by decide +kernel
theorem dX11_away_18 : decode cX11_away 18 = .ok (.invokevirtual 160, 3) := by decide +kernel
theorem dX11_away_21 : decode cX11_away 21 = .ok (.invokestatic 163, 3) := by decide +kernel
theorem dX11_away_24 : decode cX11_away 24 = .ok (.istore_n 3, 1) := by decide +kernel
theorem dX11_away_25 : decode cX11_away 25 = .ok (.aload_n 0, 1) := by decide +kernel
theorem dX11_away_26 : decode cX11_away 26 = .ok (.getfield 61, 3) := by decide +kernel
theorem dX11_away_29 : decode cX11_away 29 = .ok (.getfield 124, 3) := by decide +kernel
theorem dX11_away_32 : decode cX11_away 32 = .ok (.iload_n 1, 1) := by decide +kernel
theorem dX11_away_33 : decode cX11_away 33 = .ok (.iload_n 2, 1) := by decide +kernel
theorem dX11_away_34 : decode cX11_away 34 = .ok (.invokevirtual 189, 3) := by decide +kernel
theorem dX11_away_37 : decode cX11_away 37 = .ok (.iload_n 3, 1) := by decide +kernel
theorem dX11_away_38 : decode cX11_away 38 = .ok (.ireturn, 1) := by decide +kernel
def zb_X11_away_0 (E : zj_E) (st : List Value) (m : zj_M) : zj_R := (zi_ald 0 (zi_ild 1 (zi_vc 11 1 zf_X11_isWalker (zi_eq (zi_push (.int (-1)) (zi_ret (some .int))) (zi_ald 0 (zi_gf 11 3 (zi_gf 10 1 (zi_ild 1 (zi_vc 4 1 zf_X4_isAway (zi_call 1 zf_X11_bit (zi_ist 3 (zi_ald 0 (zi_gf 11 3 (zi_gf 10 1 (zi_ild 1 (zi_ild 2 (zi_vc 4 2 zf_X4_putAway (zi_ild 3 (zi_ret (some .int))) zi_no)))))))) zi_no)))))) zi_no))) E st m
set_option maxRecDepth 20000 in
theorem zs_X11_away_0 : zj_KC cX11_away RX11 4 (2) (some .int) (0, fun _ => 0) 0 (zb_X11_away_0) := (zr_aldn dX11_away_0 rfl (zr_ildn dX11_away_1 rfl (zr_callV dX11_away_2 zm_X11_isWalker ⟨⟨zq_597, zq_65⟩, by decide +kernel, by omega, by decide⟩ rfl rfl zq_594 zq_596 zq_13 (zr_ifne dX11_away_5 (tgt := 10) (by decide) (zr_aldn dX11_away_10 rfl (zr_gf dX11_away_11 zfl_X11_61_11 (zr_gf dX11_away_14 zfl_X11_124_10 (zr_ildn dX11_away_17 rfl (zr_callV dX11_away_18 zm_X4_isAway ⟨⟨zq_606, zq_76⟩, by decide +kernel, by omega, by decide⟩ rfl rfl zq_607 zq_604 zq_605 (zr_callS dX11_away_21 zm_X11_bit ⟨⟨zq_610, zq_65⟩, by decide +kernel, by omega, by decide⟩ zq_608 zq_609 (zr_istn dX11_away_24 rfl (zr_aldn dX11_away_25 rfl (zr_gf dX11_away_26 zfl_X11_61_11 (zr_gf dX11_away_29 zfl_X11_124_10 (zr_ildn dX11_away_32 rfl (zr_ildn dX11_away_33 rfl (zr_callV dX11_away_34 zm_X4_putAway ⟨⟨zq_589, zq_76⟩, by decide +kernel, by omega, by decide⟩ rfl rfl zq_715 zq_587 zq_588 (zr_ildn dX11_away_37 rfl (zr_ret dX11_away_38)) zr_no)))))))) zr_no))))) (zr_iconst dX11_away_8 rfl (zr_ret dX11_away_9))) zr_no)))
def zf_X11_away : zj_F := zj_run 4 zb_X11_away_0
theorem zm_X11_away : zj_MS 2 yX11_away cX11_away 4 (some .int) zf_X11_away := zj_met (own := RX11) rfl (by decide +kernel) (Or.inr (Or.inl rfl)) (zs_X11_away_0)
theorem dX11_startTrial_0 : decode cX11_startTrial 0 = .ok (.aload_n 0, 1) := by decide +kernel
theorem dX11_startTrial_1 : decode cX11_startTrial 1 = .ok (.getfield 74, 3) := by decide +kernel
theorem dX11_startTrial_4 : decode cX11_startTrial 4 = .ok (.aload_n 0, 1) := by decide +kernel
theorem dX11_startTrial_5 : decode cX11_startTrial 5 = .ok (.getfield 61, 3) := by decide +kernel
theorem dX11_startTrial_8 : decode cX11_startTrial 8 = .ok (.getfield 124, 3) := by decide +kernel
theorem dX11_startTrial_11 : decode cX11_startTrial 11 = .ok (.invokevirtual 269, 3) := by decide +kernel
theorem dX11_startTrial_14 : decode cX11_startTrial 14 = .ok (.aload_n 0, 1) := by decide +kernel
theorem dX11_startTrial_15 : decode cX11_startTrial 15 = .ok (.getfield 74, 3) := by decide +kernel
theorem dX11_startTrial_18 : decode cX11_startTrial 18 = .ok (.areturn, 1) := by decide +kernel
def zb_X11_startTrial_0 (E : zj_E) (st : List Value) (m : zj_M) : zj_R := (zi_ald 0 (zi_gf 11 5 (zi_ald 0 (zi_gf 11 3 (zi_gf 10 1 (zi_vc 4 1 zf_X4_copyFrom (zi_ald 0 (zi_gf 11 5 (zi_ret (some (.object "RoadForMood$Ring"))))) zi_no)))))) E st m
set_option maxRecDepth 20000 in
theorem zs_X11_startTrial_0 : zj_KC cX11_startTrial RX11 1 (3) (some (.object "RoadForMood$Ring")) (0, fun _ => 0) 0 (zb_X11_startTrial_0) := (zr_aldn dX11_startTrial_0 rfl (zr_gf dX11_startTrial_1 zfl_X11_74_11 (zr_aldn dX11_startTrial_4 rfl (zr_gf dX11_startTrial_5 zfl_X11_61_11 (zr_gf dX11_startTrial_8 zfl_X11_124_10 (zr_callV dX11_startTrial_11 zm_X4_copyFrom ⟨⟨zq_737, zq_76⟩, by decide +kernel, by omega, by decide⟩ rfl rfl zq_734 zq_735 zq_736 (zr_aldn dX11_startTrial_14 rfl (zr_gf dX11_startTrial_15 zfl_X11_74_11 (zr_ret dX11_startTrial_18))) zr_no))))))
def zf_X11_startTrial : zj_F := zj_run 1 zb_X11_startTrial_0
theorem zm_X11_startTrial : zj_MS 3 yX11_startTrial cX11_startTrial 1 (some (.object "RoadForMood$Ring")) zf_X11_startTrial := zj_met (own := RX11) rfl (by decide +kernel) (Or.inr (Or.inr (Or.inr (Or.inr ⟨_, rfl⟩)))) (zs_X11_startTrial_0)
