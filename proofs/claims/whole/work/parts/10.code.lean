theorem dX9_sway_0 : decode cX9_sway 0 = .ok (.iload_n 3, 1) := by decide +kernel
theorem dX9_sway_1 : decode cX9_sway 1 = .ok (.ireturn, 1) := by decide +kernel
def zb_X9_sway_0 (E : zj_E) (st : List Value) (m : zj_M) : zj_R := (zi_ild 3 (zi_ret (some .int))) E st m
set_option maxRecDepth 20000 in
theorem zs_X9_sway_0 : zj_KC cX9_sway RX9 4 (0) (some .int) (0, fun _ => 0) 0 (zb_X9_sway_0) := (zr_ildn dX9_sway_0 rfl (zr_ret dX9_sway_1))
def zf_X9_sway : zj_F := zj_run 4 zb_X9_sway_0
theorem zm_X9_sway : zj_MS 0 yX9_sway cX9_sway 4 (some .int) zf_X9_sway := zj_met (own := RX9) rfl (by decide +kernel) (Or.inr (Or.inl rfl)) (zs_X9_sway_0)
theorem dX0_sway_0 : decode cX0_sway 0 = .ok (.aload_n 0, 1) := by decide +kernel
theorem dX0_sway_1 : decode cX0_sway 1 = .ok (.aload_n 1, 1) := by decide +kernel
theorem dX0_sway_2 : decode cX0_sway 2 = .ok (.iload_n 2, 1) := by decide +kernel
theorem dX0_sway_3 : decode cX0_sway 3 = .ok (.iload_n 3, 1) := by decide +kernel
theorem dX0_sway_4 : decode cX0_sway 4 = .ok (.invokespecial 7, 3) := by decide +kernel
theorem dX0_sway_7 : decode cX0_sway 7 = .ok (.iconst 1, 1) := by decide +kernel
theorem dX0_sway_8 : decode cX0_sway 8 = .ok (.iadd, 1) := by decide +kernel
theorem dX0_sway_9 : decode cX0_sway 9 = .ok (.ireturn, 1) := by decide +kernel
def zb_X0_sway_7 (E : zj_E) (st : List Value) (m : zj_M) : zj_R := (zi_push (.int 1) (zi_b (fun x y => x + y) (zi_ret (some .int)))) E st m
set_option maxRecDepth 20000 in
theorem zs_X0_sway_7 : zj_KC cX0_sway RX0 4 (1) (some .int) (0, fun _ => 0) 7 (zb_X0_sway_7) := (zr_iconst dX0_sway_7 rfl (zr_iadd dX0_sway_8 (zr_ret dX0_sway_9)))
def zb_X0_sway_0 (E : zj_E) (st : List Value) (m : zj_M) : zj_R := (zi_ald 0 (zi_ald 1 (zi_ild 2 (zi_ild 3 (zi_vc 0 3 zf_X9_sway zb_X0_sway_7 (zi_vc 8 3 zf_X9_sway zb_X0_sway_7 zi_no)))))) E st m
set_option maxRecDepth 20000 in
theorem zs_X0_sway_0 : zj_KC cX0_sway RX0 4 (1) (some .int) (0, fun _ => 0) 0 (zb_X0_sway_0) := (zr_aldn dX0_sway_0 rfl (zr_aldn dX0_sway_1 rfl (zr_ildn dX0_sway_2 rfl (zr_ildn dX0_sway_3 rfl (zr_callSU dX0_sway_4 zm_X9_sway ⟨⟨zq_667, zq_67⟩, by decide +kernel, by omega, by decide⟩ rfl zq_643 zq_639 zq_157 (by decide) zq_637 (zs_X0_sway_7) (zr_callSU dX0_sway_4 zm_X9_sway ⟨⟨zq_667, zq_67⟩, by decide +kernel, by omega, by decide⟩ rfl zq_643 zq_639 zq_157 (by decide) zq_637 (zs_X0_sway_7) zr_no))))))
def zf_X0_sway : zj_F := zj_run 4 zb_X0_sway_0
theorem zm_X0_sway : zj_MS 1 yX0_sway cX0_sway 4 (some .int) zf_X0_sway := zj_met (own := RX0) rfl (by decide +kernel) (Or.inr (Or.inl rfl)) (zs_X0_sway_0)
theorem dX0_pace_0 : decode cX0_pace 0 = .ok (.aload_n 1, 1) := by decide +kernel
theorem dX0_pace_1 : decode cX0_pace 1 = .ok (.getfield 11, 3) := by decide +kernel
theorem dX0_pace_4 : decode cX0_pace 4 = .ok (.iload_n 2, 1) := by decide +kernel
theorem dX0_pace_5 : decode cX0_pace 5 = .ok (.iaload, 1) := by decide +kernel
theorem dX0_pace_6 : decode cX0_pace 6 = .ok (.iconst 3, 1) := by decide +kernel
theorem dX0_pace_7 : decode cX0_pace 7 = .ok (.irem, 1) := by decide +kernel
theorem dX0_pace_8 : decode cX0_pace 8 = .ok (.ireturn, 1) := by decide +kernel
def zb_X0_pace_0 (E : zj_E) (st : List Value) (m : zj_M) : zj_R := (zi_ald 1 (zi_gf 4 2 (zi_ild 2 (zi_iald (zi_push (.int 3) (zi_bd (fun x y => x - x / y * y) (zi_ret (some .int)))))))) E st m
set_option maxRecDepth 20000 in
theorem zs_X0_pace_0 : zj_KC cX0_pace RX0 3 (0) (some .int) (0, fun _ => 0) 0 (zb_X0_pace_0) := (zr_aldn dX0_pace_0 rfl (zr_gf dX0_pace_1 zfl_X0_11_4 (zr_ildn dX0_pace_4 rfl (zr_iald dX0_pace_5 (zr_iconst dX0_pace_6 rfl (zr_irem dX0_pace_7 (zr_ret dX0_pace_8)))))))
def zf_X0_pace : zj_F := zj_run 3 zb_X0_pace_0
theorem zm_X0_pace : zj_MS 0 yX0_pace cX0_pace 3 (some .int) zf_X0_pace := zj_met (own := RX0) rfl (by decide +kernel) (Or.inr (Or.inl rfl)) (zs_X0_pace_0)
theorem dX5_add_0 : decode cX5_add 0 = .ok (.aload_n 0, 1) := by decide +kernel
theorem dX5_add_1 : decode cX5_add 1 = .ok (.getfield 19, 3) := by decide +kernel
theorem dX5_add_4 : decode cX5_add 4 = .ok (.ifCond .lt 45, 3) := by decide +kernel
theorem dX5_add_7 : decode cX5_add 7 = .ok (.aload_n 0, 1) := by decide +kernel
theorem dX5_add_8 : decode cX5_add 8 = .ok (.getfield 19, 3) := by decide +kernel
theorem dX5_add_11 : decode cX5_add 11 = .ok (.aload_n 0, 1) := by decide +kernel
theorem dX5_add_12 : decode cX5_add 12 = .ok (.getfield 7, 3) := by decide +kernel
theorem dX5_add_15 : decode cX5_add 15 = .ok (.arraylength, 1) := by decide +kernel
theorem dX5_add_16 : decode cX5_add 16 = .ok (.if_icmp .ge 33, 3) := by decide +kernel
theorem dX5_add_19 : decode cX5_add 19 = .ok (.aload_n 0, 1) := by decide +kernel
theorem dX5_add_20 : decode cX5_add 20 = .ok (.getfield 7, 3) := by decide +kernel
theorem dX5_add_23 : decode cX5_add 23 = .ok (.aload_n 0, 1) := by decide +kernel
theorem dX5_add_24 : decode cX5_add 24 = .ok (.getfield 19, 3) := by decide +kernel
theorem dX5_add_27 : decode cX5_add 27 = .ok (.iload_n 1, 1) := by decide +kernel
theorem dX5_add_28 : decode cX5_add 28 = .ok (.iastore, 1) := by decide +kernel
theorem dX5_add_29 : decode cX5_add 29 = .ok (.aload_n 0, 1) := by decide +kernel
theorem dX5_add_30 : decode cX5_add 30 = .ok (.getfield 13, 3) := by decide +kernel
theorem dX5_add_33 : decode cX5_add 33 = .ok (.aload_n 0, 1) := by decide +kernel
theorem dX5_add_34 : decode cX5_add 34 = .ok (.getfield 19, 3) := by decide +kernel
theorem dX5_add_37 : decode cX5_add 37 = .ok (.iload_n 2, 1) := by decide +kernel
theorem dX5_add_38 : decode cX5_add 38 = .ok (.iastore, 1) := by decide +kernel
theorem dX5_add_39 : decode cX5_add 39 = .ok (.aload_n 0, 1) := by decide +kernel
theorem dX5_add_40 : decode cX5_add 40 = .ok (.getfield 16, 3) := by decide +kernel
theorem dX5_add_43 : decode cX5_add 43 = .ok (.aload_n 0, 1) := by decide +kernel
theorem dX5_add_44 : decode cX5_add 44 = .ok (.getfield 19, 3) := by decide +kernel
theorem dX5_add_47 : decode cX5_add 47 = .ok (.iload_n 3, 1) := by decide +kernel
theorem dX5_add_48 : decode cX5_add 48 = .ok (.iastore, 1) := by decide +kernel
theorem dX5_add_49 : decode cX5_add 49 = .ok (.aload_n 0, 1) := by decide +kernel
theorem dX5_add_50 : decode cX5_add 50 = .ok (.dup, 1) := by decide +kernel
theorem dX5_add_51 : decode cX5_add 51 = .ok (.getfield 19, 3) := by decide +kernel
theorem dX5_add_54 : decode cX5_add 54 = .ok (.iconst 1, 1) := by decide +kernel
theorem dX5_add_55 : decode cX5_add 55 = .ok (.iadd, 1) := by decide +kernel
theorem dX5_add_56 : decode cX5_add 56 = .ok (.putfield 19, 3) := by decide +kernel
theorem dX5_add_59 : decode cX5_add 59 = .ok (.return_, 1) := by decide +kernel
def zb_X5_add_49 (E : zj_E) (st : List Value) (m : zj_M) : zj_R := (zi_ald 0 (zi_dup (zi_gf 5 3 (zi_push (.int 1) (zi_b (fun x y => x + y) (zi_pf 5 3 (zi_ret none))))))) E st m
set_option maxRecDepth 20000 in
theorem zs_X5_add_49 : zj_KC cX5_add RX5 4 (0) none (0, fun _ => 0) 49 (zb_X5_add_49) := (zr_aldn dX5_add_49 rfl (zr_dup dX5_add_50 (zr_gf dX5_add_51 zfl_X5_19_5 (zr_iconst dX5_add_54 rfl (zr_iadd dX5_add_55 (zr_pf dX5_add_56 zfl_X5_19_5w (zr_ret dX5_add_59)))))))
def zb_X5_add_0 (E : zj_E) (st : List Value) (m : zj_M) : zj_R := (zi_ald 0 (zi_gf 5 3 (zi_lt zb_X5_add_49 (zi_ald 0 (zi_gf 5 3 (zi_ald 0 (zi_gf 5 0 (zi_alen (zi_clt (zi_ald 0 (zi_gf 5 0 (zi_ald 0 (zi_gf 5 3 (zi_ild 1 (zi_iast (zi_ald 0 (zi_gf 5 1 (zi_ald 0 (zi_gf 5 3 (zi_ild 2 (zi_iast (zi_ald 0 (zi_gf 5 2 (zi_ald 0 (zi_gf 5 3 (zi_ild 3 (zi_iast zb_X5_add_49)))))))))))))))))) zb_X5_add_49))))))))) E st m
set_option maxRecDepth 20000 in
theorem zs_X5_add_0 : zj_KC cX5_add RX5 4 (0) none (0, fun _ => 0) 0 (zb_X5_add_0) := (zr_aldn dX5_add_0 rfl (zr_gf dX5_add_1 zfl_X5_19_5 (zr_iflt dX5_add_4 (tgt := 49) (by decide) (zs_X5_add_49) (zr_aldn dX5_add_7 rfl (zr_gf dX5_add_8 zfl_X5_19_5 (zr_aldn dX5_add_11 rfl (zr_gf dX5_add_12 zfl_X5_7_5 (zr_alen dX5_add_15 (zr_icge dX5_add_16 (tgt := 49) (by decide) (zs_X5_add_49) (zr_aldn dX5_add_19 rfl (zr_gf dX5_add_20 zfl_X5_7_5 (zr_aldn dX5_add_23 rfl (zr_gf dX5_add_24 zfl_X5_19_5 (zr_ildn dX5_add_27 rfl (zr_iast dX5_add_28 (zr_aldn dX5_add_29 rfl (zr_gf dX5_add_30 zfl_X5_13_5 (zr_aldn dX5_add_33 rfl (zr_gf dX5_add_34 zfl_X5_19_5 (zr_ildn dX5_add_37 rfl (zr_iast dX5_add_38 (zr_aldn dX5_add_39 rfl (zr_gf dX5_add_40 zfl_X5_16_5 (zr_aldn dX5_add_43 rfl (zr_gf dX5_add_44 zfl_X5_19_5 (zr_ildn dX5_add_47 rfl (zr_iast dX5_add_48 (zs_X5_add_49))))))))))))))))))))))))))))
def zf_X5_add : zj_F := zj_run 4 zb_X5_add_0
theorem zm_X5_add : zj_MS 0 yX5_add cX5_add 4 none zf_X5_add := zj_met (own := RX5) rfl (by decide +kernel) (Or.inl rfl) (zs_X5_add_0)
theorem dX9_begin_0 : decode cX9_begin 0 = .ok (.aload_n 0, 1) := by decide +kernel
theorem dX9_begin_1 : decode cX9_begin 1 = .ok (.getfield 7, 3) := by decide +kernel
theorem dX9_begin_4 : decode cX9_begin 4 = .ok (.iload_n 1, 1) := by decide +kernel
theorem dX9_begin_5 : decode cX9_begin 5 = .ok (.iconst 0, 1) := by decide +kernel
theorem dX9_begin_6 : decode cX9_begin 6 = .ok (.iconst 0, 1) := by decide +kernel
theorem dX9_begin_7 : decode cX9_begin 7 = .ok (.invokevirtual 24, 3) := by decide +kernel
theorem dX9_begin_10 : decode cX9_begin 10 = .ok (.return_, 1) := by decide +kernel
def zb_X9_begin_0 (E : zj_E) (st : List Value) (m : zj_M) : zj_R := (zi_ald 0 (zi_gfA [9, 1, 6, 7, 3, 0, 8] 0 (zi_ild 1 (zi_push (.int 0) (zi_push (.int 0) (zi_vc 5 3 zf_X5_add (zi_ret none) zi_no)))))) E st m
set_option maxRecDepth 20000 in
theorem zs_X9_begin_0 : zj_KC cX9_begin RX9 2 (1) none (0, fun _ => 0) 0 (zb_X9_begin_0) := (zr_aldn dX9_begin_0 rfl (zr_gfA dX9_begin_1 (fun ci hq => by simp only [List.mem_cons, List.not_mem_nil, or_false] at hq; rcases hq with rfl | rfl | rfl | rfl | rfl | rfl | rfl <;> first | exact zfl_X9_7_9 | exact zfl_X9_7_1 | exact zfl_X9_7_6 | exact zfl_X9_7_7 | exact zfl_X9_7_3 | exact zfl_X9_7_0 | exact zfl_X9_7_8) (zr_ildn dX9_begin_4 rfl (zr_iconst dX9_begin_5 rfl (zr_iconst dX9_begin_6 rfl (zr_callV dX9_begin_7 zm_X5_add ⟨⟨zq_377, zq_66⟩, by decide +kernel, by omega, by decide⟩ rfl rfl zq_870 zq_375 zq_376 (zr_ret dX9_begin_10) zr_no))))))
def zf_X9_begin : zj_F := zj_run 2 zb_X9_begin_0
theorem zm_X9_begin : zj_MS 1 yX9_begin cX9_begin 2 none zf_X9_begin := zj_met (own := RX9) rfl (by decide +kernel) (Or.inl rfl) (zs_X9_begin_0)
theorem dX9_strolls_0 : decode cX9_strolls 0 = .ok (.aload_n 0, 1) := by decide +kernel
theorem dX9_strolls_1 : decode cX9_strolls 1 = .ok (.iconst 1, 1) := by decide +kernel
theorem dX9_strolls_2 : decode cX9_strolls 2 = .ok (.invokevirtual 13, 3) := by decide +kernel
theorem dX9_strolls_5 : decode cX9_strolls 5 = .ok (.iload_n 3, 1) := by decide +kernel
theorem dX9_strolls_6 : decode cX9_strolls 6 = .ok (.iload_n 1, 1) := by decide +kernel
theorem dX9_strolls_7 : decode cX9_strolls 7 = .ok (.iadd, 1) := by decide +kernel
theorem dX9_strolls_8 : decode cX9_strolls 8 = .ok (.ireturn, 1) := by decide +kernel
def zb_X9_strolls_5 (E : zj_E) (st : List Value) (m : zj_M) : zj_R := (zi_ild 3 (zi_ild 1 (zi_b (fun x y => x + y) (zi_ret (some .int))))) E st m
set_option maxRecDepth 20000 in
theorem zs_X9_strolls_5 : zj_KC cX9_strolls RX9 4 (2) (some .int) (0, fun _ => 0) 5 (zb_X9_strolls_5) := (zr_ildn dX9_strolls_5 rfl (zr_ildn dX9_strolls_6 rfl (zr_iadd dX9_strolls_7 (zr_ret dX9_strolls_8))))
def zb_X9_strolls_0 (E : zj_E) (st : List Value) (m : zj_M) : zj_R := (zi_ald 0 (zi_push (.int 1) (zi_vc 9 1 zf_X9_begin zb_X9_strolls_5 (zi_vc 1 1 zf_X9_begin zb_X9_strolls_5 (zi_vc 6 1 zf_X9_begin zb_X9_strolls_5 (zi_vc 7 1 zf_X9_begin zb_X9_strolls_5 (zi_vc 3 1 zf_X9_begin zb_X9_strolls_5 (zi_vc 0 1 zf_X9_begin zb_X9_strolls_5 (zi_vc 8 1 zf_X9_begin zb_X9_strolls_5 zi_no))))))))) E st m
set_option maxRecDepth 20000 in
theorem zs_X9_strolls_0 : zj_KC cX9_strolls RX9 4 (2) (some .int) (0, fun _ => 0) 0 (zb_X9_strolls_0) := (zr_aldn dX9_strolls_0 rfl (zr_iconst dX9_strolls_1 rfl (zr_callV dX9_strolls_2 zm_X9_begin ⟨⟨zq_869, zq_67⟩, by decide +kernel, by omega, by decide⟩ rfl rfl zq_885 zq_868 zq_1389 (zs_X9_strolls_5) (zr_callU dX9_strolls_2 zm_X9_begin ⟨⟨zq_869, zq_67⟩, by decide +kernel, by omega, by decide⟩ rfl zq_885 zq_1382 zq_868 zq_869 (by decide +kernel) zq_868 zq_1384 (zs_X9_strolls_5) (zr_callU dX9_strolls_2 zm_X9_begin ⟨⟨zq_869, zq_67⟩, by decide +kernel, by omega, by decide⟩ rfl zq_885 zq_1382 zq_868 zq_869 (by decide +kernel) zq_868 zq_1386 (zs_X9_strolls_5) (zr_callU dX9_strolls_2 zm_X9_begin ⟨⟨zq_869, zq_67⟩, by decide +kernel, by omega, by decide⟩ rfl zq_885 zq_1382 zq_868 zq_869 (by decide +kernel) zq_868 zq_1387 (zs_X9_strolls_5) (zr_callU dX9_strolls_2 zm_X9_begin ⟨⟨zq_869, zq_67⟩, by decide +kernel, by omega, by decide⟩ rfl zq_885 zq_1382 zq_868 zq_869 (by decide +kernel) zq_868 zq_1385 (zs_X9_strolls_5) (zr_callU dX9_strolls_2 zm_X9_begin ⟨⟨zq_869, zq_67⟩, by decide +kernel, by omega, by decide⟩ rfl zq_885 zq_1382 zq_868 zq_869 (by decide +kernel) zq_868 zq_1383 (zs_X9_strolls_5) (zr_callU dX9_strolls_2 zm_X9_begin ⟨⟨zq_869, zq_67⟩, by decide +kernel, by omega, by decide⟩ rfl zq_885 zq_1382 zq_868 zq_869 (by decide +kernel) zq_868 zq_1388 (zs_X9_strolls_5) zr_no)))))))))
def zf_X9_strolls : zj_F := zj_run 4 zb_X9_strolls_0
theorem zm_X9_strolls : zj_MS 2 yX9_strolls cX9_strolls 4 (some .int) zf_X9_strolls := zj_met (own := RX9) rfl (by decide +kernel) (Or.inr (Or.inl rfl)) (zs_X9_strolls_0)
theorem dX1_strolls_0 : decode cX1_strolls 0 = .ok (.aload_n 0, 1) := by decide +kernel
theorem dX1_strolls_1 : decode cX1_strolls 1 = .ok (.bipush 11, 2) := by decide +kernel
theorem dX1_strolls_3 : decode cX1_strolls 3 = .ok (.invokevirtual 17, 3) := by decide +kernel
theorem dX1_strolls_6 : decode cX1_strolls 6 = .ok (.aload_n 0, 1) := by decide +kernel
theorem dX1_strolls_7 : decode cX1_strolls 7 = .ok (.iload_n 1, 1) := by decide +kernel
theorem dX1_strolls_8 : decode cX1_strolls 8 = .ok (.iload_n 2, 1) := by decide +kernel
theorem dX1_strolls_9 : decode cX1_strolls 9 = .ok (.iload_n 3, 1) := by decide +kernel
theorem dX1_strolls_10 : decode cX1_strolls 10 = .ok (.iconst 3, 1) := by decide +kernel
theorem dX1_strolls_11 : decode cX1_strolls 11 = .ok (.imul, 1) := by decide +kernel
theorem dX1_strolls_12 : decode cX1_strolls 12 = .ok (.invokespecial 23, 3) := by decide +kernel
theorem dX1_strolls_15 : decode cX1_strolls 15 = .ok (.ireturn, 1) := by decide +kernel
def zb_X1_strolls_15 (E : zj_E) (st : List Value) (m : zj_M) : zj_R := (zi_ret (some .int)) E st m
set_option maxRecDepth 20000 in
theorem zs_X1_strolls_15 : zj_KC cX1_strolls RX1 4 (3) (some .int) (0, fun _ => 0) 15 (zb_X1_strolls_15) := (zr_ret dX1_strolls_15)
def zb_X1_strolls_6 (E : zj_E) (st : List Value) (m : zj_M) : zj_R := (zi_ald 0 (zi_ild 1 (zi_ild 2 (zi_ild 3 (zi_push (.int 3) (zi_b (fun x y => x * y) (zi_vc 1 3 zf_X9_strolls zb_X1_strolls_15 (zi_vc 6 3 zf_X9_strolls zb_X1_strolls_15 zi_no)))))))) E st m
set_option maxRecDepth 20000 in
theorem zs_X1_strolls_6 : zj_KC cX1_strolls RX1 4 (3) (some .int) (0, fun _ => 0) 6 (zb_X1_strolls_6) := (zr_aldn dX1_strolls_6 rfl (zr_ildn dX1_strolls_7 rfl (zr_ildn dX1_strolls_8 rfl (zr_ildn dX1_strolls_9 rfl (zr_iconst dX1_strolls_10 rfl (zr_imul dX1_strolls_11 (zr_callSU dX1_strolls_12 zm_X9_strolls ⟨⟨zq_884, zq_67⟩, by decide +kernel, by omega, by decide⟩ rfl zq_871 zq_858 zq_141 (by decide) zq_856 (zs_X1_strolls_15) (zr_callSU dX1_strolls_12 zm_X9_strolls ⟨⟨zq_884, zq_67⟩, by decide +kernel, by omega, by decide⟩ rfl zq_871 zq_858 zq_141 (by decide) zq_856 (zs_X1_strolls_15) zr_no))))))))
def zb_X1_strolls_0 (E : zj_E) (st : List Value) (m : zj_M) : zj_R := (zi_ald 0 (zi_push (.int 11) (zi_vc 1 1 zf_X9_begin zb_X1_strolls_6 (zi_vc 6 1 zf_X9_begin zb_X1_strolls_6 zi_no)))) E st m
set_option maxRecDepth 20000 in
theorem zs_X1_strolls_0 : zj_KC cX1_strolls RX1 4 (3) (some .int) (0, fun _ => 0) 0 (zb_X1_strolls_0) := (zr_aldn dX1_strolls_0 rfl (zr_bipush dX1_strolls_1 rfl (zr_callU dX1_strolls_3 zm_X9_begin ⟨⟨zq_869, zq_67⟩, by decide +kernel, by omega, by decide⟩ rfl zq_863 zq_864 zq_868 zq_869 (by decide +kernel) zq_868 zq_866 (zs_X1_strolls_6) (zr_callU dX1_strolls_3 zm_X9_begin ⟨⟨zq_869, zq_67⟩, by decide +kernel, by omega, by decide⟩ rfl zq_863 zq_864 zq_868 zq_869 (by decide +kernel) zq_868 zq_867 (zs_X1_strolls_6) zr_no))))
def zf_X1_strolls : zj_F := zj_run 4 zb_X1_strolls_0
theorem zm_X1_strolls : zj_MS 3 yX1_strolls cX1_strolls 4 (some .int) zf_X1_strolls := zj_met (own := RX1) rfl (by decide +kernel) (Or.inr (Or.inl rfl)) (zs_X1_strolls_0)
theorem dX3_strolls_0 : decode cX3_strolls 0 = .ok (.aload_n 0, 1) := by decide +kernel
theorem dX3_strolls_1 : decode cX3_strolls 1 = .ok (.bipush 51, 2) := by decide +kernel
theorem dX3_strolls_3 : decode cX3_strolls 3 = .ok (.invokevirtual 21, 3) := by decide +kernel
theorem dX3_strolls_6 : decode cX3_strolls 6 = .ok (.aload_n 0, 1) := by decide +kernel
theorem dX3_strolls_7 : decode cX3_strolls 7 = .ok (.iload_n 1, 1) := by decide +kernel
theorem dX3_strolls_8 : decode cX3_strolls 8 = .ok (.iload_n 2, 1) := by decide +kernel
theorem dX3_strolls_9 : decode cX3_strolls 9 = .ok (.iload_n 3, 1) := by decide +kernel
theorem dX3_strolls_10 : decode cX3_strolls 10 = .ok (.invokespecial 27, 3) := by decide +kernel
theorem dX3_strolls_13 : decode cX3_strolls 13 = .ok (.iload_n 1, 1) := by decide +kernel
theorem dX3_strolls_14 : decode cX3_strolls 14 = .ok (.ixor, 1) := by decide +kernel
theorem dX3_strolls_15 : decode cX3_strolls 15 = .ok (.ireturn, 1) := by decide +kernel
def zb_X3_strolls_0 (E : zj_E) (st : List Value) (m : zj_M) : zj_R := (zi_ald 0 (zi_push (.int 51) (zi_vc 3 1 zf_X9_begin (zi_ald 0 (zi_ild 1 (zi_ild 2 (zi_ild 3 (zi_vc 3 3 zf_X9_strolls (zi_ild 1 (zi_b (fun x y => x ^^^ y) (zi_ret (some .int)))) zi_no))))) zi_no))) E st m
set_option maxRecDepth 20000 in
theorem zs_X3_strolls_0 : zj_KC cX3_strolls RX3 4 (3) (some .int) (0, fun _ => 0) 0 (zb_X3_strolls_0) := (zr_aldn dX3_strolls_0 rfl (zr_bipush dX3_strolls_1 rfl (zr_callU dX3_strolls_3 zm_X9_begin ⟨⟨zq_869, zq_67⟩, by decide +kernel, by omega, by decide⟩ rfl zq_875 zq_876 zq_868 zq_869 (by decide +kernel) zq_868 zq_877 (zr_aldn dX3_strolls_6 rfl (zr_ildn dX3_strolls_7 rfl (zr_ildn dX3_strolls_8 rfl (zr_ildn dX3_strolls_9 rfl (zr_callSUx dX3_strolls_10 zm_X9_strolls ⟨⟨zq_884, zq_67⟩, by decide +kernel, by omega, by decide⟩ rfl rfl zq_878 zq_879 zq_173 zq_149 (by decide) zq_856 (zr_ildn dX3_strolls_13 rfl (zr_ixor dX3_strolls_14 (zr_ret dX3_strolls_15))) zr_no))))) zr_no)))
def zf_X3_strolls : zj_F := zj_run 4 zb_X3_strolls_0
theorem zm_X3_strolls : zj_MS 3 yX3_strolls cX3_strolls 4 (some .int) zf_X3_strolls := zj_met (own := RX3) rfl (by decide +kernel) (Or.inr (Or.inl rfl)) (zs_X3_strolls_0)
theorem dX9_looks_0 : decode cX9_looks 0 = .ok (.aload_n 0, 1) := by decide +kernel
theorem dX9_looks_1 : decode cX9_looks 1 = .ok (.iconst 2, 1) := by decide +kernel
theorem dX9_looks_2 : decode cX9_looks 2 = .ok (.invokevirtual 13, 3) := by decide +kernel
theorem dX9_looks_5 : decode cX9_looks 5 = .ok (.aload_n 0, 1) := by decide +kernel
theorem dX9_looks_6 : decode cX9_looks 6 = .ok (.iload_n 1, 1) := by decide +kernel
theorem dX9_looks_7 : decode cX9_looks 7 = .ok (.iload_n 2, 1) := by decide +kernel
theorem dX9_looks_8 : decode cX9_looks 8 = .ok (.iload_n 3, 1) := by decide +kernel
theorem dX9_looks_9 : decode cX9_looks 9 = .ok (.invokevirtual 17, 3) := by decide +kernel
theorem dX9_looks_12 : decode cX9_looks 12 = .ok (.iload_n 2, 1) := by decide +kernel
theorem dX9_looks_13 : decode cX9_looks 13 = .ok (.isub, 1) := by decide +kernel
theorem dX9_looks_14 : decode cX9_looks 14 = .ok (.ireturn, 1) := by decide +kernel
def zb_X9_looks_12 (E : zj_E) (st : List Value) (m : zj_M) : zj_R := (zi_ild 2 (zi_b (fun x y => x - y) (zi_ret (some .int)))) E st m
set_option maxRecDepth 20000 in
theorem zs_X9_looks_12 : zj_KC cX9_looks RX9 4 (4) (some .int) (0, fun _ => 0) 12 (zb_X9_looks_12) := (zr_ildn dX9_looks_12 rfl (zr_isub dX9_looks_13 (zr_ret dX9_looks_14)))
def zb_X9_looks_5 (E : zj_E) (st : List Value) (m : zj_M) : zj_R := (zi_ald 0 (zi_ild 1 (zi_ild 2 (zi_ild 3 (zi_vc 9 3 zf_X9_strolls zb_X9_looks_12 (zi_vc 1 3 zf_X1_strolls zb_X9_looks_12 (zi_vc 6 3 zf_X1_strolls zb_X9_looks_12 (zi_vc 7 3 zf_X9_strolls zb_X9_looks_12 (zi_vc 3 3 zf_X3_strolls zb_X9_looks_12 (zi_vc 0 3 zf_X9_strolls zb_X9_looks_12 (zi_vc 8 3 zf_X9_strolls zb_X9_looks_12 zi_no))))))))))) E st m
set_option maxRecDepth 20000 in
theorem zs_X9_looks_5 : zj_KC cX9_looks RX9 4 (4) (some .int) (0, fun _ => 0) 5 (zb_X9_looks_5) := (zr_aldn dX9_looks_5 rfl (zr_ildn dX9_looks_6 rfl (zr_ildn dX9_looks_7 rfl (zr_ildn dX9_looks_8 rfl (zr_callV dX9_looks_9 zm_X9_strolls ⟨⟨zq_884, zq_67⟩, by decide +kernel, by omega, by decide⟩ rfl rfl zq_912 zq_856 zq_857 (zs_X9_looks_12) (zr_callU dX9_looks_9 zm_X1_strolls ⟨⟨zq_862, zq_68⟩, by decide +kernel, by omega, by decide⟩ rfl zq_912 zq_858 zq_856 zq_884 (by decide +kernel) zq_861 zq_860 (zs_X9_looks_12) (zr_callU dX9_looks_9 zm_X1_strolls ⟨⟨zq_862, zq_68⟩, by decide +kernel, by omega, by decide⟩ rfl zq_912 zq_858 zq_856 zq_884 (by decide +kernel) zq_861 zq_881 (zs_X9_looks_12) (zr_callU dX9_looks_9 zm_X9_strolls ⟨⟨zq_884, zq_67⟩, by decide +kernel, by omega, by decide⟩ rfl zq_912 zq_858 zq_856 zq_884 (by decide +kernel) zq_856 zq_882 (zs_X9_looks_12) (zr_callU dX9_looks_9 zm_X3_strolls ⟨⟨zq_874, zq_72⟩, by decide +kernel, by omega, by decide⟩ rfl zq_912 zq_858 zq_856 zq_884 (by decide +kernel) zq_873 zq_872 (zs_X9_looks_12) (zr_callU dX9_looks_9 zm_X9_strolls ⟨⟨zq_884, zq_67⟩, by decide +kernel, by omega, by decide⟩ rfl zq_912 zq_858 zq_856 zq_884 (by decide +kernel) zq_856 zq_859 (zs_X9_looks_12) (zr_callU dX9_looks_9 zm_X9_strolls ⟨⟨zq_884, zq_67⟩, by decide +kernel, by omega, by decide⟩ rfl zq_912 zq_858 zq_856 zq_884 (by decide +kernel) zq_856 zq_883 (zs_X9_looks_12) zr_no)))))))))))
def zb_X9_looks_0 (E : zj_E) (st : List Value) (m : zj_M) : zj_R := (zi_ald 0 (zi_push (.int 2) (zi_vc 9 1 zf_X9_begin zb_X9_looks_5 (zi_vc 1 1 zf_X9_begin zb_X9_looks_5 (zi_vc 6 1 zf_X9_begin zb_X9_looks_5 (zi_vc 7 1 zf_X9_begin zb_X9_looks_5 (zi_vc 3 1 zf_X9_begin zb_X9_looks_5 (zi_vc 0 1 zf_X9_begin zb_X9_looks_5 (zi_vc 8 1 zf_X9_begin zb_X9_looks_5 zi_no))))))))) E st m
set_option maxRecDepth 20000 in
theorem zs_X9_looks_0 : zj_KC cX9_looks RX9 4 (4) (some .int) (0, fun _ => 0) 0 (zb_X9_looks_0) := (zr_aldn dX9_looks_0 rfl (zr_iconst dX9_looks_1 rfl (zr_callV dX9_looks_2 zm_X9_begin ⟨⟨zq_869, zq_67⟩, by decide +kernel, by omega, by decide⟩ rfl rfl zq_885 zq_868 zq_1389 (zs_X9_looks_5) (zr_callU dX9_looks_2 zm_X9_begin ⟨⟨zq_869, zq_67⟩, by decide +kernel, by omega, by decide⟩ rfl zq_885 zq_1382 zq_868 zq_869 (by decide +kernel) zq_868 zq_1384 (zs_X9_looks_5) (zr_callU dX9_looks_2 zm_X9_begin ⟨⟨zq_869, zq_67⟩, by decide +kernel, by omega, by decide⟩ rfl zq_885 zq_1382 zq_868 zq_869 (by decide +kernel) zq_868 zq_1386 (zs_X9_looks_5) (zr_callU dX9_looks_2 zm_X9_begin ⟨⟨zq_869, zq_67⟩, by decide +kernel, by omega, by decide⟩ rfl zq_885 zq_1382 zq_868 zq_869 (by decide +kernel) zq_868 zq_1387 (zs_X9_looks_5) (zr_callU dX9_looks_2 zm_X9_begin ⟨⟨zq_869, zq_67⟩, by decide +kernel, by omega, by decide⟩ rfl zq_885 zq_1382 zq_868 zq_869 (by decide +kernel) zq_868 zq_1385 (zs_X9_looks_5) (zr_callU dX9_looks_2 zm_X9_begin ⟨⟨zq_869, zq_67⟩, by decide +kernel, by omega, by decide⟩ rfl zq_885 zq_1382 zq_868 zq_869 (by decide +kernel) zq_868 zq_1383 (zs_X9_looks_5) (zr_callU dX9_looks_2 zm_X9_begin ⟨⟨zq_869, zq_67⟩, by decide +kernel, by omega, by decide⟩ rfl zq_885 zq_1382 zq_868 zq_869 (by decide +kernel) zq_868 zq_1388 (zs_X9_looks_5) zr_no)))))))))
def zf_X9_looks : zj_F := zj_run 4 zb_X9_looks_0
theorem zm_X9_looks : zj_MS 4 yX9_looks cX9_looks 4 (some .int) zf_X9_looks := zj_met (own := RX9) rfl (by decide +kernel) (Or.inr (Or.inl rfl)) (zs_X9_looks_0)
theorem dX7_looks_0 : decode cX7_looks 0 = .ok (.aload_n 0, 1) := by decide +kernel
theorem dX7_looks_1 : decode cX7_looks 1 = .ok (.bipush 21, 2) := by decide +kernel
theorem dX7_looks_3 : decode cX7_looks 3 = .ok (.invokevirtual 17, 3) := by decide +kernel
theorem dX7_looks_6 : decode cX7_looks 6 = .ok (.aload_n 0, 1) := by decide +kernel
theorem dX7_looks_7 : decode cX7_looks 7 = .ok (.iload_n 1, 1) := by decide +kernel
theorem dX7_looks_8 : decode cX7_looks 8 = .ok (.iload_n 2, 1) := by decide +kernel
theorem dX7_looks_9 : decode cX7_looks 9 = .ok (.iload_n 3, 1) := by decide +kernel
theorem dX7_looks_10 : decode cX7_looks 10 = .ok (.invokespecial 23, 3) := by decide +kernel
theorem dX7_looks_13 : decode cX7_looks 13 = .ok (.ineg, 1) := by decide +kernel
theorem dX7_looks_14 : decode cX7_looks 14 = .ok (.ireturn, 1) := by decide +kernel
def zb_X7_looks_13 (E : zj_E) (st : List Value) (m : zj_M) : zj_R := (zi_u (fun x => -x) (zi_ret (some .int))) E st m
set_option maxRecDepth 20000 in
theorem zs_X7_looks_13 : zj_KC cX7_looks RX7 4 (5) (some .int) (0, fun _ => 0) 13 (zb_X7_looks_13) := (zr_ineg dX7_looks_13 (zr_ret dX7_looks_14))
def zb_X7_looks_6 (E : zj_E) (st : List Value) (m : zj_M) : zj_R := (zi_ald 0 (zi_ild 1 (zi_ild 2 (zi_ild 3 (zi_vc 7 3 zf_X9_looks zb_X7_looks_13 (zi_vc 3 3 zf_X9_looks zb_X7_looks_13 zi_no)))))) E st m
set_option maxRecDepth 20000 in
theorem zs_X7_looks_6 : zj_KC cX7_looks RX7 4 (5) (some .int) (0, fun _ => 0) 6 (zb_X7_looks_6) := (zr_aldn dX7_looks_6 rfl (zr_ildn dX7_looks_7 rfl (zr_ildn dX7_looks_8 rfl (zr_ildn dX7_looks_9 rfl (zr_callSU dX7_looks_10 zm_X9_looks ⟨⟨zq_911, zq_67⟩, by decide +kernel, by omega, by decide⟩ rfl zq_899 zq_889 zq_149 (by decide) zq_887 (zs_X7_looks_13) (zr_callSU dX7_looks_10 zm_X9_looks ⟨⟨zq_911, zq_67⟩, by decide +kernel, by omega, by decide⟩ rfl zq_899 zq_889 zq_149 (by decide) zq_887 (zs_X7_looks_13) zr_no))))))
def zb_X7_looks_0 (E : zj_E) (st : List Value) (m : zj_M) : zj_R := (zi_ald 0 (zi_push (.int 21) (zi_vc 7 1 zf_X9_begin zb_X7_looks_6 (zi_vc 3 1 zf_X9_begin zb_X7_looks_6 zi_no)))) E st m
set_option maxRecDepth 20000 in
theorem zs_X7_looks_0 : zj_KC cX7_looks RX7 4 (5) (some .int) (0, fun _ => 0) 0 (zb_X7_looks_0) := (zr_aldn dX7_looks_0 rfl (zr_bipush dX7_looks_1 rfl (zr_callU dX7_looks_3 zm_X9_begin ⟨⟨zq_869, zq_67⟩, by decide +kernel, by omega, by decide⟩ rfl zq_895 zq_896 zq_868 zq_869 (by decide +kernel) zq_868 zq_898 (zs_X7_looks_6) (zr_callU dX7_looks_3 zm_X9_begin ⟨⟨zq_869, zq_67⟩, by decide +kernel, by omega, by decide⟩ rfl zq_895 zq_896 zq_868 zq_869 (by decide +kernel) zq_868 zq_897 (zs_X7_looks_6) zr_no))))
def zf_X7_looks : zj_F := zj_run 4 zb_X7_looks_0
theorem zm_X7_looks : zj_MS 5 yX7_looks cX7_looks 4 (some .int) zf_X7_looks := zj_met (own := RX7) rfl (by decide +kernel) (Or.inr (Or.inl rfl)) (zs_X7_looks_0)
theorem dX8_looks_0 : decode cX8_looks 0 = .ok (.aload_n 0, 1) := by decide +kernel
theorem dX8_looks_1 : decode cX8_looks 1 = .ok (.bipush 61, 2) := by decide +kernel
theorem dX8_looks_3 : decode cX8_looks 3 = .ok (.invokevirtual 21, 3) := by decide +kernel
theorem dX8_looks_6 : decode cX8_looks 6 = .ok (.aload_n 0, 1) := by decide +kernel
theorem dX8_looks_7 : decode cX8_looks 7 = .ok (.iload_n 1, 1) := by decide +kernel
theorem dX8_looks_8 : decode cX8_looks 8 = .ok (.iload_n 2, 1) := by decide +kernel
theorem dX8_looks_9 : decode cX8_looks 9 = .ok (.iload_n 3, 1) := by decide +kernel
theorem dX8_looks_10 : decode cX8_looks 10 = .ok (.invokespecial 27, 3) := by decide +kernel
theorem dX8_looks_13 : decode cX8_looks 13 = .ok (.iload_n 2, 1) := by decide +kernel
theorem dX8_looks_14 : decode cX8_looks 14 = .ok (.iadd, 1) := by decide +kernel
theorem dX8_looks_15 : decode cX8_looks 15 = .ok (.ireturn, 1) := by decide +kernel
def zb_X8_looks_0 (E : zj_E) (st : List Value) (m : zj_M) : zj_R := (zi_ald 0 (zi_push (.int 61) (zi_vc 8 1 zf_X9_begin (zi_ald 0 (zi_ild 1 (zi_ild 2 (zi_ild 3 (zi_vc 8 3 zf_X9_looks (zi_ild 2 (zi_b (fun x y => x + y) (zi_ret (some .int)))) zi_no))))) zi_no))) E st m
set_option maxRecDepth 20000 in
theorem zs_X8_looks_0 : zj_KC cX8_looks RX8 4 (5) (some .int) (0, fun _ => 0) 0 (zb_X8_looks_0) := (zr_aldn dX8_looks_0 rfl (zr_bipush dX8_looks_1 rfl (zr_callU dX8_looks_3 zm_X9_begin ⟨⟨zq_869, zq_67⟩, by decide +kernel, by omega, by decide⟩ rfl zq_905 zq_906 zq_868 zq_869 (by decide +kernel) zq_868 zq_907 (zr_aldn dX8_looks_6 rfl (zr_ildn dX8_looks_7 rfl (zr_ildn dX8_looks_8 rfl (zr_ildn dX8_looks_9 rfl (zr_callSUx dX8_looks_10 zm_X9_looks ⟨⟨zq_911, zq_67⟩, by decide +kernel, by omega, by decide⟩ rfl rfl zq_908 zq_909 zq_181 zq_157 (by decide) zq_887 (zr_ildn dX8_looks_13 rfl (zr_iadd dX8_looks_14 (zr_ret dX8_looks_15))) zr_no))))) zr_no)))
def zf_X8_looks : zj_F := zj_run 4 zb_X8_looks_0
theorem zm_X8_looks : zj_MS 5 yX8_looks cX8_looks 4 (some .int) zf_X8_looks := zj_met (own := RX8) rfl (by decide +kernel) (Or.inr (Or.inl rfl)) (zs_X8_looks_0)
theorem dX9_tells_0 : decode cX9_tells 0 = .ok (.aload_n 0, 1) := by decide +kernel
theorem dX9_tells_1 : decode cX9_tells 1 = .ok (.iconst 3, 1) := by decide +kernel
theorem dX9_tells_2 : decode cX9_tells 2 = .ok (.invokevirtual 13, 3) := by decide +kernel
theorem dX9_tells_5 : decode cX9_tells 5 = .ok (.aload_n 0, 1) := by decide +kernel
theorem dX9_tells_6 : decode cX9_tells 6 = .ok (.iload_n 1, 1) := by decide +kernel
theorem dX9_tells_7 : decode cX9_tells 7 = .ok (.iload_n 2, 1) := by decide +kernel
theorem dX9_tells_8 : decode cX9_tells 8 = .ok (.iload_n 3, 1) := by decide +kernel
theorem dX9_tells_9 : decode cX9_tells 9 = .ok (.invokevirtual 21, 3) := by decide +kernel
theorem dX9_tells_12 : decode cX9_tells 12 = .ok (.iconst 2, 1) := by decide +kernel
theorem dX9_tells_13 : decode cX9_tells 13 = .ok (.imul, 1) := by decide +kernel
theorem dX9_tells_14 : decode cX9_tells 14 = .ok (.ireturn, 1) := by decide +kernel
def zb_X9_tells_12 (E : zj_E) (st : List Value) (m : zj_M) : zj_R := (zi_push (.int 2) (zi_b (fun x y => x * y) (zi_ret (some .int)))) E st m
set_option maxRecDepth 20000 in
theorem zs_X9_tells_12 : zj_KC cX9_tells RX9 4 (6) (some .int) (0, fun _ => 0) 12 (zb_X9_tells_12) := (zr_iconst dX9_tells_12 rfl (zr_imul dX9_tells_13 (zr_ret dX9_tells_14)))
def zb_X9_tells_5 (E : zj_E) (st : List Value) (m : zj_M) : zj_R := (zi_ald 0 (zi_ild 1 (zi_ild 2 (zi_ild 3 (zi_vc 9 3 zf_X9_looks zb_X9_tells_12 (zi_vc 1 3 zf_X9_looks zb_X9_tells_12 (zi_vc 6 3 zf_X9_looks zb_X9_tells_12 (zi_vc 7 3 zf_X7_looks zb_X9_tells_12 (zi_vc 3 3 zf_X7_looks zb_X9_tells_12 (zi_vc 0 3 zf_X9_looks zb_X9_tells_12 (zi_vc 8 3 zf_X8_looks zb_X9_tells_12 zi_no))))))))))) E st m
set_option maxRecDepth 20000 in
theorem zs_X9_tells_5 : zj_KC cX9_tells RX9 4 (6) (some .int) (0, fun _ => 0) 5 (zb_X9_tells_5) := (zr_aldn dX9_tells_5 rfl (zr_ildn dX9_tells_6 rfl (zr_ildn dX9_tells_7 rfl (zr_ildn dX9_tells_8 rfl (zr_callV dX9_tells_9 zm_X9_looks ⟨⟨zq_911, zq_67⟩, by decide +kernel, by omega, by decide⟩ rfl rfl zq_943 zq_887 zq_888 (zs_X9_tells_12) (zr_callU dX9_tells_9 zm_X9_looks ⟨⟨zq_911, zq_67⟩, by decide +kernel, by omega, by decide⟩ rfl zq_943 zq_889 zq_887 zq_911 (by decide +kernel) zq_887 zq_891 (zs_X9_tells_12) (zr_callU dX9_tells_9 zm_X9_looks ⟨⟨zq_911, zq_67⟩, by decide +kernel, by omega, by decide⟩ rfl zq_943 zq_889 zq_887 zq_911 (by decide +kernel) zq_887 zq_900 (zs_X9_tells_12) (zr_callU dX9_tells_9 zm_X7_looks ⟨⟨zq_894, zq_69⟩, by decide +kernel, by omega, by decide⟩ rfl zq_943 zq_889 zq_887 zq_911 (by decide +kernel) zq_893 zq_901 (zs_X9_tells_12) (zr_callU dX9_tells_9 zm_X7_looks ⟨⟨zq_894, zq_69⟩, by decide +kernel, by omega, by decide⟩ rfl zq_943 zq_889 zq_887 zq_911 (by decide +kernel) zq_893 zq_892 (zs_X9_tells_12) (zr_callU dX9_tells_9 zm_X9_looks ⟨⟨zq_911, zq_67⟩, by decide +kernel, by omega, by decide⟩ rfl zq_943 zq_889 zq_887 zq_911 (by decide +kernel) zq_887 zq_890 (zs_X9_tells_12) (zr_callU dX9_tells_9 zm_X8_looks ⟨⟨zq_904, zq_73⟩, by decide +kernel, by omega, by decide⟩ rfl zq_943 zq_889 zq_887 zq_911 (by decide +kernel) zq_903 zq_902 (zs_X9_tells_12) zr_no)))))))))))
def zb_X9_tells_0 (E : zj_E) (st : List Value) (m : zj_M) : zj_R := (zi_ald 0 (zi_push (.int 3) (zi_vc 9 1 zf_X9_begin zb_X9_tells_5 (zi_vc 1 1 zf_X9_begin zb_X9_tells_5 (zi_vc 6 1 zf_X9_begin zb_X9_tells_5 (zi_vc 7 1 zf_X9_begin zb_X9_tells_5 (zi_vc 3 1 zf_X9_begin zb_X9_tells_5 (zi_vc 0 1 zf_X9_begin zb_X9_tells_5 (zi_vc 8 1 zf_X9_begin zb_X9_tells_5 zi_no))))))))) E st m
set_option maxRecDepth 20000 in
theorem zs_X9_tells_0 : zj_KC cX9_tells RX9 4 (6) (some .int) (0, fun _ => 0) 0 (zb_X9_tells_0) := (zr_aldn dX9_tells_0 rfl (zr_iconst dX9_tells_1 rfl (zr_callV dX9_tells_2 zm_X9_begin ⟨⟨zq_869, zq_67⟩, by decide +kernel, by omega, by decide⟩ rfl rfl zq_885 zq_868 zq_1389 (zs_X9_tells_5) (zr_callU dX9_tells_2 zm_X9_begin ⟨⟨zq_869, zq_67⟩, by decide +kernel, by omega, by decide⟩ rfl zq_885 zq_1382 zq_868 zq_869 (by decide +kernel) zq_868 zq_1384 (zs_X9_tells_5) (zr_callU dX9_tells_2 zm_X9_begin ⟨⟨zq_869, zq_67⟩, by decide +kernel, by omega, by decide⟩ rfl zq_885 zq_1382 zq_868 zq_869 (by decide +kernel) zq_868 zq_1386 (zs_X9_tells_5) (zr_callU dX9_tells_2 zm_X9_begin ⟨⟨zq_869, zq_67⟩, by decide +kernel, by omega, by decide⟩ rfl zq_885 zq_1382 zq_868 zq_869 (by decide +kernel) zq_868 zq_1387 (zs_X9_tells_5) (zr_callU dX9_tells_2 zm_X9_begin ⟨⟨zq_869, zq_67⟩, by decide +kernel, by omega, by decide⟩ rfl zq_885 zq_1382 zq_868 zq_869 (by decide +kernel) zq_868 zq_1385 (zs_X9_tells_5) (zr_callU dX9_tells_2 zm_X9_begin ⟨⟨zq_869, zq_67⟩, by decide +kernel, by omega, by decide⟩ rfl zq_885 zq_1382 zq_868 zq_869 (by decide +kernel) zq_868 zq_1383 (zs_X9_tells_5) (zr_callU dX9_tells_2 zm_X9_begin ⟨⟨zq_869, zq_67⟩, by decide +kernel, by omega, by decide⟩ rfl zq_885 zq_1382 zq_868 zq_869 (by decide +kernel) zq_868 zq_1388 (zs_X9_tells_5) zr_no)))))))))
def zf_X9_tells : zj_F := zj_run 4 zb_X9_tells_0
theorem zm_X9_tells : zj_MS 6 yX9_tells cX9_tells 4 (some .int) zf_X9_tells := zj_met (own := RX9) rfl (by decide +kernel) (Or.inr (Or.inl rfl)) (zs_X9_tells_0)
theorem dX0_tells_0 : decode cX0_tells 0 = .ok (.aload_n 0, 1) := by decide +kernel
theorem dX0_tells_1 : decode cX0_tells 1 = .ok (.bipush 31, 2) := by decide +kernel
theorem dX0_tells_3 : decode cX0_tells 3 = .ok (.invokevirtual 17, 3) := by decide +kernel
theorem dX0_tells_6 : decode cX0_tells 6 = .ok (.aload_n 0, 1) := by decide +kernel
theorem dX0_tells_7 : decode cX0_tells 7 = .ok (.iload_n 1, 1) := by decide +kernel
theorem dX0_tells_8 : decode cX0_tells 8 = .ok (.iload_n 2, 1) := by decide +kernel
theorem dX0_tells_9 : decode cX0_tells 9 = .ok (.iload_n 3, 1) := by decide +kernel
theorem dX0_tells_10 : decode cX0_tells 10 = .ok (.invokespecial 23, 3) := by decide +kernel
theorem dX0_tells_13 : decode cX0_tells 13 = .ok (.bipush 7, 2) := by decide +kernel
theorem dX0_tells_15 : decode cX0_tells 15 = .ok (.ixor, 1) := by decide +kernel
theorem dX0_tells_16 : decode cX0_tells 16 = .ok (.ireturn, 1) := by decide +kernel
def zb_X0_tells_13 (E : zj_E) (st : List Value) (m : zj_M) : zj_R := (zi_push (.int 7) (zi_b (fun x y => x ^^^ y) (zi_ret (some .int)))) E st m
set_option maxRecDepth 20000 in
theorem zs_X0_tells_13 : zj_KC cX0_tells RX0 4 (7) (some .int) (0, fun _ => 0) 13 (zb_X0_tells_13) := (zr_bipush dX0_tells_13 rfl (zr_ixor dX0_tells_15 (zr_ret dX0_tells_16)))
def zb_X0_tells_6 (E : zj_E) (st : List Value) (m : zj_M) : zj_R := (zi_ald 0 (zi_ild 1 (zi_ild 2 (zi_ild 3 (zi_vc 0 3 zf_X9_tells zb_X0_tells_13 (zi_vc 8 3 zf_X9_tells zb_X0_tells_13 zi_no)))))) E st m
set_option maxRecDepth 20000 in
theorem zs_X0_tells_6 : zj_KC cX0_tells RX0 4 (7) (some .int) (0, fun _ => 0) 6 (zb_X0_tells_6) := (zr_aldn dX0_tells_6 rfl (zr_ildn dX0_tells_7 rfl (zr_ildn dX0_tells_8 rfl (zr_ildn dX0_tells_9 rfl (zr_callSU dX0_tells_10 zm_X9_tells ⟨⟨zq_942, zq_67⟩, by decide +kernel, by omega, by decide⟩ rfl zq_924 zq_916 zq_157 (by decide) zq_914 (zs_X0_tells_13) (zr_callSU dX0_tells_10 zm_X9_tells ⟨⟨zq_942, zq_67⟩, by decide +kernel, by omega, by decide⟩ rfl zq_924 zq_916 zq_157 (by decide) zq_914 (zs_X0_tells_13) zr_no))))))
def zb_X0_tells_0 (E : zj_E) (st : List Value) (m : zj_M) : zj_R := (zi_ald 0 (zi_push (.int 31) (zi_vc 0 1 zf_X9_begin zb_X0_tells_6 (zi_vc 8 1 zf_X9_begin zb_X0_tells_6 zi_no)))) E st m
set_option maxRecDepth 20000 in
theorem zs_X0_tells_0 : zj_KC cX0_tells RX0 4 (7) (some .int) (0, fun _ => 0) 0 (zb_X0_tells_0) := (zr_aldn dX0_tells_0 rfl (zr_bipush dX0_tells_1 rfl (zr_callU dX0_tells_3 zm_X9_begin ⟨⟨zq_869, zq_67⟩, by decide +kernel, by omega, by decide⟩ rfl zq_920 zq_921 zq_868 zq_869 (by decide +kernel) zq_868 zq_922 (zs_X0_tells_6) (zr_callU dX0_tells_3 zm_X9_begin ⟨⟨zq_869, zq_67⟩, by decide +kernel, by omega, by decide⟩ rfl zq_920 zq_921 zq_868 zq_869 (by decide +kernel) zq_868 zq_923 (zs_X0_tells_6) zr_no))))
def zf_X0_tells : zj_F := zj_run 4 zb_X0_tells_0
theorem zm_X0_tells : zj_MS 7 yX0_tells cX0_tells 4 (some .int) zf_X0_tells := zj_met (own := RX0) rfl (by decide +kernel) (Or.inr (Or.inl rfl)) (zs_X0_tells_0)
theorem dX4_isAway_0 : decode cX4_isAway 0 = .ok (.aload_n 0, 1) := by decide +kernel
theorem dX4_isAway_1 : decode cX4_isAway 1 = .ok (.getfield 66, 3) := by decide +kernel
theorem dX4_isAway_4 : decode cX4_isAway 4 = .ok (.iload_n 1, 1) := by decide +kernel
theorem dX4_isAway_5 : decode cX4_isAway 5 = .ok (.ishr, 1) := by decide +kernel
theorem dX4_isAway_6 : decode cX4_isAway 6 = .ok (.iconst 1, 1) := by decide +kernel
theorem dX4_isAway_7 : decode cX4_isAway 7 = .ok (.iand, 1) := by decide +kernel
theorem dX4_isAway_8 : decode cX4_isAway 8 = .ok (.ifCond .eq 7, 3) := by decide +kernel
theorem dX4_isAway_11 : decode cX4_isAway 11 = .ok (.iconst 1, 1) := by decide +kernel
theorem dX4_isAway_12 : decode cX4_isAway 12 = .ok (.goto 4, 3) := by decide +kernel
theorem dX4_isAway_15 : decode cX4_isAway 15 = .ok (.iconst 0, 1) := by decide +kernel
theorem dX4_isAway_16 : decode cX4_isAway 16 = .ok (.ireturn, 1) := by decide +kernel
def zb_X4_isAway_16 (E : zj_E) (st : List Value) (m : zj_M) : zj_R := (zi_ret (some .boolean)) E st m
set_option maxRecDepth 20000 in
theorem zs_X4_isAway_16 : zj_KC cX4_isAway RX4 2 (0) (some .boolean) (0, fun _ => 0) 16 (zb_X4_isAway_16) := (zr_ret dX4_isAway_16)
def zb_X4_isAway_0 (E : zj_E) (st : List Value) (m : zj_M) : zj_R := (zi_ald 0 (zi_gf 4 10 (zi_ild 1 (zi_b (fun x y => x >>> (y &&& 31)) (zi_push (.int 1) (zi_b (fun x y => x &&& y) (zi_eq (zi_push (.int 0) zb_X4_isAway_16) (zi_push (.int 1) zb_X4_isAway_16)))))))) E st m
set_option maxRecDepth 20000 in
theorem zs_X4_isAway_0 : zj_KC cX4_isAway RX4 2 (0) (some .boolean) (0, fun _ => 0) 0 (zb_X4_isAway_0) := (zr_aldn dX4_isAway_0 rfl (zr_gf dX4_isAway_1 zfl_X4_66_4 (zr_ildn dX4_isAway_4 rfl (zr_ishr dX4_isAway_5 (zr_iconst dX4_isAway_6 rfl (zr_iand dX4_isAway_7 (zr_ifeq dX4_isAway_8 (tgt := 15) (by decide) (zr_iconst dX4_isAway_15 rfl (zs_X4_isAway_16)) (zr_iconst dX4_isAway_11 rfl (zr_goto dX4_isAway_12 (tgt := 16) (by decide) (zs_X4_isAway_16))))))))))
def zf_X4_isAway : zj_F := zj_run 2 zb_X4_isAway_0
theorem zm_X4_isAway : zj_MS 0 yX4_isAway cX4_isAway 2 (some .boolean) zf_X4_isAway := zj_met (own := RX4) rfl (by decide +kernel) (Or.inr (Or.inr (Or.inl rfl))) (zs_X4_isAway_0)
theorem dX4_hasCompany_0 : decode cX4_hasCompany 0 = .ok (.aload_n 0, 1) := by decide +kernel
theorem dX4_hasCompany_1 : decode cX4_hasCompany 1 = .ok (.iload_n 1, 1) := by decide +kernel
theorem dX4_hasCompany_2 : decode cX4_hasCompany 2 = .ok (.invokevirtual 84, 3) := by decide +kernel
theorem dX4_hasCompany_5 : decode cX4_hasCompany 5 = .ok (.ifCond .eq 10, 3) := by decide +kernel
theorem dX4_hasCompany_8 : decode cX4_hasCompany 8 = .ok (.aload_n 0, 1) := by decide +kernel
theorem dX4_hasCompany_9 : decode cX4_hasCompany 9 = .ok (.getfield 78, 3) := by decide +kernel
theorem dX4_hasCompany_12 : decode cX4_hasCompany 12 = .ok (.goto 7, 3) := by decide +kernel
theorem dX4_hasCompany_15 : decode cX4_hasCompany 15 = .ok (.aload_n 0, 1) := by decide +kernel
theorem dX4_hasCompany_16 : decode cX4_hasCompany 16 = .ok (.getfield 81, 3) := by decide +kernel
theorem dX4_hasCompany_19 : decode cX4_hasCompany 19 = .ok (.istore_n 2, 1) := by decide +kernel
theorem dX4_hasCompany_20 : decode cX4_hasCompany 20 = .ok (.iload_n 2, 1) := by decide +kernel
theorem dX4_hasCompany_21 : decode cX4_hasCompany 21 = .ok (.aload_n 0, 1) := by decide +kernel
theorem dX4_hasCompany_22 : decode cX4_hasCompany 22 = .ok (.getfield 21, 3) := by decide +kernel
theorem dX4_hasCompany_25 : decode cX4_hasCompany 25 = .ok (.iload_n 1, 1) := by decide +kernel
theorem dX4_hasCompany_26 : decode cX4_hasCompany 26 = .ok (.iaload, 1) := by decide +kernel
theorem dX4_hasCompany_27 : decode cX4_hasCompany 27 = .ok (.ishr, 1) := by decide +kernel
theorem dX4_hasCompany_28 : decode cX4_hasCompany 28 = .ok (.iconst 1, 1) := by decide +kernel
theorem dX4_hasCompany_29 : decode cX4_hasCompany 29 = .ok (.iand, 1) := by decide +kernel
theorem dX4_hasCompany_30 : decode cX4_hasCompany 30 = .ok (.ifCond .eq 7, 3) := by decide +kernel
theorem dX4_hasCompany_33 : decode cX4_hasCompany 33 = .ok (.iconst 1, 1) := by decide +kernel
theorem dX4_hasCompany_34 : decode cX4_hasCompany 34 = .ok (.goto 4, 3) := by decide +kernel
theorem dX4_hasCompany_37 : decode cX4_hasCompany 37 = .ok (.iconst 0, 1) := by decide +kernel
theorem dX4_hasCompany_38 : decode cX4_hasCompany 38 = .ok (.ireturn, 1) := by decide +kernel
def zb_X4_hasCompany_38 (E : zj_E) (st : List Value) (m : zj_M) : zj_R := (zi_ret (some .boolean)) E st m
set_option maxRecDepth 20000 in
theorem zs_X4_hasCompany_38 : zj_KC cX4_hasCompany RX4 3 (1) (some .boolean) (0, fun _ => 0) 38 (zb_X4_hasCompany_38) := (zr_ret dX4_hasCompany_38)
def zb_X4_hasCompany_19 (E : zj_E) (st : List Value) (m : zj_M) : zj_R := (zi_ist 2 (zi_ild 2 (zi_ald 0 (zi_gf 4 3 (zi_ild 1 (zi_iald (zi_b (fun x y => x >>> (y &&& 31)) (zi_push (.int 1) (zi_b (fun x y => x &&& y) (zi_eq (zi_push (.int 0) zb_X4_hasCompany_38) (zi_push (.int 1) zb_X4_hasCompany_38))))))))))) E st m
set_option maxRecDepth 20000 in
theorem zs_X4_hasCompany_19 : zj_KC cX4_hasCompany RX4 3 (1) (some .boolean) (0, fun _ => 0) 19 (zb_X4_hasCompany_19) := (zr_istn dX4_hasCompany_19 rfl (zr_ildn dX4_hasCompany_20 rfl (zr_aldn dX4_hasCompany_21 rfl (zr_gf dX4_hasCompany_22 zfl_X4_21_4 (zr_ildn dX4_hasCompany_25 rfl (zr_iald dX4_hasCompany_26 (zr_ishr dX4_hasCompany_27 (zr_iconst dX4_hasCompany_28 rfl (zr_iand dX4_hasCompany_29 (zr_ifeq dX4_hasCompany_30 (tgt := 37) (by decide) (zr_iconst dX4_hasCompany_37 rfl (zs_X4_hasCompany_38)) (zr_iconst dX4_hasCompany_33 rfl (zr_goto dX4_hasCompany_34 (tgt := 38) (by decide) (zs_X4_hasCompany_38)))))))))))))
def zb_X4_hasCompany_0 (E : zj_E) (st : List Value) (m : zj_M) : zj_R := (zi_ald 0 (zi_ild 1 (zi_vc 4 1 zf_X4_isAway (zi_eq (zi_ald 0 (zi_gf 4 17 zb_X4_hasCompany_19)) (zi_ald 0 (zi_gf 4 16 zb_X4_hasCompany_19))) zi_no))) E st m
set_option maxRecDepth 20000 in
theorem zs_X4_hasCompany_0 : zj_KC cX4_hasCompany RX4 3 (1) (some .boolean) (0, fun _ => 0) 0 (zb_X4_hasCompany_0) := (zr_aldn dX4_hasCompany_0 rfl (zr_ildn dX4_hasCompany_1 rfl (zr_callV dX4_hasCompany_2 zm_X4_isAway ⟨⟨zq_606, zq_76⟩, by decide +kernel, by omega, by decide⟩ rfl rfl zq_603 zq_604 zq_605 (zr_ifeq dX4_hasCompany_5 (tgt := 15) (by decide) (zr_aldn dX4_hasCompany_15 rfl (zr_gf dX4_hasCompany_16 zfl_X4_81_4 (zs_X4_hasCompany_19))) (zr_aldn dX4_hasCompany_8 rfl (zr_gf dX4_hasCompany_9 zfl_X4_78_4 (zr_goto dX4_hasCompany_12 (tgt := 19) (by decide) (zs_X4_hasCompany_19))))) zr_no)))
def zf_X4_hasCompany : zj_F := zj_run 3 zb_X4_hasCompany_0
theorem zm_X4_hasCompany : zj_MS 1 yX4_hasCompany cX4_hasCompany 3 (some .boolean) zf_X4_hasCompany := zj_met (own := RX4) rfl (by decide +kernel) (Or.inr (Or.inr (Or.inl rfl))) (zs_X4_hasCompany_0)
theorem dX1_sway_0 : decode cX1_sway 0 = .ok (.aload_n 1, 1) := by decide +kernel
theorem dX1_sway_1 : decode cX1_sway 1 = .ok (.iload_n 2, 1) := by decide +kernel
theorem dX1_sway_2 : decode cX1_sway 2 = .ok (.invokevirtual 7, 3) := by decide +kernel
theorem dX1_sway_5 : decode cX1_sway 5 = .ok (.ifCond .eq 7, 3) := by decide +kernel
theorem dX1_sway_8 : decode cX1_sway 8 = .ok (.iconst 0, 1) := by decide +kernel
theorem dX1_sway_9 : decode cX1_sway 9 = .ok (.goto 10, 3) := by decide +kernel
theorem dX1_sway_12 : decode cX1_sway 12 = .ok (.aload_n 0, 1) := by decide +kernel
theorem dX1_sway_13 : decode cX1_sway 13 = .ok (.aload_n 1, 1) := by decide +kernel
theorem dX1_sway_14 : decode cX1_sway 14 = .ok (.iload_n 2, 1) := by decide +kernel
theorem dX1_sway_15 : decode cX1_sway 15 = .ok (.iload_n 3, 1) := by decide +kernel
theorem dX1_sway_16 : decode cX1_sway 16 = .ok (.invokespecial 13, 3) := by decide +kernel
theorem dX1_sway_19 : decode cX1_sway 19 = .ok (.ireturn, 1) := by decide +kernel
def zb_X1_sway_19 (E : zj_E) (st : List Value) (m : zj_M) : zj_R := (zi_ret (some .int)) E st m
set_option maxRecDepth 20000 in
theorem zs_X1_sway_19 : zj_KC cX1_sway RX1 4 (2) (some .int) (0, fun _ => 0) 19 (zb_X1_sway_19) := (zr_ret dX1_sway_19)
def zb_X1_sway_0 (E : zj_E) (st : List Value) (m : zj_M) : zj_R := (zi_ald 1 (zi_ild 2 (zi_vc 4 1 zf_X4_hasCompany (zi_eq (zi_ald 0 (zi_ald 1 (zi_ild 2 (zi_ild 3 (zi_vc 1 3 zf_X9_sway zb_X1_sway_19 (zi_vc 6 3 zf_X9_sway zb_X1_sway_19 zi_no)))))) (zi_push (.int 0) zb_X1_sway_19)) zi_no))) E st m
set_option maxRecDepth 20000 in
theorem zs_X1_sway_0 : zj_KC cX1_sway RX1 4 (2) (some .int) (0, fun _ => 0) 0 (zb_X1_sway_0) := (zr_aldn dX1_sway_0 rfl (zr_ildn dX1_sway_1 rfl (zr_callV dX1_sway_2 zm_X4_hasCompany ⟨⟨zq_618, zq_76⟩, by decide +kernel, by omega, by decide⟩ rfl rfl zq_647 zq_616 zq_617 (zr_ifeq dX1_sway_5 (tgt := 12) (by decide) (zr_aldn dX1_sway_12 rfl (zr_aldn dX1_sway_13 rfl (zr_ildn dX1_sway_14 rfl (zr_ildn dX1_sway_15 rfl (zr_callSU dX1_sway_16 zm_X9_sway ⟨⟨zq_667, zq_67⟩, by decide +kernel, by omega, by decide⟩ rfl zq_648 zq_639 zq_141 (by decide) zq_637 (zs_X1_sway_19) (zr_callSU dX1_sway_16 zm_X9_sway ⟨⟨zq_667, zq_67⟩, by decide +kernel, by omega, by decide⟩ rfl zq_648 zq_639 zq_141 (by decide) zq_637 (zs_X1_sway_19) zr_no)))))) (zr_iconst dX1_sway_8 rfl (zr_goto dX1_sway_9 (tgt := 19) (by decide) (zs_X1_sway_19)))) zr_no)))
def zf_X1_sway : zj_F := zj_run 4 zb_X1_sway_0
theorem zm_X1_sway : zj_MS 2 yX1_sway cX1_sway 4 (some .int) zf_X1_sway := zj_met (own := RX1) rfl (by decide +kernel) (Or.inr (Or.inl rfl)) (zs_X1_sway_0)
theorem dX5_copy_0 : decode cX5_copy 0 = .ok (.aload_n 0, 1) := by decide +kernel
theorem dX5_copy_1 : decode cX5_copy 1 = .ok (.iconst 0, 1) := by decide +kernel
theorem dX5_copy_2 : decode cX5_copy 2 = .ok (.aload_n 1, 1) := by decide +kernel
theorem dX5_copy_3 : decode cX5_copy 3 = .ok (.iconst 0, 1) := by decide +kernel
theorem dX5_copy_4 : decode cX5_copy 4 = .ok (.aload_n 0, 1) := by decide +kernel
theorem dX5_copy_5 : decode cX5_copy 5 = .ok (.arraylength, 1) := by decide +kernel
theorem dX5_copy_6 : decode cX5_copy 6 = .ok (.aload_n 1, 1) := by decide +kernel
theorem dX5_copy_7 : decode cX5_copy 7 = .ok (.arraylength, 1) := by decide +kernel
theorem dX5_copy_8 : decode cX5_copy 8 = .ok (.invokestatic 27, 3) := by decide +kernel
theorem dX5_copy_11 : decode cX5_copy 11 = .ok (.invokestatic 33, 3) := by decide +kernel
theorem dX5_copy_14 : decode cX5_copy 14 = .ok (.return_, 1) := by decide +kernel
def zb_X5_copy_0 (E : zj_E) (st : List Value) (m : zj_M) : zj_R := (zi_ald 0 (zi_push (.int 0) (zi_ald 1 (zi_push (.int 0) (zi_ald 0 (zi_alen (zi_ald 1 (zi_alen (zi_mmin (zi_copy (zi_ret none))))))))))) E st m
set_option maxRecDepth 20000 in
theorem zs_X5_copy_0 : zj_KC cX5_copy RX5 2 (1) none (0, fun _ => 0) 0 (zb_X5_copy_0) := (zr_aldn dX5_copy_0 rfl (zr_iconst dX5_copy_1 rfl (zr_aldn dX5_copy_2 rfl (zr_iconst dX5_copy_3 rfl (zr_aldn dX5_copy_4 rfl (zr_alen dX5_copy_5 (zr_aldn dX5_copy_6 rfl (zr_alen dX5_copy_7 (zr_mmin dX5_copy_8 zq_561 zq_509 zq_82 zq_510 (by omega) (zr_copy dX5_copy_11 zq_562 zq_564 zq_563 zq_84 (by omega) (zr_ret dX5_copy_14)))))))))))
def zf_X5_copy : zj_F := zj_run 2 zb_X5_copy_0
theorem zm_X5_copy : zj_MS 1 yX5_copy cX5_copy 2 none zf_X5_copy := zj_met (own := RX5) rfl (by decide +kernel) (Or.inl rfl) (zs_X5_copy_0)
theorem dX2_copyFrom_0 : decode cX2_copyFrom 0 = .ok (.aload_n 1, 1) := by decide +kernel
theorem dX2_copyFrom_1 : decode cX2_copyFrom 1 = .ok (.getfield 11, 3) := by decide +kernel
theorem dX2_copyFrom_4 : decode cX2_copyFrom 4 = .ok (.aload_n 0, 1) := by decide +kernel
theorem dX2_copyFrom_5 : decode cX2_copyFrom 5 = .ok (.getfield 11, 3) := by decide +kernel
theorem dX2_copyFrom_8 : decode cX2_copyFrom 8 = .ok (.invokestatic 24, 3) := by decide +kernel
theorem dX2_copyFrom_11 : decode cX2_copyFrom 11 = .ok (.aload_n 1, 1) := by decide +kernel
theorem dX2_copyFrom_12 : decode cX2_copyFrom 12 = .ok (.getfield 15, 3) := by decide +kernel
theorem dX2_copyFrom_15 : decode cX2_copyFrom 15 = .ok (.aload_n 0, 1) := by decide +kernel
theorem dX2_copyFrom_16 : decode cX2_copyFrom 16 = .ok (.getfield 15, 3) := by decide +kernel
theorem dX2_copyFrom_19 : decode cX2_copyFrom 19 = .ok (.invokestatic 24, 3) := by decide +kernel
theorem dX2_copyFrom_22 : decode cX2_copyFrom 22 = .ok (.aload_n 0, 1) := by decide +kernel
theorem dX2_copyFrom_23 : decode cX2_copyFrom 23 = .ok (.aload_n 1, 1) := by decide +kernel
theorem dX2_copyFrom_24 : decode cX2_copyFrom 24 = .ok (.getfield 30, 3) := by decide +kernel
theorem dX2_copyFrom_27 : decode cX2_copyFrom 27 = .ok (.putfield 30, 3) := by decide +kernel
theorem dX2_copyFrom_30 : decode cX2_copyFrom 30 = .ok (.aload_n 0, 1) := by decide +kernel
theorem dX2_copyFrom_31 : decode cX2_copyFrom 31 = .ok (.aload_n 1, 1) := by decide +kernel
theorem dX2_copyFrom_32 : decode cX2_copyFrom 32 = .ok (.getfield 34, 3) := by decide +kernel
theorem dX2_copyFrom_35 : decode cX2_copyFrom 35 = .ok (.putfield 34, 3) := by decide +kernel
theorem dX2_copyFrom_38 : decode cX2_copyFrom 38 = .ok (.aload_n 0, 1) := by decide +kernel
theorem dX2_copyFrom_39 : decode cX2_copyFrom 39 = .ok (.aload_n 1, 1) := by decide +kernel
theorem dX2_copyFrom_40 : decode cX2_copyFrom 40 = .ok (.getfield 37, 3) := by decide +kernel
theorem dX2_copyFrom_43 : decode cX2_copyFrom 43 = .ok (.putfield 37, 3) := by decide +kernel
theorem dX2_copyFrom_46 : decode cX2_copyFrom 46 = .ok (.return_, 1) := by decide +kernel
def zb_X2_copyFrom_0 (E : zj_E) (st : List Value) (m : zj_M) : zj_R := (zi_ald 1 (zi_gf 2 3 (zi_ald 0 (zi_gf 2 3 (zi_call 2 zf_X5_copy (zi_ald 1 (zi_gf 2 4 (zi_ald 0 (zi_gf 2 4 (zi_call 2 zf_X5_copy (zi_ald 0 (zi_ald 1 (zi_gf 2 7 (zi_pf 2 7 (zi_ald 0 (zi_ald 1 (zi_gf 2 0 (zi_pf 2 0 (zi_ald 0 (zi_ald 1 (zi_gf 2 1 (zi_pf 2 1 (zi_ret none))))))))))))))))))))))) E st m
set_option maxRecDepth 20000 in
theorem zs_X2_copyFrom_0 : zj_KC cX2_copyFrom RX2 2 (2) none (0, fun _ => 0) 0 (zb_X2_copyFrom_0) := (zr_aldn dX2_copyFrom_0 rfl (zr_gf dX2_copyFrom_1 zfl_X2_11_2 (zr_aldn dX2_copyFrom_4 rfl (zr_gf dX2_copyFrom_5 zfl_X2_11_2 (zr_callS dX2_copyFrom_8 zm_X5_copy ⟨⟨zq_560, zq_66⟩, by decide +kernel, by omega, by decide⟩ zq_558 zq_559 (zr_aldn dX2_copyFrom_11 rfl (zr_gf dX2_copyFrom_12 zfl_X2_15_2 (zr_aldn dX2_copyFrom_15 rfl (zr_gf dX2_copyFrom_16 zfl_X2_15_2 (zr_callS dX2_copyFrom_19 zm_X5_copy ⟨⟨zq_560, zq_66⟩, by decide +kernel, by omega, by decide⟩ zq_558 zq_559 (zr_aldn dX2_copyFrom_22 rfl (zr_aldn dX2_copyFrom_23 rfl (zr_gf dX2_copyFrom_24 zfl_X2_30_2 (zr_pf dX2_copyFrom_27 zfl_X2_30_2w (zr_aldn dX2_copyFrom_30 rfl (zr_aldn dX2_copyFrom_31 rfl (zr_gf dX2_copyFrom_32 zfl_X2_34_2 (zr_pf dX2_copyFrom_35 zfl_X2_34_2w (zr_aldn dX2_copyFrom_38 rfl (zr_aldn dX2_copyFrom_39 rfl (zr_gf dX2_copyFrom_40 zfl_X2_37_2 (zr_pf dX2_copyFrom_43 zfl_X2_37_2w (zr_ret dX2_copyFrom_46)))))))))))))))))))))))
def zf_X2_copyFrom : zj_F := zj_run 2 zb_X2_copyFrom_0
theorem zm_X2_copyFrom : zj_MS 2 yX2_copyFrom cX2_copyFrom 2 none zf_X2_copyFrom := zj_met (own := RX2) rfl (by decide +kernel) (Or.inl rfl) (zs_X2_copyFrom_0)
theorem dX2_next_0 : decode cX2_next 0 = .ok (.aload_n 0, 1) := by decide +kernel
theorem dX2_next_1 : decode cX2_next 1 = .ok (.dup, 1) := by decide +kernel
theorem dX2_next_2 : decode cX2_next 2 = .ok (.getfield 44, 3) := by decide +kernel
theorem dX2_next_5 : decode cX2_next 5 = .ok (.iconst 1, 1) := by decide +kernel
theorem dX2_next_6 : decode cX2_next 6 = .ok (.iadd, 1) := by decide +kernel
theorem dX2_next_7 : decode cX2_next 7 = .ok (.putfield 44, 3) := by decide +kernel
theorem dX2_next_10 : decode cX2_next 10 = .ok (.aload_n 0, 1) := by decide +kernel
theorem dX2_next_11 : decode cX2_next 11 = .ok (.aload_n 0, 1) := by decide +kernel
theorem dX2_next_12 : decode cX2_next 12 = .ok (.getfield 44, 3) := by decide +kernel
theorem dX2_next_15 : decode cX2_next 15 = .ok (.ifCond .lt 41, 3) := by decide +kernel
theorem dX2_next_18 : decode cX2_next 18 = .ok (.aload_n 0, 1) := by decide +kernel
theorem dX2_next_19 : decode cX2_next 19 = .ok (.getfield 44, 3) := by decide +kernel
theorem dX2_next_22 : decode cX2_next 22 = .ok (.aload_n 0, 1) := by decide +kernel
theorem dX2_next_23 : decode cX2_next 23 = .ok (.getfield 40, 3) := by decide +kernel
theorem dX2_next_26 : decode cX2_next 26 = .ok (.getfield 57, 3) := by decide +kernel
theorem dX2_next_29 : decode cX2_next 29 = .ok (.if_icmp .ge 27, 3) := by decide +kernel
theorem dX2_next_32 : decode cX2_next 32 = .ok (.aload_n 0, 1) := by decide +kernel
theorem dX2_next_33 : decode cX2_next 33 = .ok (.getfield 44, 3) := by decide +kernel
theorem dX2_next_36 : decode cX2_next 36 = .ok (.bipush 100, 2) := by decide +kernel
theorem dX2_next_38 : decode cX2_next 38 = .ok (.if_icmp .ge 18, 3) := by decide +kernel
theorem dX2_next_41 : decode cX2_next 41 = .ok (.aload_n 0, 1) := by decide +kernel
theorem dX2_next_42 : decode cX2_next 42 = .ok (.getfield 40, 3) := by decide +kernel
theorem dX2_next_45 : decode cX2_next 45 = .ok (.getfield 123, 3) := by decide +kernel
theorem dX2_next_48 : decode cX2_next 48 = .ok (.aload_n 0, 1) := by decide +kernel
theorem dX2_next_49 : decode cX2_next 49 = .ok (.getfield 44, 3) := by decide +kernel
theorem dX2_next_52 : decode cX2_next 52 = .ok (.iaload, 1) := by decide +kernel
theorem dX2_next_53 : decode cX2_next 53 = .ok (.goto 4, 3) := by decide +kernel
theorem dX2_next_56 : decode cX2_next 56 = .ok (.iconst (-1), 1) := by decide +kernel
theorem dX2_next_57 : decode cX2_next 57 = .ok (.putfield 62, 3) := by decide +kernel
theorem dX2_next_60 : decode cX2_next 60 = .ok (.return_, 1) := by decide +kernel
def zb_X2_next_57 (E : zj_E) (st : List Value) (m : zj_M) : zj_R := (zi_pf 2 9 (zi_ret none)) E st m
set_option maxRecDepth 20000 in
theorem zs_X2_next_57 : zj_KC cX2_next RX2 1 (0) none (0, fun _ => 0) 57 (zb_X2_next_57) := (zr_pf dX2_next_57 zfl_X2_62_2w (zr_ret dX2_next_60))
def zb_X2_next_56 (E : zj_E) (st : List Value) (m : zj_M) : zj_R := (zi_push (.int (-1)) zb_X2_next_57) E st m
set_option maxRecDepth 20000 in
theorem zs_X2_next_56 : zj_KC cX2_next RX2 1 (0) none (0, fun _ => 0) 56 (zb_X2_next_56) := (zr_iconst dX2_next_56 rfl (zs_X2_next_57))
def zb_X2_next_0 (E : zj_E) (st : List Value) (m : zj_M) : zj_R := (zi_ald 0 (zi_dup (zi_gf 2 2 (zi_push (.int 1) (zi_b (fun x y => x + y) (zi_pf 2 2 (zi_ald 0 (zi_ald 0 (zi_gf 2 2 (zi_lt zb_X2_next_56 (zi_ald 0 (zi_gf 2 2 (zi_ald 0 (zi_gf 2 8 (zi_gf 5 3 (zi_clt (zi_ald 0 (zi_gf 2 2 (zi_push (.int 100) (zi_clt (zi_ald 0 (zi_gf 2 8 (zi_gf 5 0 (zi_ald 0 (zi_gf 2 2 (zi_iald zb_X2_next_57)))))) zb_X2_next_56)))) zb_X2_next_56)))))))))))))))) E st m
set_option maxRecDepth 20000 in
theorem zs_X2_next_0 : zj_KC cX2_next RX2 1 (0) none (0, fun _ => 0) 0 (zb_X2_next_0) := (zr_aldn dX2_next_0 rfl (zr_dup dX2_next_1 (zr_gf dX2_next_2 zfl_X2_44_2 (zr_iconst dX2_next_5 rfl (zr_iadd dX2_next_6 (zr_pf dX2_next_7 zfl_X2_44_2w (zr_aldn dX2_next_10 rfl (zr_aldn dX2_next_11 rfl (zr_gf dX2_next_12 zfl_X2_44_2 (zr_iflt dX2_next_15 (tgt := 56) (by decide) (zs_X2_next_56) (zr_aldn dX2_next_18 rfl (zr_gf dX2_next_19 zfl_X2_44_2 (zr_aldn dX2_next_22 rfl (zr_gf dX2_next_23 zfl_X2_40_2 (zr_gf dX2_next_26 zfl_X2_57_5 (zr_icge dX2_next_29 (tgt := 56) (by decide) (zs_X2_next_56) (zr_aldn dX2_next_32 rfl (zr_gf dX2_next_33 zfl_X2_44_2 (zr_bipush dX2_next_36 rfl (zr_icge dX2_next_38 (tgt := 56) (by decide) (zs_X2_next_56) (zr_aldn dX2_next_41 rfl (zr_gf dX2_next_42 zfl_X2_40_2 (zr_gf dX2_next_45 zfl_X2_123_5 (zr_aldn dX2_next_48 rfl (zr_gf dX2_next_49 zfl_X2_44_2 (zr_iald dX2_next_52 (zr_goto dX2_next_53 (tgt := 57) (by decide) (zs_X2_next_57))))))))))))))))))))))))))))
def zf_X2_next : zj_F := zj_run 1 zb_X2_next_0
theorem zm_X2_next : zj_MS 0 yX2_next cX2_next 1 none zf_X2_next := zj_met (own := RX2) rfl (by decide +kernel) (Or.inl rfl) (zs_X2_next_0)
theorem dX2_write_0 : decode cX2_write 0 = .ok (.aload_n 0, 1) := by decide +kernel
theorem dX2_write_1 : decode cX2_write 1 = .ok (.getfield 30, 3) := by decide +kernel
theorem dX2_write_4 : decode cX2_write 4 = .ok (.bipush 100, 2) := by decide +kernel
theorem dX2_write_6 : decode cX2_write 6 = .ok (.if_icmp .ge 33, 3) := by decide +kernel
theorem dX2_write_9 : decode cX2_write 9 = .ok (.aload_n 0, 1) := by decide +kernel
theorem dX2_write_10 : decode cX2_write 10 = .ok (.getfield 11, 3) := by decide +kernel
theorem dX2_write_13 : decode cX2_write 13 = .ok (.aload_n 0, 1) := by decide +kernel
theorem dX2_write_14 : decode cX2_write 14 = .ok (.getfield 30, 3) := by decide +kernel
theorem dX2_write_17 : decode cX2_write 17 = .ok (.iload_n 1, 1) := by decide +kernel
theorem dX2_write_18 : decode cX2_write 18 = .ok (.iastore, 1) := by decide +kernel
theorem dX2_write_19 : decode cX2_write 19 = .ok (.aload_n 0, 1) := by decide +kernel
theorem dX2_write_20 : decode cX2_write 20 = .ok (.getfield 15, 3) := by decide +kernel
theorem dX2_write_23 : decode cX2_write 23 = .ok (.aload_n 0, 1) := by decide +kernel
theorem dX2_write_24 : decode cX2_write 24 = .ok (.getfield 30, 3) := by decide +kernel
theorem dX2_write_27 : decode cX2_write 27 = .ok (.iload_n 2, 1) := by decide +kernel
theorem dX2_write_28 : decode cX2_write 28 = .ok (.iastore, 1) := by decide +kernel
theorem dX2_write_29 : decode cX2_write 29 = .ok (.aload_n 0, 1) := by decide +kernel
theorem dX2_write_30 : decode cX2_write 30 = .ok (.dup, 1) := by decide +kernel
theorem dX2_write_31 : decode cX2_write 31 = .ok (.getfield 30, 3) := by decide +kernel
theorem dX2_write_34 : decode cX2_write 34 = .ok (.iconst 1, 1) := by decide +kernel
theorem dX2_write_35 : decode cX2_write 35 = .ok (.iadd, 1) := by decide +kernel
theorem dX2_write_36 : decode cX2_write 36 = .ok (.putfield 30, 3) := by decide +kernel
theorem dX2_write_39 : decode cX2_write 39 = .ok (.return_, 1) := by decide +kernel
def zb_X2_write_39 (E : zj_E) (st : List Value) (m : zj_M) : zj_R := (zi_ret none) E st m
set_option maxRecDepth 20000 in
theorem zs_X2_write_39 : zj_KC cX2_write RX2 3 (0) none (0, fun _ => 0) 39 (zb_X2_write_39) := (zr_ret dX2_write_39)
def zb_X2_write_0 (E : zj_E) (st : List Value) (m : zj_M) : zj_R := (zi_ald 0 (zi_gf 2 7 (zi_push (.int 100) (zi_clt (zi_ald 0 (zi_gf 2 3 (zi_ald 0 (zi_gf 2 7 (zi_ild 1 (zi_iast (zi_ald 0 (zi_gf 2 4 (zi_ald 0 (zi_gf 2 7 (zi_ild 2 (zi_iast (zi_ald 0 (zi_dup (zi_gf 2 7 (zi_push (.int 1) (zi_b (fun x y => x + y) (zi_pf 2 7 zb_X2_write_39)))))))))))))))))) zb_X2_write_39)))) E st m
set_option maxRecDepth 20000 in
theorem zs_X2_write_0 : zj_KC cX2_write RX2 3 (0) none (0, fun _ => 0) 0 (zb_X2_write_0) := (zr_aldn dX2_write_0 rfl (zr_gf dX2_write_1 zfl_X2_30_2 (zr_bipush dX2_write_4 rfl (zr_icge dX2_write_6 (tgt := 39) (by decide) (zs_X2_write_39) (zr_aldn dX2_write_9 rfl (zr_gf dX2_write_10 zfl_X2_11_2 (zr_aldn dX2_write_13 rfl (zr_gf dX2_write_14 zfl_X2_30_2 (zr_ildn dX2_write_17 rfl (zr_iast dX2_write_18 (zr_aldn dX2_write_19 rfl (zr_gf dX2_write_20 zfl_X2_15_2 (zr_aldn dX2_write_23 rfl (zr_gf dX2_write_24 zfl_X2_30_2 (zr_ildn dX2_write_27 rfl (zr_iast dX2_write_28 (zr_aldn dX2_write_29 rfl (zr_dup dX2_write_30 (zr_gf dX2_write_31 zfl_X2_30_2 (zr_iconst dX2_write_34 rfl (zr_iadd dX2_write_35 (zr_pf dX2_write_36 zfl_X2_30_2w (zs_X2_write_39)))))))))))))))))))))))
def zf_X2_write : zj_F := zj_run 3 zb_X2_write_0
theorem zm_X2_write : zj_MS 0 yX2_write cX2_write 3 none zf_X2_write := zj_met (own := RX2) rfl (by decide +kernel) (Or.inl rfl) (zs_X2_write_0)
theorem dX2_fail_0 : decode cX2_fail 0 = .ok (.aload_n 0, 1) := by decide +kernel
theorem dX2_fail_1 : decode cX2_fail 1 = .ok (.iconst 1, 1) := by decide +kernel
theorem dX2_fail_2 : decode cX2_fail 2 = .ok (.putfield 47, 3) := by decide +kernel
theorem dX2_fail_5 : decode cX2_fail 5 = .ok (.aload_n 0, 1) := by decide +kernel
theorem dX2_fail_6 : decode cX2_fail 6 = .ok (.iconst (-1), 1) := by decide +kernel
theorem dX2_fail_7 : decode cX2_fail 7 = .ok (.putfield 62, 3) := by decide +kernel
theorem dX2_fail_10 : decode cX2_fail 10 = .ok (.return_, 1) := by decide +kernel
def zb_X2_fail_0 (E : zj_E) (st : List Value) (m : zj_M) : zj_R := (zi_ald 0 (zi_push (.int 1) (zi_pz 2 10 (zi_ald 0 (zi_push (.int (-1)) (zi_pf 2 9 (zi_ret none))))))) E st m
set_option maxRecDepth 20000 in
theorem zs_X2_fail_0 : zj_KC cX2_fail RX2 1 (0) none (0, fun _ => 0) 0 (zb_X2_fail_0) := (zr_aldn dX2_fail_0 rfl (zr_iconst dX2_fail_1 rfl (zr_pz dX2_fail_2 zfl_X2_47_2w (zr_aldn dX2_fail_5 rfl (zr_iconst dX2_fail_6 rfl (zr_pf dX2_fail_7 zfl_X2_62_2w (zr_ret dX2_fail_10)))))))
def zf_X2_fail : zj_F := zj_run 1 zb_X2_fail_0
theorem zm_X2_fail : zj_MS 0 yX2_fail cX2_fail 1 none zf_X2_fail := zj_met (own := RX2) rfl (by decide +kernel) (Or.inl rfl) (zs_X2_fail_0)
theorem dX2_isDigit_0 : decode cX2_isDigit 0 = .ok (.aload_n 0, 1) := by decide +kernel
theorem dX2_isDigit_1 : decode cX2_isDigit 1 = .ok (.getfield 62, 3) := by decide +kernel
theorem dX2_isDigit_4 : decode cX2_isDigit 4 = .ok (.bipush 48, 2) := by decide +kernel
theorem dX2_isDigit_6 : decode cX2_isDigit 6 = .ok (.if_icmp .lt 16, 3) := by decide +kernel
theorem dX2_isDigit_9 : decode cX2_isDigit 9 = .ok (.aload_n 0, 1) := by decide +kernel
theorem dX2_isDigit_10 : decode cX2_isDigit 10 = .ok (.getfield 62, 3) := by decide +kernel
theorem dX2_isDigit_13 : decode cX2_isDigit 13 = .ok (.bipush 57, 2) := by decide +kernel
theorem dX2_isDigit_15 : decode cX2_isDigit 15 = .ok (.if_icmp .gt 7, 3) := by decide +kernel
theorem dX2_isDigit_18 : decode cX2_isDigit 18 = .ok (.iconst 1, 1) := by decide +kernel
theorem dX2_isDigit_19 : decode cX2_isDigit 19 = .ok (.goto 4, 3) := by decide +kernel
theorem dX2_isDigit_22 : decode cX2_isDigit 22 = .ok (.iconst 0, 1) := by decide +kernel
theorem dX2_isDigit_23 : decode cX2_isDigit 23 = .ok (.ireturn, 1) := by decide +kernel
def zb_X2_isDigit_23 (E : zj_E) (st : List Value) (m : zj_M) : zj_R := (zi_ret (some .boolean)) E st m
set_option maxRecDepth 20000 in
theorem zs_X2_isDigit_23 : zj_KC cX2_isDigit RX2 1 (0) (some .boolean) (0, fun _ => 0) 23 (zb_X2_isDigit_23) := (zr_ret dX2_isDigit_23)
def zb_X2_isDigit_22 (E : zj_E) (st : List Value) (m : zj_M) : zj_R := (zi_push (.int 0) zb_X2_isDigit_23) E st m
set_option maxRecDepth 20000 in
theorem zs_X2_isDigit_22 : zj_KC cX2_isDigit RX2 1 (0) (some .boolean) (0, fun _ => 0) 22 (zb_X2_isDigit_22) := (zr_iconst dX2_isDigit_22 rfl (zs_X2_isDigit_23))
def zb_X2_isDigit_0 (E : zj_E) (st : List Value) (m : zj_M) : zj_R := (zi_ald 0 (zi_gf 2 9 (zi_push (.int 48) (zi_clt zb_X2_isDigit_22 (zi_ald 0 (zi_gf 2 9 (zi_push (.int 57) (zi_cle (zi_push (.int 1) zb_X2_isDigit_23) zb_X2_isDigit_22)))))))) E st m
set_option maxRecDepth 20000 in
theorem zs_X2_isDigit_0 : zj_KC cX2_isDigit RX2 1 (0) (some .boolean) (0, fun _ => 0) 0 (zb_X2_isDigit_0) := (zr_aldn dX2_isDigit_0 rfl (zr_gf dX2_isDigit_1 zfl_X2_62_2 (zr_bipush dX2_isDigit_4 rfl (zr_iclt dX2_isDigit_6 (tgt := 22) (by decide) (zs_X2_isDigit_22) (zr_aldn dX2_isDigit_9 rfl (zr_gf dX2_isDigit_10 zfl_X2_62_2 (zr_bipush dX2_isDigit_13 rfl (zr_icgt dX2_isDigit_15 (tgt := 22) (by decide) (zs_X2_isDigit_22) (zr_iconst dX2_isDigit_18 rfl (zr_goto dX2_isDigit_19 (tgt := 23) (by decide) (zs_X2_isDigit_23)))))))))))
def zf_X2_isDigit : zj_F := zj_run 1 zb_X2_isDigit_0
theorem zm_X2_isDigit : zj_MS 0 yX2_isDigit cX2_isDigit 1 (some .boolean) zf_X2_isDigit := zj_met (own := RX2) rfl (by decide +kernel) (Or.inr (Or.inr (Or.inl rfl))) (zs_X2_isDigit_0)
theorem dX2_readNumber_0 : decode cX2_readNumber 0 = .ok (.aload_n 0, 1) := by decide +kernel
theorem dX2_readNumber_1 : decode cX2_readNumber 1 = .ok (.invokevirtual 111, 3) := by decide +kernel
theorem dX2_readNumber_4 : decode cX2_readNumber 4 = .ok (.ifCond .ne 9, 3) := by decide +kernel
theorem dX2_readNumber_7 : decode cX2_readNumber 7 = .ok (.aload_n 0, 1) := by decide +kernel
theorem dX2_readNumber_8 : decode cX2_readNumber 8 = .ok (.invokevirtual 108, 3) := by decide +kernel
theorem dX2_readNumber_11 : decode cX2_readNumber 11 = .ok (.iconst 0, 1) := by decide +kernel
theorem dX2_readNumber_12 : decode cX2_readNumber 12 = .ok (.ireturn, 1) := by decide +kernel
theorem dX2_readNumber_13 : decode cX2_readNumber 13 = .ok (.aload_n 0, 1) := by decide +kernel
theorem dX2_readNumber_14 : decode cX2_readNumber 14 = .ok (.getfield 62, 3) := by decide +kernel
theorem dX2_readNumber_17 : decode cX2_readNumber 17 = .ok (.bipush 48, 2) := by decide +kernel
theorem dX2_readNumber_19 : decode cX2_readNumber 19 = .ok (.isub, 1) := by decide +kernel
theorem dX2_readNumber_20 : decode cX2_readNumber 20 = .ok (.istore_n 1, 1) := by decide +kernel
theorem dX2_readNumber_21 : decode cX2_readNumber 21 = .ok (.aload_n 0, 1) := by decide +kernel
theorem dX2_readNumber_22 : decode cX2_readNumber 22 = .ok (.invokevirtual 51, 3) := by decide +kernel
theorem dX2_readNumber_25 : decode cX2_readNumber 25 = .ok (.iload_n 1, 1) := by decide +kernel
theorem dX2_readNumber_26 : decode cX2_readNumber 26 = .ok (.ifCond .le 27, 3) := by decide +kernel
theorem dX2_readNumber_29 : decode cX2_readNumber 29 = .ok (.aload_n 0, 1) := by decide +kernel
theorem dX2_readNumber_30 : decode cX2_readNumber 30 = .ok (.invokevirtual 111, 3) := by decide +kernel
theorem dX2_readNumber_33 : decode cX2_readNumber 33 = .ok (.ifCond .eq 20, 3) := by decide +kernel
theorem dX2_readNumber_36 : decode cX2_readNumber 36 = .ok (.iload_n 1, 1) := by decide +kernel
theorem dX2_readNumber_37 : decode cX2_readNumber 37 = .ok (.bipush 10, 2) := by decide +kernel
theorem dX2_readNumber_39 : decode cX2_readNumber 39 = .ok (.imul, 1) := by decide +kernel
theorem dX2_readNumber_40 : decode cX2_readNumber 40 = .ok (.aload_n 0, 1) := by decide +kernel
theorem dX2_readNumber_41 : decode cX2_readNumber 41 = .ok (.getfield 62, 3) := by decide +kernel
theorem dX2_readNumber_44 : decode cX2_readNumber 44 = .ok (.iadd, 1) := by decide +kernel
theorem dX2_readNumber_45 : decode cX2_readNumber 45 = .ok (.bipush 48, 2) := by decide +kernel
theorem dX2_readNumber_47 : decode cX2_readNumber 47 = .ok (.isub, 1) := by decide +kernel
theorem dX2_readNumber_48 : decode cX2_readNumber 48 = .ok (.istore_n 1, 1) := by decide +kernel
theorem dX2_readNumber_49 : decode cX2_readNumber 49 = .ok (.aload_n 0, 1) := by decide +kernel
theorem dX2_readNumber_50 : decode cX2_readNumber 50 = .ok (.invokevirtual 51, 3) := by decide +kernel
theorem dX2_readNumber_53 : decode cX2_readNumber 53 = .ok (.iload_n 1, 1) := by decide +kernel
theorem dX2_readNumber_54 : decode cX2_readNumber 54 = .ok (.ireturn, 1) := by decide +kernel
def zb_X2_readNumber_53 (E : zj_E) (st : List Value) (m : zj_M) : zj_R := (zi_ild 1 (zi_ret (some .int))) E st m
set_option maxRecDepth 20000 in
theorem zs_X2_readNumber_53 : zj_KC cX2_readNumber RX2 2 (1) (some .int) (0, fun _ => 0) 53 (zb_X2_readNumber_53) := (zr_ildn dX2_readNumber_53 rfl (zr_ret dX2_readNumber_54))
def zb_X2_readNumber_0 (E : zj_E) (st : List Value) (m : zj_M) : zj_R := (zi_ald 0 (zi_vc 2 0 zf_X2_isDigit (zi_eq (zi_ald 0 (zi_vc 2 0 zf_X2_fail (zi_push (.int 0) (zi_ret (some .int))) zi_no)) (zi_ald 0 (zi_gf 2 9 (zi_push (.int 48) (zi_b (fun x y => x - y) (zi_ist 1 (zi_ald 0 (zi_vc 2 0 zf_X2_next (zi_ild 1 (zi_le zb_X2_readNumber_53 (zi_ald 0 (zi_vc 2 0 zf_X2_isDigit (zi_eq zb_X2_readNumber_53 (zi_ild 1 (zi_push (.int 10) (zi_b (fun x y => x * y) (zi_ald 0 (zi_gf 2 9 (zi_b (fun x y => x + y) (zi_push (.int 48) (zi_b (fun x y => x - y) (zi_ist 1 (zi_ald 0 (zi_vc 2 0 zf_X2_next zb_X2_readNumber_53 zi_no)))))))))))) zi_no)))) zi_no)))))))) zi_no)) E st m
set_option maxRecDepth 20000 in
theorem zs_X2_readNumber_0 : zj_KC cX2_readNumber RX2 2 (1) (some .int) (0, fun _ => 0) 0 (zb_X2_readNumber_0) := (zr_aldn dX2_readNumber_0 rfl (zr_callV dX2_readNumber_1 zm_X2_isDigit ⟨⟨zq_462, zq_74⟩, by decide +kernel, by omega, by decide⟩ rfl rfl zq_459 zq_461 zq_6 (zr_ifne dX2_readNumber_4 (tgt := 13) (by decide) (zr_aldn dX2_readNumber_13 rfl (zr_gf dX2_readNumber_14 zfl_X2_62_2 (zr_bipush dX2_readNumber_17 rfl (zr_isub dX2_readNumber_19 (zr_istn dX2_readNumber_20 rfl (zr_aldn dX2_readNumber_21 rfl (zr_callV dX2_readNumber_22 zm_X2_next ⟨⟨zq_389, zq_74⟩, by decide +kernel, by omega, by decide⟩ rfl rfl zq_386 zq_388 zq_0 (zr_ildn dX2_readNumber_25 rfl (zr_ifle dX2_readNumber_26 (tgt := 53) (by decide) (zs_X2_readNumber_53) (zr_aldn dX2_readNumber_29 rfl (zr_callV dX2_readNumber_30 zm_X2_isDigit ⟨⟨zq_462, zq_74⟩, by decide +kernel, by omega, by decide⟩ rfl rfl zq_459 zq_461 zq_6 (zr_ifeq dX2_readNumber_33 (tgt := 53) (by decide) (zs_X2_readNumber_53) (zr_ildn dX2_readNumber_36 rfl (zr_bipush dX2_readNumber_37 rfl (zr_imul dX2_readNumber_39 (zr_aldn dX2_readNumber_40 rfl (zr_gf dX2_readNumber_41 zfl_X2_62_2 (zr_iadd dX2_readNumber_44 (zr_bipush dX2_readNumber_45 rfl (zr_isub dX2_readNumber_47 (zr_istn dX2_readNumber_48 rfl (zr_aldn dX2_readNumber_49 rfl (zr_callV dX2_readNumber_50 zm_X2_next ⟨⟨zq_389, zq_74⟩, by decide +kernel, by omega, by decide⟩ rfl rfl zq_386 zq_388 zq_0 (zs_X2_readNumber_53) zr_no)))))))))))) zr_no)))) zr_no))))))) (zr_aldn dX2_readNumber_7 rfl (zr_callV dX2_readNumber_8 zm_X2_fail ⟨⟨zq_454, zq_74⟩, by decide +kernel, by omega, by decide⟩ rfl rfl zq_451 zq_453 zq_4 (zr_iconst dX2_readNumber_11 rfl (zr_ret dX2_readNumber_12)) zr_no))) zr_no))
def zf_X2_readNumber : zj_F := zj_run 2 zb_X2_readNumber_0
theorem zm_X2_readNumber : zj_MS 1 yX2_readNumber cX2_readNumber 2 (some .int) zf_X2_readNumber := zj_met (own := RX2) rfl (by decide +kernel) (Or.inr (Or.inl rfl)) (zs_X2_readNumber_0)
theorem dX2_takeOneOf_0 : decode cX2_takeOneOf 0 = .ok (.aload_n 0, 1) := by decide +kernel
theorem dX2_takeOneOf_1 : decode cX2_takeOneOf 1 = .ok (.getfield 62, 3) := by decide +kernel
theorem dX2_takeOneOf_4 : decode cX2_takeOneOf 4 = .ok (.ifCond .ge 7, 3) := by decide +kernel
theorem dX2_takeOneOf_7 : decode cX2_takeOneOf 7 = .ok (.iconst (-1), 1) := by decide +kernel
theorem dX2_takeOneOf_8 : decode cX2_takeOneOf 8 = .ok (.goto 12, 3) := by decide +kernel
theorem dX2_takeOneOf_11 : decode cX2_takeOneOf 11 = .ok (.aload_n 1, 1) := by decide +kernel
theorem dX2_takeOneOf_12 : decode cX2_takeOneOf 12 = .ok (.aload_n 0, 1) := by decide +kernel
theorem dX2_takeOneOf_13 : decode cX2_takeOneOf 13 = .ok (.getfield 62, 3) := by decide +kernel
theorem dX2_takeOneOf_16 : decode cX2_takeOneOf 16 = .ok (.i2c, 1) := by decide +kernel
theorem dX2_takeOneOf_17 : decode cX2_takeOneOf 17 = .ok (.invokevirtual 115, 3) := by decide +kernel
theorem dX2_takeOneOf_20 : decode cX2_takeOneOf 20 = .ok (.istore_n 2, 1) := by decide +kernel
theorem dX2_takeOneOf_21 : decode cX2_takeOneOf 21 = .ok (.iload_n 2, 1) := by decide +kernel
theorem dX2_takeOneOf_22 : decode cX2_takeOneOf 22 = .ok (.ifCond .ge 9, 3) := by decide +kernel
theorem dX2_takeOneOf_25 : decode cX2_takeOneOf 25 = .ok (.aload_n 0, 1) := by decide +kernel
theorem dX2_takeOneOf_26 : decode cX2_takeOneOf 26 = .ok (.invokevirtual 108, 3) := by decide +kernel
theorem dX2_takeOneOf_29 : decode cX2_takeOneOf 29 = .ok (.iconst 0, 1) := by decide +kernel
theorem dX2_takeOneOf_30 : decode cX2_takeOneOf 30 = .ok (.ireturn, 1) := by decide +kernel
theorem dX2_takeOneOf_31 : decode cX2_takeOneOf 31 = .ok (.aload_n 0, 1) := by decide +kernel
theorem dX2_takeOneOf_32 : decode cX2_takeOneOf 32 = .ok (.invokevirtual 51, 3) := by decide +kernel
theorem dX2_takeOneOf_35 : decode cX2_takeOneOf 35 = .ok (.iload_n 2, 1) := by decide +kernel
theorem dX2_takeOneOf_36 : decode cX2_takeOneOf 36 = .ok (.ireturn, 1) := by decide +kernel
def zb_X2_takeOneOf_20 (E : zj_E) (st : List Value) (m : zj_M) : zj_R := (zi_ist 2 (zi_ild 2 (zi_lt (zi_ald 0 (zi_vc 2 0 zf_X2_fail (zi_push (.int 0) (zi_ret (some .int))) zi_no)) (zi_ald 0 (zi_vc 2 0 zf_X2_next (zi_ild 2 (zi_ret (some .int))) zi_no))))) E st m
set_option maxRecDepth 20000 in
theorem zs_X2_takeOneOf_20 : zj_KC cX2_takeOneOf RX2 3 (13) (some .int) (0, fun _ => 0) 20 (zb_X2_takeOneOf_20) := (zr_istn dX2_takeOneOf_20 rfl (zr_ildn dX2_takeOneOf_21 rfl (zr_ifge dX2_takeOneOf_22 (tgt := 31) (by decide) (zr_aldn dX2_takeOneOf_31 rfl (zr_callV dX2_takeOneOf_32 zm_X2_next ⟨⟨zq_389, zq_74⟩, by decide +kernel, by omega, by decide⟩ rfl rfl zq_386 zq_388 zq_0 (zr_ildn dX2_takeOneOf_35 rfl (zr_ret dX2_takeOneOf_36)) zr_no)) (zr_aldn dX2_takeOneOf_25 rfl (zr_callV dX2_takeOneOf_26 zm_X2_fail ⟨⟨zq_454, zq_74⟩, by decide +kernel, by omega, by decide⟩ rfl rfl zq_451 zq_453 zq_4 (zr_iconst dX2_takeOneOf_29 rfl (zr_ret dX2_takeOneOf_30)) zr_no)))))
def zb_X2_takeOneOf_0 (E : zj_E) (st : List Value) (m : zj_M) : zj_R := (zi_ald 0 (zi_gf 2 9 (zi_lt (zi_push (.int (-1)) zb_X2_takeOneOf_20) (zi_ald 1 (zi_ald 0 (zi_gf 2 9 (zi_u (fun x => (x.toUInt32 % 65536).toInt32) (zi_sc 1 zf_J0_indexOf_0f7a4 zb_X2_takeOneOf_20)))))))) E st m
set_option maxRecDepth 20000 in
theorem zs_X2_takeOneOf_0 : zj_KC cX2_takeOneOf RX2 3 (13) (some .int) (0, fun _ => 0) 0 (zb_X2_takeOneOf_0) := (zr_aldn dX2_takeOneOf_0 rfl (zr_gf dX2_takeOneOf_1 zfl_X2_62_2 (zr_ifge dX2_takeOneOf_4 (tgt := 11) (by decide) (zr_aldn dX2_takeOneOf_11 rfl (zr_aldn dX2_takeOneOf_12 rfl (zr_gf dX2_takeOneOf_13 zfl_X2_62_2 (zr_i2c dX2_takeOneOf_16 (zr_sc dX2_takeOneOf_17 zm_J0_indexOf_0f7a4 ⟨⟨zq_493, zq_78⟩, by decide +kernel, by omega, by decide⟩ rfl zq_490 zq_491 zq_492 (zs_X2_takeOneOf_20)))))) (zr_iconst dX2_takeOneOf_7 rfl (zr_goto dX2_takeOneOf_8 (tgt := 20) (by decide) (zs_X2_takeOneOf_20))))))
def zf_X2_takeOneOf : zj_F := zj_run 3 zb_X2_takeOneOf_0
theorem zm_X2_takeOneOf : zj_MS 13 yX2_takeOneOf cX2_takeOneOf 3 (some .int) zf_X2_takeOneOf := zj_met (own := RX2) rfl (by decide +kernel) (Or.inr (Or.inl rfl)) (zs_X2_takeOneOf_0)
theorem dX2_readEither_0 : decode cX2_readEither 0 = .ok (.aload_n 0, 1) := by decide +kernel
theorem dX2_readEither_1 : decode cX2_readEither 1 = .ok (.iload_n 1, 1) := by decide +kernel
theorem dX2_readEither_2 : decode cX2_readEither 2 = .ok (.invokevirtual 86, 3) := by decide +kernel
theorem dX2_readEither_5 : decode cX2_readEither 5 = .ok (.iconst 0, 1) := by decide +kernel
theorem dX2_readEither_6 : decode cX2_readEither 6 = .ok (.istore_n 2, 1) := by decide +kernel
theorem dX2_readEither_7 : decode cX2_readEither 7 = .ok (.iload_n 2, 1) := by decide +kernel
theorem dX2_readEither_8 : decode cX2_readEither 8 = .ok (.bipush 100, 2) := by decide +kernel
theorem dX2_readEither_10 : decode cX2_readEither 10 = .ok (.if_icmp .ge 34, 3) := by decide +kernel
theorem dX2_readEither_13 : decode cX2_readEither 13 = .ok (.aload_n 0, 1) := by decide +kernel
theorem dX2_readEither_14 : decode cX2_readEither 14 = .ok (.getfield 62, 3) := by decide +kernel
theorem dX2_readEither_17 : decode cX2_readEither 17 = .ok (.bipush 124, 2) := by decide +kernel
theorem dX2_readEither_19 : decode cX2_readEither 19 = .ok (.if_icmp .ne 25, 3) := by decide +kernel
theorem dX2_readEither_22 : decode cX2_readEither 22 = .ok (.aload_n 0, 1) := by decide +kernel
theorem dX2_readEither_23 : decode cX2_readEither 23 = .ok (.invokevirtual 51, 3) := by decide +kernel
theorem dX2_readEither_26 : decode cX2_readEither 26 = .ok (.aload_n 0, 1) := by decide +kernel
theorem dX2_readEither_27 : decode cX2_readEither 27 = .ok (.iload_n 1, 1) := by decide +kernel
theorem dX2_readEither_28 : decode cX2_readEither 28 = .ok (.invokevirtual 86, 3) := by decide +kernel
theorem dX2_readEither_31 : decode cX2_readEither 31 = .ok (.aload_n 0, 1) := by decide +kernel
theorem dX2_readEither_32 : decode cX2_readEither 32 = .ok (.bipush 19, 2) := by decide +kernel
theorem dX2_readEither_34 : decode cX2_readEither 34 = .ok (.iconst 0, 1) := by decide +kernel
theorem dX2_readEither_35 : decode cX2_readEither 35 = .ok (.invokevirtual 82, 3) := by decide +kernel
theorem dX2_readEither_38 : decode cX2_readEither 38 = .ok (.iinc 2 1, 3) := by decide +kernel
theorem dX2_readEither_41 : decode cX2_readEither 41 = .ok (.goto (-34), 3) := by decide +kernel
theorem dX2_readEither_44 : decode cX2_readEither 44 = .ok (.return_, 1) := by decide +kernel
def zb_X2_readEither_44 (F : Nat → zj_F) (E : zj_E) (st : List Value) (m : zj_M) : zj_R := (zi_ret none) E st m
set_option maxRecDepth 20000 in
theorem zs_X2_readEither_44 {F : Nat → zj_F} {dn : Nat} (hF0 : zj_MS (14 + dn) yX2_readEither cX2_readEither 3 none (F 0)) (hF1 : zj_MS (14 + dn) yX2_readBoth cX2_readBoth 3 none (F 1)) (hF2 : zj_MS (14 + dn) yX2_readPart cX2_readPart 4 none (F 2)) (hF3 : zj_MS (14 + dn) yX2_readOpen cX2_readOpen 2 none (F 3)) : zj_KC cX2_readEither RX2 3 (14 + (dn + 1)) none (0, fun _ => 0) 44 (zb_X2_readEither_44 F) := (zr_ret dX2_readEither_44)
def zb_X2_readEither_7 (F : Nat → zj_F) (r7 : zj_K) (E : zj_E) (st : List Value) (m : zj_M) : zj_R := (zi_ild 2 (zi_push (.int 100) (zi_clt (zi_ald 0 (zi_gf 2 9 (zi_push (.int 124) (zi_ceq (zi_ald 0 (zi_vc 2 0 zf_X2_next (zi_ald 0 (zi_ild 1 (zi_vc 2 1 (F 1) (zi_ald 0 (zi_push (.int 19) (zi_push (.int 0) (zi_vc 2 2 zf_X2_write (zi_inc 2 1 r7) zi_no)))) zi_no))) zi_no)) (zb_X2_readEither_44 F))))) (zb_X2_readEither_44 F)))) E st m
set_option maxRecDepth 20000 in
theorem zs_X2_readEither_7 {F : Nat → zj_F} {dn : Nat} (hF0 : zj_MS (14 + dn) yX2_readEither cX2_readEither 3 none (F 0)) (hF1 : zj_MS (14 + dn) yX2_readBoth cX2_readBoth 3 none (F 1)) (hF2 : zj_MS (14 + dn) yX2_readPart cX2_readPart 4 none (F 2)) (hF3 : zj_MS (14 + dn) yX2_readOpen cX2_readOpen 2 none (F 3)) {r7 : zj_K} (h7 : zj_KC cX2_readEither RX2 3 (14 + (dn + 1)) none (0, fun _ => 0) 7 r7) : zj_KC cX2_readEither RX2 3 (14 + (dn + 1)) none (0, fun _ => 0) 7 (zb_X2_readEither_7 F r7) := (zr_ildn dX2_readEither_7 rfl (zr_bipush dX2_readEither_8 rfl (zr_icge dX2_readEither_10 (tgt := 44) (by decide) (zs_X2_readEither_44 hF0 hF1 hF2 hF3) (zr_aldn dX2_readEither_13 rfl (zr_gf dX2_readEither_14 zfl_X2_62_2 (zr_bipush dX2_readEither_17 rfl (zr_icne dX2_readEither_19 (tgt := 44) (by decide) (zs_X2_readEither_44 hF0 hF1 hF2 hF3) (zr_aldn dX2_readEither_22 rfl (zr_callV dX2_readEither_23 zm_X2_next ⟨⟨zq_389, zq_74⟩, by decide +kernel, by omega, by decide⟩ rfl rfl zq_386 zq_388 zq_0 (zr_aldn dX2_readEither_26 rfl (zr_ildn dX2_readEither_27 rfl (zr_callV dX2_readEither_28 hF1 ⟨⟨zq_472, zq_74⟩, by decide +kernel, by omega, by decide⟩ rfl rfl zq_469 zq_471 zq_8 (zr_aldn dX2_readEither_31 rfl (zr_bipush dX2_readEither_32 rfl (zr_iconst dX2_readEither_34 rfl (zr_callV dX2_readEither_35 zm_X2_write ⟨⟨zq_484, zq_74⟩, by decide +kernel, by omega, by decide⟩ rfl rfl zq_481 zq_483 zq_11 (zr_inc dX2_readEither_38 rfl (zr_goto dX2_readEither_41 (tgt := 7) (by decide) h7)) zr_no)))) zr_no))) zr_no)))))))))
def zb_X2_readEither_0 (F : Nat → zj_F) (E : zj_E) (st : List Value) (m : zj_M) : zj_R := (zi_ald 0 (zi_ild 1 (zi_vc 2 1 (F 1) (zi_push (.int 0) (zi_ist 2 (zj_lp (zb_X2_readEither_7 F) zj_fu))) zi_no))) E st m
set_option maxRecDepth 20000 in
theorem zs_X2_readEither_0 {F : Nat → zj_F} {dn : Nat} (hF0 : zj_MS (14 + dn) yX2_readEither cX2_readEither 3 none (F 0)) (hF1 : zj_MS (14 + dn) yX2_readBoth cX2_readBoth 3 none (F 1)) (hF2 : zj_MS (14 + dn) yX2_readPart cX2_readPart 4 none (F 2)) (hF3 : zj_MS (14 + dn) yX2_readOpen cX2_readOpen 2 none (F 3)) : zj_KC cX2_readEither RX2 3 (14 + (dn + 1)) none (0, fun _ => 0) 0 (zb_X2_readEither_0 F) := (zr_aldn dX2_readEither_0 rfl (zr_ildn dX2_readEither_1 rfl (zr_callV dX2_readEither_2 hF1 ⟨⟨zq_472, zq_74⟩, by decide +kernel, by omega, by decide⟩ rfl rfl zq_469 zq_471 zq_8 (zr_iconst dX2_readEither_5 rfl (zr_istn dX2_readEither_6 rfl (zr_lp (fun _ h => zs_X2_readEither_7 hF0 hF1 hF2 hF3 h) zj_fu))) zr_no)))
theorem dX2_readBoth_0 : decode cX2_readBoth 0 = .ok (.aload_n 0, 1) := by decide +kernel
theorem dX2_readBoth_1 : decode cX2_readBoth 1 = .ok (.iload_n 1, 1) := by decide +kernel
theorem dX2_readBoth_2 : decode cX2_readBoth 2 = .ok (.invokevirtual 89, 3) := by decide +kernel
theorem dX2_readBoth_5 : decode cX2_readBoth 5 = .ok (.iconst 0, 1) := by decide +kernel
theorem dX2_readBoth_6 : decode cX2_readBoth 6 = .ok (.istore_n 2, 1) := by decide +kernel
theorem dX2_readBoth_7 : decode cX2_readBoth 7 = .ok (.iload_n 2, 1) := by decide +kernel
theorem dX2_readBoth_8 : decode cX2_readBoth 8 = .ok (.bipush 100, 2) := by decide +kernel
theorem dX2_readBoth_10 : decode cX2_readBoth 10 = .ok (.if_icmp .ge 34, 3) := by decide +kernel
theorem dX2_readBoth_13 : decode cX2_readBoth 13 = .ok (.aload_n 0, 1) := by decide +kernel
theorem dX2_readBoth_14 : decode cX2_readBoth 14 = .ok (.getfield 62, 3) := by decide +kernel
theorem dX2_readBoth_17 : decode cX2_readBoth 17 = .ok (.bipush 38, 2) := by decide +kernel
theorem dX2_readBoth_19 : decode cX2_readBoth 19 = .ok (.if_icmp .ne 25, 3) := by decide +kernel
theorem dX2_readBoth_22 : decode cX2_readBoth 22 = .ok (.aload_n 0, 1) := by decide +kernel
theorem dX2_readBoth_23 : decode cX2_readBoth 23 = .ok (.invokevirtual 51, 3) := by decide +kernel
theorem dX2_readBoth_26 : decode cX2_readBoth 26 = .ok (.aload_n 0, 1) := by decide +kernel
theorem dX2_readBoth_27 : decode cX2_readBoth 27 = .ok (.iload_n 1, 1) := by decide +kernel
theorem dX2_readBoth_28 : decode cX2_readBoth 28 = .ok (.invokevirtual 89, 3) := by decide +kernel
theorem dX2_readBoth_31 : decode cX2_readBoth 31 = .ok (.aload_n 0, 1) := by decide +kernel
theorem dX2_readBoth_32 : decode cX2_readBoth 32 = .ok (.bipush 18, 2) := by decide +kernel
theorem dX2_readBoth_34 : decode cX2_readBoth 34 = .ok (.iconst 0, 1) := by decide +kernel
theorem dX2_readBoth_35 : decode cX2_readBoth 35 = .ok (.invokevirtual 82, 3) := by decide +kernel
theorem dX2_readBoth_38 : decode cX2_readBoth 38 = .ok (.iinc 2 1, 3) := by decide +kernel
theorem dX2_readBoth_41 : decode cX2_readBoth 41 = .ok (.goto (-34), 3) := by decide +kernel
theorem dX2_readBoth_44 : decode cX2_readBoth 44 = .ok (.return_, 1) := by decide +kernel
def zb_X2_readBoth_44 (F : Nat → zj_F) (E : zj_E) (st : List Value) (m : zj_M) : zj_R := (zi_ret none) E st m
set_option maxRecDepth 20000 in
theorem zs_X2_readBoth_44 {F : Nat → zj_F} {dn : Nat} (hF0 : zj_MS (14 + dn) yX2_readEither cX2_readEither 3 none (F 0)) (hF1 : zj_MS (14 + dn) yX2_readBoth cX2_readBoth 3 none (F 1)) (hF2 : zj_MS (14 + dn) yX2_readPart cX2_readPart 4 none (F 2)) (hF3 : zj_MS (14 + dn) yX2_readOpen cX2_readOpen 2 none (F 3)) : zj_KC cX2_readBoth RX2 3 (14 + (dn + 1)) none (0, fun _ => 0) 44 (zb_X2_readBoth_44 F) := (zr_ret dX2_readBoth_44)
def zb_X2_readBoth_7 (F : Nat → zj_F) (r7 : zj_K) (E : zj_E) (st : List Value) (m : zj_M) : zj_R := (zi_ild 2 (zi_push (.int 100) (zi_clt (zi_ald 0 (zi_gf 2 9 (zi_push (.int 38) (zi_ceq (zi_ald 0 (zi_vc 2 0 zf_X2_next (zi_ald 0 (zi_ild 1 (zi_vc 2 1 (F 2) (zi_ald 0 (zi_push (.int 18) (zi_push (.int 0) (zi_vc 2 2 zf_X2_write (zi_inc 2 1 r7) zi_no)))) zi_no))) zi_no)) (zb_X2_readBoth_44 F))))) (zb_X2_readBoth_44 F)))) E st m
set_option maxRecDepth 20000 in
theorem zs_X2_readBoth_7 {F : Nat → zj_F} {dn : Nat} (hF0 : zj_MS (14 + dn) yX2_readEither cX2_readEither 3 none (F 0)) (hF1 : zj_MS (14 + dn) yX2_readBoth cX2_readBoth 3 none (F 1)) (hF2 : zj_MS (14 + dn) yX2_readPart cX2_readPart 4 none (F 2)) (hF3 : zj_MS (14 + dn) yX2_readOpen cX2_readOpen 2 none (F 3)) {r7 : zj_K} (h7 : zj_KC cX2_readBoth RX2 3 (14 + (dn + 1)) none (0, fun _ => 0) 7 r7) : zj_KC cX2_readBoth RX2 3 (14 + (dn + 1)) none (0, fun _ => 0) 7 (zb_X2_readBoth_7 F r7) := (zr_ildn dX2_readBoth_7 rfl (zr_bipush dX2_readBoth_8 rfl (zr_icge dX2_readBoth_10 (tgt := 44) (by decide) (zs_X2_readBoth_44 hF0 hF1 hF2 hF3) (zr_aldn dX2_readBoth_13 rfl (zr_gf dX2_readBoth_14 zfl_X2_62_2 (zr_bipush dX2_readBoth_17 rfl (zr_icne dX2_readBoth_19 (tgt := 44) (by decide) (zs_X2_readBoth_44 hF0 hF1 hF2 hF3) (zr_aldn dX2_readBoth_22 rfl (zr_callV dX2_readBoth_23 zm_X2_next ⟨⟨zq_389, zq_74⟩, by decide +kernel, by omega, by decide⟩ rfl rfl zq_386 zq_388 zq_0 (zr_aldn dX2_readBoth_26 rfl (zr_ildn dX2_readBoth_27 rfl (zr_callV dX2_readBoth_28 hF2 ⟨⟨zq_476, zq_74⟩, by decide +kernel, by omega, by decide⟩ rfl rfl zq_473 zq_475 zq_9 (zr_aldn dX2_readBoth_31 rfl (zr_bipush dX2_readBoth_32 rfl (zr_iconst dX2_readBoth_34 rfl (zr_callV dX2_readBoth_35 zm_X2_write ⟨⟨zq_484, zq_74⟩, by decide +kernel, by omega, by decide⟩ rfl rfl zq_481 zq_483 zq_11 (zr_inc dX2_readBoth_38 rfl (zr_goto dX2_readBoth_41 (tgt := 7) (by decide) h7)) zr_no)))) zr_no))) zr_no)))))))))
def zb_X2_readBoth_0 (F : Nat → zj_F) (E : zj_E) (st : List Value) (m : zj_M) : zj_R := (zi_ald 0 (zi_ild 1 (zi_vc 2 1 (F 2) (zi_push (.int 0) (zi_ist 2 (zj_lp (zb_X2_readBoth_7 F) zj_fu))) zi_no))) E st m
set_option maxRecDepth 20000 in
theorem zs_X2_readBoth_0 {F : Nat → zj_F} {dn : Nat} (hF0 : zj_MS (14 + dn) yX2_readEither cX2_readEither 3 none (F 0)) (hF1 : zj_MS (14 + dn) yX2_readBoth cX2_readBoth 3 none (F 1)) (hF2 : zj_MS (14 + dn) yX2_readPart cX2_readPart 4 none (F 2)) (hF3 : zj_MS (14 + dn) yX2_readOpen cX2_readOpen 2 none (F 3)) : zj_KC cX2_readBoth RX2 3 (14 + (dn + 1)) none (0, fun _ => 0) 0 (zb_X2_readBoth_0 F) := (zr_aldn dX2_readBoth_0 rfl (zr_ildn dX2_readBoth_1 rfl (zr_callV dX2_readBoth_2 hF2 ⟨⟨zq_476, zq_74⟩, by decide +kernel, by omega, by decide⟩ rfl rfl zq_473 zq_475 zq_9 (zr_iconst dX2_readBoth_5 rfl (zr_istn dX2_readBoth_6 rfl (zr_lp (fun _ h => zs_X2_readBoth_7 hF0 hF1 hF2 hF3 h) zj_fu))) zr_no)))
theorem dX2_readPart_0 : decode cX2_readPart 0 = .ok (.aload_n 0, 1) := by decide +kernel
theorem dX2_readPart_1 : decode cX2_readPart 1 = .ok (.getfield 62, 3) := by decide +kernel
theorem dX2_readPart_4 : decode cX2_readPart 4 = .ok (.bipush 33, 2) := by decide +kernel
theorem dX2_readPart_6 : decode cX2_readPart 6 = .ok (.if_icmp .eq 12, 3) := by decide +kernel
theorem dX2_readPart_9 : decode cX2_readPart 9 = .ok (.aload_n 0, 1) := by decide +kernel
theorem dX2_readPart_10 : decode cX2_readPart 10 = .ok (.getfield 62, 3) := by decide +kernel
theorem dX2_readPart_13 : decode cX2_readPart 13 = .ok (.bipush 40, 2) := by decide +kernel
theorem dX2_readPart_15 : decode cX2_readPart 15 = .ok (.if_icmp .ne 9, 3) := by decide +kernel
theorem dX2_readPart_18 : decode cX2_readPart 18 = .ok (.aload_n 0, 1) := by decide +kernel
theorem dX2_readPart_19 : decode cX2_readPart 19 = .ok (.iload_n 1, 1) := by decide +kernel
theorem dX2_readPart_20 : decode cX2_readPart 20 = .ok (.invokevirtual 92, 3) := by decide +kernel
theorem dX2_readPart_23 : decode cX2_readPart 23 = .ok (.return_, 1) := by decide +kernel
theorem dX2_readPart_24 : decode cX2_readPart 24 = .ok (.aload_n 0, 1) := by decide +kernel
theorem dX2_readPart_25 : decode cX2_readPart 25 = .ok (.ldc 95, 2) := by decide +kernel
theorem dX2_readPart_27 : decode cX2_readPart 27 = .ok (.invokevirtual 97, 3) := by decide +kernel
theorem dX2_readPart_30 : decode cX2_readPart 30 = .ok (.istore_n 2, 1) := by decide +kernel
theorem dX2_readPart_31 : decode cX2_readPart 31 = .ok (.aload_n 0, 1) := by decide +kernel
theorem dX2_readPart_32 : decode cX2_readPart 32 = .ok (.ldc 101, 2) := by decide +kernel
theorem dX2_readPart_34 : decode cX2_readPart 34 = .ok (.invokevirtual 97, 3) := by decide +kernel
theorem dX2_readPart_37 : decode cX2_readPart 37 = .ok (.istore_n 3, 1) := by decide +kernel
theorem dX2_readPart_38 : decode cX2_readPart 38 = .ok (.aload_n 0, 1) := by decide +kernel
theorem dX2_readPart_39 : decode cX2_readPart 39 = .ok (.iload_n 2, 1) := by decide +kernel
theorem dX2_readPart_40 : decode cX2_readPart 40 = .ok (.ldc 101, 2) := by decide +kernel
theorem dX2_readPart_42 : decode cX2_readPart 42 = .ok (.invokevirtual 103, 3) := by decide +kernel
theorem dX2_readPart_45 : decode cX2_readPart 45 = .ok (.imul, 1) := by decide +kernel
theorem dX2_readPart_46 : decode cX2_readPart 46 = .ok (.iload_n 3, 1) := by decide +kernel
theorem dX2_readPart_47 : decode cX2_readPart 47 = .ok (.iadd, 1) := by decide +kernel
theorem dX2_readPart_48 : decode cX2_readPart 48 = .ok (.aload_n 0, 1) := by decide +kernel
theorem dX2_readPart_49 : decode cX2_readPart 49 = .ok (.invokevirtual 71, 3) := by decide +kernel
theorem dX2_readPart_52 : decode cX2_readPart 52 = .ok (.invokevirtual 82, 3) := by decide +kernel
theorem dX2_readPart_55 : decode cX2_readPart 55 = .ok (.return_, 1) := by decide +kernel
def zb_X2_readPart_18 (F : Nat → zj_F) (E : zj_E) (st : List Value) (m : zj_M) : zj_R := (zi_ald 0 (zi_ild 1 (zi_vc 2 1 (F 3) (zi_ret none) zi_no))) E st m
set_option maxRecDepth 20000 in
theorem zs_X2_readPart_18 {F : Nat → zj_F} {dn : Nat} (hF0 : zj_MS (14 + dn) yX2_readEither cX2_readEither 3 none (F 0)) (hF1 : zj_MS (14 + dn) yX2_readBoth cX2_readBoth 3 none (F 1)) (hF2 : zj_MS (14 + dn) yX2_readPart cX2_readPart 4 none (F 2)) (hF3 : zj_MS (14 + dn) yX2_readOpen cX2_readOpen 2 none (F 3)) : zj_KC cX2_readPart RX2 4 (14 + (dn + 1)) none (0, fun _ => 0) 18 (zb_X2_readPart_18 F) := (zr_aldn dX2_readPart_18 rfl (zr_ildn dX2_readPart_19 rfl (zr_callV dX2_readPart_20 hF3 ⟨⟨zq_480, zq_74⟩, by decide +kernel, by omega, by decide⟩ rfl rfl zq_477 zq_479 zq_10 (zr_ret dX2_readPart_23) zr_no)))
def zb_X2_readPart_0 (F : Nat → zj_F) (E : zj_E) (st : List Value) (m : zj_M) : zj_R := (zi_ald 0 (zi_gf 2 9 (zi_push (.int 33) (zi_ceq (zb_X2_readPart_18 F) (zi_ald 0 (zi_gf 2 9 (zi_push (.int 40) (zi_ceq (zb_X2_readPart_18 F) (zi_ald 0 (zi_push (.ref (1000 + 3)) (zi_vc 2 1 zf_X2_takeOneOf (zi_ist 2 (zi_ald 0 (zi_push (.ref (1000 + 4)) (zi_vc 2 1 zf_X2_takeOneOf (zi_ist 3 (zi_ald 0 (zi_ild 2 (zi_push (.ref (1000 + 4)) (zi_sc 0 zf_J0_length_8abf5 (zi_b (fun x y => x * y) (zi_ild 3 (zi_b (fun x y => x + y) (zi_ald 0 (zi_vc 2 0 zf_X2_readNumber (zi_vc 2 2 zf_X2_write (zi_ret none) zi_no) zi_no)))))))))) zi_no)))) zi_no))))))))))) E st m
set_option maxRecDepth 20000 in
theorem zs_X2_readPart_0 {F : Nat → zj_F} {dn : Nat} (hF0 : zj_MS (14 + dn) yX2_readEither cX2_readEither 3 none (F 0)) (hF1 : zj_MS (14 + dn) yX2_readBoth cX2_readBoth 3 none (F 1)) (hF2 : zj_MS (14 + dn) yX2_readPart cX2_readPart 4 none (F 2)) (hF3 : zj_MS (14 + dn) yX2_readOpen cX2_readOpen 2 none (F 3)) : zj_KC cX2_readPart RX2 4 (14 + (dn + 1)) none (0, fun _ => 0) 0 (zb_X2_readPart_0 F) := (zr_aldn dX2_readPart_0 rfl (zr_gf dX2_readPart_1 zfl_X2_62_2 (zr_bipush dX2_readPart_4 rfl (zr_iceq dX2_readPart_6 (tgt := 18) (by decide) (zs_X2_readPart_18 hF0 hF1 hF2 hF3) (zr_aldn dX2_readPart_9 rfl (zr_gf dX2_readPart_10 zfl_X2_62_2 (zr_bipush dX2_readPart_13 rfl (zr_icne dX2_readPart_15 (tgt := 24) (by decide) (zr_aldn dX2_readPart_24 rfl (zr_ldcS (tx := "pkvcms") dX2_readPart_25 (by decide +kernel) (zr_callV dX2_readPart_27 zm_X2_takeOneOf ⟨⟨zq_489, zq_74⟩, by decide +kernel, by omega, by decide⟩ rfl rfl zq_486 zq_488 zq_12 (zr_istn dX2_readPart_30 rfl (zr_aldn dX2_readPart_31 rfl (zr_ldcS (tx := "<=>") dX2_readPart_32 (by decide +kernel) (zr_callV dX2_readPart_34 zm_X2_takeOneOf ⟨⟨zq_489, zq_74⟩, by decide +kernel, by omega, by decide⟩ rfl rfl zq_486 zq_488 zq_12 (zr_istn dX2_readPart_37 rfl (zr_aldn dX2_readPart_38 rfl (zr_ildn dX2_readPart_39 rfl (zr_ldcS (tx := "<=>") dX2_readPart_40 (by decide +kernel) (zr_sc dX2_readPart_42 zm_J0_length_8abf5 ⟨⟨zq_402, zq_78⟩, by decide +kernel, by omega, by decide⟩ rfl zq_399 zq_400 zq_401 (zr_imul dX2_readPart_45 (zr_ildn dX2_readPart_46 rfl (zr_iadd dX2_readPart_47 (zr_aldn dX2_readPart_48 rfl (zr_callV dX2_readPart_49 zm_X2_readNumber ⟨⟨zq_458, zq_74⟩, by decide +kernel, by omega, by decide⟩ rfl rfl zq_455 zq_457 zq_5 (zr_callV dX2_readPart_52 zm_X2_write ⟨⟨zq_484, zq_74⟩, by decide +kernel, by omega, by decide⟩ rfl rfl zq_481 zq_483 zq_11 (zr_ret dX2_readPart_55) zr_no) zr_no)))))))))) zr_no)))) zr_no))) (zs_X2_readPart_18 hF0 hF1 hF2 hF3)))))))))
theorem dX2_readOpen_0 : decode cX2_readOpen 0 = .ok (.iload_n 1, 1) := by decide +kernel
theorem dX2_readOpen_1 : decode cX2_readOpen 1 = .ok (.iconst 5, 1) := by decide +kernel
theorem dX2_readOpen_2 : decode cX2_readOpen 2 = .ok (.if_icmp .lt 10, 3) := by decide +kernel
theorem dX2_readOpen_5 : decode cX2_readOpen 5 = .ok (.aload_n 0, 1) := by decide +kernel
theorem dX2_readOpen_6 : decode cX2_readOpen 6 = .ok (.invokevirtual 108, 3) := by decide +kernel
theorem dX2_readOpen_9 : decode cX2_readOpen 9 = .ok (.goto 64, 3) := by decide +kernel
theorem dX2_readOpen_12 : decode cX2_readOpen 12 = .ok (.aload_n 0, 1) := by decide +kernel
theorem dX2_readOpen_13 : decode cX2_readOpen 13 = .ok (.getfield 62, 3) := by decide +kernel
theorem dX2_readOpen_16 : decode cX2_readOpen 16 = .ok (.bipush 33, 2) := by decide +kernel
theorem dX2_readOpen_18 : decode cX2_readOpen 18 = .ok (.if_icmp .ne 24, 3) := by decide +kernel
theorem dX2_readOpen_21 : decode cX2_readOpen 21 = .ok (.aload_n 0, 1) := by decide +kernel
theorem dX2_readOpen_22 : decode cX2_readOpen 22 = .ok (.invokevirtual 51, 3) := by decide +kernel
theorem dX2_readOpen_25 : decode cX2_readOpen 25 = .ok (.aload_n 0, 1) := by decide +kernel
theorem dX2_readOpen_26 : decode cX2_readOpen 26 = .ok (.iload_n 1, 1) := by decide +kernel
theorem dX2_readOpen_27 : decode cX2_readOpen 27 = .ok (.iconst 1, 1) := by decide +kernel
theorem dX2_readOpen_28 : decode cX2_readOpen 28 = .ok (.iadd, 1) := by decide +kernel
theorem dX2_readOpen_29 : decode cX2_readOpen 29 = .ok (.invokevirtual 89, 3) := by decide +kernel
theorem dX2_readOpen_32 : decode cX2_readOpen 32 = .ok (.aload_n 0, 1) := by decide +kernel
theorem dX2_readOpen_33 : decode cX2_readOpen 33 = .ok (.bipush 20, 2) := by decide +kernel
theorem dX2_readOpen_35 : decode cX2_readOpen 35 = .ok (.iconst 0, 1) := by decide +kernel
theorem dX2_readOpen_36 : decode cX2_readOpen 36 = .ok (.invokevirtual 82, 3) := by decide +kernel
theorem dX2_readOpen_39 : decode cX2_readOpen 39 = .ok (.goto 34, 3) := by decide +kernel
theorem dX2_readOpen_42 : decode cX2_readOpen 42 = .ok (.aload_n 0, 1) := by decide +kernel
theorem dX2_readOpen_43 : decode cX2_readOpen 43 = .ok (.invokevirtual 51, 3) := by decide +kernel
theorem dX2_readOpen_46 : decode cX2_readOpen 46 = .ok (.aload_n 0, 1) := by decide +kernel
theorem dX2_readOpen_47 : decode cX2_readOpen 47 = .ok (.iload_n 1, 1) := by decide +kernel
theorem dX2_readOpen_48 : decode cX2_readOpen 48 = .ok (.iconst 1, 1) := by decide +kernel
theorem dX2_readOpen_49 : decode cX2_readOpen 49 = .ok (.iadd, 1) := by decide +kernel
theorem dX2_readOpen_50 : decode cX2_readOpen 50 = .ok (.invokevirtual 79, 3) := by decide +kernel
theorem dX2_readOpen_53 : decode cX2_readOpen 53 = .ok (.aload_n 0, 1) := by decide +kernel
theorem dX2_readOpen_54 : decode cX2_readOpen 54 = .ok (.getfield 62, 3) := by decide +kernel
theorem dX2_readOpen_57 : decode cX2_readOpen 57 = .ok (.bipush 41, 2) := by decide +kernel
theorem dX2_readOpen_59 : decode cX2_readOpen 59 = .ok (.if_icmp .ne 10, 3) := by decide +kernel
theorem dX2_readOpen_62 : decode cX2_readOpen 62 = .ok (.aload_n 0, 1) := by decide +kernel
theorem dX2_readOpen_63 : decode cX2_readOpen 63 = .ok (.invokevirtual 51, 3) := by decide +kernel
theorem dX2_readOpen_66 : decode cX2_readOpen 66 = .ok (.goto 7, 3) := by decide +kernel
theorem dX2_readOpen_69 : decode cX2_readOpen 69 = .ok (.aload_n 0, 1) := by decide +kernel
theorem dX2_readOpen_70 : decode cX2_readOpen 70 = .ok (.invokevirtual 108, 3) := by decide +kernel
theorem dX2_readOpen_73 : decode cX2_readOpen 73 = .ok (.return_, 1) := by decide +kernel
def zb_X2_readOpen_73 (F : Nat → zj_F) (E : zj_E) (st : List Value) (m : zj_M) : zj_R := (zi_ret none) E st m
set_option maxRecDepth 20000 in
theorem zs_X2_readOpen_73 {F : Nat → zj_F} {dn : Nat} (hF0 : zj_MS (14 + dn) yX2_readEither cX2_readEither 3 none (F 0)) (hF1 : zj_MS (14 + dn) yX2_readBoth cX2_readBoth 3 none (F 1)) (hF2 : zj_MS (14 + dn) yX2_readPart cX2_readPart 4 none (F 2)) (hF3 : zj_MS (14 + dn) yX2_readOpen cX2_readOpen 2 none (F 3)) : zj_KC cX2_readOpen RX2 2 (14 + (dn + 1)) none (0, fun _ => 0) 73 (zb_X2_readOpen_73 F) := (zr_ret dX2_readOpen_73)
def zb_X2_readOpen_0 (F : Nat → zj_F) (E : zj_E) (st : List Value) (m : zj_M) : zj_R := (zi_ild 1 (zi_push (.int 5) (zi_clt (zi_ald 0 (zi_gf 2 9 (zi_push (.int 33) (zi_ceq (zi_ald 0 (zi_vc 2 0 zf_X2_next (zi_ald 0 (zi_ild 1 (zi_push (.int 1) (zi_b (fun x y => x + y) (zi_vc 2 1 (F 2) (zi_ald 0 (zi_push (.int 20) (zi_push (.int 0) (zi_vc 2 2 zf_X2_write (zb_X2_readOpen_73 F) zi_no)))) zi_no))))) zi_no)) (zi_ald 0 (zi_vc 2 0 zf_X2_next (zi_ald 0 (zi_ild 1 (zi_push (.int 1) (zi_b (fun x y => x + y) (zi_vc 2 1 (F 0) (zi_ald 0 (zi_gf 2 9 (zi_push (.int 41) (zi_ceq (zi_ald 0 (zi_vc 2 0 zf_X2_next (zb_X2_readOpen_73 F) zi_no)) (zi_ald 0 (zi_vc 2 0 zf_X2_fail (zb_X2_readOpen_73 F) zi_no)))))) zi_no))))) zi_no)))))) (zi_ald 0 (zi_vc 2 0 zf_X2_fail (zb_X2_readOpen_73 F) zi_no))))) E st m
set_option maxRecDepth 20000 in
theorem zs_X2_readOpen_0 {F : Nat → zj_F} {dn : Nat} (hF0 : zj_MS (14 + dn) yX2_readEither cX2_readEither 3 none (F 0)) (hF1 : zj_MS (14 + dn) yX2_readBoth cX2_readBoth 3 none (F 1)) (hF2 : zj_MS (14 + dn) yX2_readPart cX2_readPart 4 none (F 2)) (hF3 : zj_MS (14 + dn) yX2_readOpen cX2_readOpen 2 none (F 3)) : zj_KC cX2_readOpen RX2 2 (14 + (dn + 1)) none (0, fun _ => 0) 0 (zb_X2_readOpen_0 F) := (zr_ildn dX2_readOpen_0 rfl (zr_iconst dX2_readOpen_1 rfl (zr_iclt dX2_readOpen_2 (tgt := 12) (by decide) (zr_aldn dX2_readOpen_12 rfl (zr_gf dX2_readOpen_13 zfl_X2_62_2 (zr_bipush dX2_readOpen_16 rfl (zr_icne dX2_readOpen_18 (tgt := 42) (by decide) (zr_aldn dX2_readOpen_42 rfl (zr_callV dX2_readOpen_43 zm_X2_next ⟨⟨zq_389, zq_74⟩, by decide +kernel, by omega, by decide⟩ rfl rfl zq_386 zq_388 zq_0 (zr_aldn dX2_readOpen_46 rfl (zr_ildn dX2_readOpen_47 rfl (zr_iconst dX2_readOpen_48 rfl (zr_iadd dX2_readOpen_49 (zr_callV dX2_readOpen_50 hF0 ⟨⟨zq_468, zq_74⟩, by decide +kernel, by omega, by decide⟩ rfl rfl zq_465 zq_467 zq_7 (zr_aldn dX2_readOpen_53 rfl (zr_gf dX2_readOpen_54 zfl_X2_62_2 (zr_bipush dX2_readOpen_57 rfl (zr_icne dX2_readOpen_59 (tgt := 69) (by decide) (zr_aldn dX2_readOpen_69 rfl (zr_callV dX2_readOpen_70 zm_X2_fail ⟨⟨zq_454, zq_74⟩, by decide +kernel, by omega, by decide⟩ rfl rfl zq_451 zq_453 zq_4 (zs_X2_readOpen_73 hF0 hF1 hF2 hF3) zr_no)) (zr_aldn dX2_readOpen_62 rfl (zr_callV dX2_readOpen_63 zm_X2_next ⟨⟨zq_389, zq_74⟩, by decide +kernel, by omega, by decide⟩ rfl rfl zq_386 zq_388 zq_0 (zr_goto dX2_readOpen_66 (tgt := 73) (by decide) (zs_X2_readOpen_73 hF0 hF1 hF2 hF3)) zr_no)))))) zr_no))))) zr_no)) (zr_aldn dX2_readOpen_21 rfl (zr_callV dX2_readOpen_22 zm_X2_next ⟨⟨zq_389, zq_74⟩, by decide +kernel, by omega, by decide⟩ rfl rfl zq_386 zq_388 zq_0 (zr_aldn dX2_readOpen_25 rfl (zr_ildn dX2_readOpen_26 rfl (zr_iconst dX2_readOpen_27 rfl (zr_iadd dX2_readOpen_28 (zr_callV dX2_readOpen_29 hF2 ⟨⟨zq_476, zq_74⟩, by decide +kernel, by omega, by decide⟩ rfl rfl zq_473 zq_475 zq_9 (zr_aldn dX2_readOpen_32 rfl (zr_bipush dX2_readOpen_33 rfl (zr_iconst dX2_readOpen_35 rfl (zr_callV dX2_readOpen_36 zm_X2_write ⟨⟨zq_484, zq_74⟩, by decide +kernel, by omega, by decide⟩ rfl rfl zq_481 zq_483 zq_11 (zr_goto dX2_readOpen_39 (tgt := 73) (by decide) (zs_X2_readOpen_73 hF0 hF1 hF2 hF3)) zr_no)))) zr_no))))) zr_no)))))) (zr_aldn dX2_readOpen_5 rfl (zr_callV dX2_readOpen_6 zm_X2_fail ⟨⟨zq_454, zq_74⟩, by decide +kernel, by omega, by decide⟩ rfl rfl zq_451 zq_453 zq_4 (zr_goto dX2_readOpen_9 (tgt := 73) (by decide) (zs_X2_readOpen_73 hF0 hF1 hF2 hF3)) zr_no)))))
def zg_X2_readEither : (Nat → zj_F) → Nat → zj_F := fun F i => if i = 0 then zj_run 3 (zb_X2_readEither_0 F) else if i = 1 then zj_run 3 (zb_X2_readBoth_0 F) else if i = 2 then zj_run 4 (zb_X2_readPart_0 F) else if i = 3 then zj_run 2 (zb_X2_readOpen_0 F) else fun _ _ => none
theorem zg_X2_readEither_ms : ∀ dn : Nat, zj_MS (14 + dn) yX2_readEither cX2_readEither 3 none (zj_rec zg_X2_readEither dn 0) ∧ zj_MS (14 + dn) yX2_readBoth cX2_readBoth 3 none (zj_rec zg_X2_readEither dn 1) ∧ zj_MS (14 + dn) yX2_readPart cX2_readPart 4 none (zj_rec zg_X2_readEither dn 2) ∧ zj_MS (14 + dn) yX2_readOpen cX2_readOpen 2 none (zj_rec zg_X2_readEither dn 3)
  | 0 => ⟨(fun _ _ _ _ _ _ h => by cases h), (fun _ _ _ _ _ _ h => by cases h), (fun _ _ _ _ _ _ h => by cases h), (fun _ _ _ _ _ _ h => by cases h)⟩
  | dn + 1 => by
    obtain ⟨hF0, hF1, hF2, hF3⟩ := zg_X2_readEither_ms dn
    exact ⟨zj_met (own := RX2) rfl (by decide +kernel) (Or.inl rfl) (zs_X2_readEither_0 hF0 hF1 hF2 hF3), zj_met (own := RX2) rfl (by decide +kernel) (Or.inl rfl) (zs_X2_readBoth_0 hF0 hF1 hF2 hF3), zj_met (own := RX2) rfl (by decide +kernel) (Or.inl rfl) (zs_X2_readPart_0 hF0 hF1 hF2 hF3), zj_met (own := RX2) rfl (by decide +kernel) (Or.inl rfl) (zs_X2_readOpen_0 hF0 hF1 hF2 hF3)⟩
def zf_X2_readEither : zj_F := zj_rec zg_X2_readEither 40 0
theorem zm_X2_readEither : zj_MS 54 yX2_readEither cX2_readEither 3 none zf_X2_readEither := (zg_X2_readEither_ms 40).1
def zf_X2_readBoth : zj_F := zj_rec zg_X2_readEither 40 1
theorem zm_X2_readBoth : zj_MS 54 yX2_readBoth cX2_readBoth 3 none zf_X2_readBoth := (zg_X2_readEither_ms 40).2.1
def zf_X2_readPart : zj_F := zj_rec zg_X2_readEither 40 2
theorem zm_X2_readPart : zj_MS 54 yX2_readPart cX2_readPart 4 none zf_X2_readPart := (zg_X2_readEither_ms 40).2.2.1
def zf_X2_readOpen : zj_F := zj_rec zg_X2_readEither 40 3
theorem zm_X2_readOpen : zj_MS 54 yX2_readOpen cX2_readOpen 2 none zf_X2_readOpen := (zg_X2_readEither_ms 40).2.2.2
