theorem dX4_isRaining_0 : decode cX4_isRaining 0 = .ok (.aload_n 0, 1) := by decide +kernel
theorem dX4_isRaining_1 : decode cX4_isRaining 1 = .ok (.getfield 39, 3) := by decide +kernel
theorem dX4_isRaining_4 : decode cX4_isRaining 4 = .ok (.getfield 73, 3) := by decide +kernel
theorem dX4_isRaining_7 : decode cX4_isRaining 7 = .ok (.ifCond .le 22, 3) := by decide +kernel
theorem dX4_isRaining_10 : decode cX4_isRaining 10 = .ok (.aload_n 0, 1) := by decide +kernel
theorem dX4_isRaining_11 : decode cX4_isRaining 11 = .ok (.getfield 60, 3) := by decide +kernel
theorem dX4_isRaining_14 : decode cX4_isRaining 14 = .ok (.aload_n 0, 1) := by decide +kernel
theorem dX4_isRaining_15 : decode cX4_isRaining 15 = .ok (.getfield 39, 3) := by decide +kernel
theorem dX4_isRaining_18 : decode cX4_isRaining 18 = .ok (.getfield 73, 3) := by decide +kernel
theorem dX4_isRaining_21 : decode cX4_isRaining 21 = .ok (.irem, 1) := by decide +kernel
theorem dX4_isRaining_22 : decode cX4_isRaining 22 = .ok (.ifCond .ne 7, 3) := by decide +kernel
theorem dX4_isRaining_25 : decode cX4_isRaining 25 = .ok (.iconst 1, 1) := by decide +kernel
theorem dX4_isRaining_26 : decode cX4_isRaining 26 = .ok (.goto 4, 3) := by decide +kernel
theorem dX4_isRaining_29 : decode cX4_isRaining 29 = .ok (.iconst 0, 1) := by decide +kernel
theorem dX4_isRaining_30 : decode cX4_isRaining 30 = .ok (.ireturn, 1) := by decide +kernel
def zb_X4_isRaining_30 (E : zj_E) (st : List Value) (m : zj_M) : zj_R := (zi_ret (some .boolean)) E st m
set_option maxRecDepth 20000 in
theorem zs_X4_isRaining_30 : zj_KC cX4_isRaining RX4 1 (0) (some .boolean) (0, fun _ => 0) 30 (zb_X4_isRaining_30) := (zr_ret dX4_isRaining_30)
def zb_X4_isRaining_29 (E : zj_E) (st : List Value) (m : zj_M) : zj_R := (zi_push (.int 0) zb_X4_isRaining_30) E st m
set_option maxRecDepth 20000 in
theorem zs_X4_isRaining_29 : zj_KC cX4_isRaining RX4 1 (0) (some .boolean) (0, fun _ => 0) 29 (zb_X4_isRaining_29) := (zr_iconst dX4_isRaining_29 rfl (zs_X4_isRaining_30))
def zb_X4_isRaining_0 (E : zj_E) (st : List Value) (m : zj_M) : zj_R := (zi_ald 0 (zi_gf 4 11 (zi_gf 2 0 (zi_le zb_X4_isRaining_29 (zi_ald 0 (zi_gf 4 8 (zi_ald 0 (zi_gf 4 11 (zi_gf 2 0 (zi_bd (fun x y => x - x / y * y) (zi_eq (zi_push (.int 1) zb_X4_isRaining_30) zb_X4_isRaining_29))))))))))) E st m
set_option maxRecDepth 20000 in
theorem zs_X4_isRaining_0 : zj_KC cX4_isRaining RX4 1 (0) (some .boolean) (0, fun _ => 0) 0 (zb_X4_isRaining_0) := (zr_aldn dX4_isRaining_0 rfl (zr_gf dX4_isRaining_1 zfl_X4_39_4 (zr_gf dX4_isRaining_4 zfl_X4_73_2 (zr_ifle dX4_isRaining_7 (tgt := 29) (by decide) (zs_X4_isRaining_29) (zr_aldn dX4_isRaining_10 rfl (zr_gf dX4_isRaining_11 zfl_X4_60_4 (zr_aldn dX4_isRaining_14 rfl (zr_gf dX4_isRaining_15 zfl_X4_39_4 (zr_gf dX4_isRaining_18 zfl_X4_73_2 (zr_irem dX4_isRaining_21 (zr_ifne dX4_isRaining_22 (tgt := 29) (by decide) (zs_X4_isRaining_29) (zr_iconst dX4_isRaining_25 rfl (zr_goto dX4_isRaining_26 (tgt := 30) (by decide) (zs_X4_isRaining_30))))))))))))))
def zf_X4_isRaining : zj_F := zj_run 1 zb_X4_isRaining_0
theorem zm_X4_isRaining : zj_MS 0 yX4_isRaining cX4_isRaining 1 (some .boolean) zf_X4_isRaining := zj_met (own := RX4) rfl (by decide +kernel) (Or.inr (Or.inr (Or.inl rfl))) (zs_X4_isRaining_0)
theorem dX4_lookAround_0 : decode cX4_lookAround 0 = .ok (.aload_n 0, 1) := by decide +kernel
theorem dX4_lookAround_1 : decode cX4_lookAround 1 = .ok (.iconst 0, 1) := by decide +kernel
theorem dX4_lookAround_2 : decode cX4_lookAround 2 = .ok (.putfield 78, 3) := by decide +kernel
theorem dX4_lookAround_5 : decode cX4_lookAround 5 = .ok (.aload_n 0, 1) := by decide +kernel
theorem dX4_lookAround_6 : decode cX4_lookAround 6 = .ok (.iconst 0, 1) := by decide +kernel
theorem dX4_lookAround_7 : decode cX4_lookAround 7 = .ok (.putfield 81, 3) := by decide +kernel
theorem dX4_lookAround_10 : decode cX4_lookAround 10 = .ok (.iconst 0, 1) := by decide +kernel
theorem dX4_lookAround_11 : decode cX4_lookAround 11 = .ok (.istore_n 1, 1) := by decide +kernel
theorem dX4_lookAround_12 : decode cX4_lookAround 12 = .ok (.iload_n 1, 1) := by decide +kernel
theorem dX4_lookAround_13 : decode cX4_lookAround 13 = .ok (.aload_n 0, 1) := by decide +kernel
theorem dX4_lookAround_14 : decode cX4_lookAround 14 = .ok (.getfield 57, 3) := by decide +kernel
theorem dX4_lookAround_17 : decode cX4_lookAround 17 = .ok (.if_icmp .ge 51, 3) := by decide +kernel
theorem dX4_lookAround_20 : decode cX4_lookAround 20 = .ok (.aload_n 0, 1) := by decide +kernel
theorem dX4_lookAround_21 : decode cX4_lookAround 21 = .ok (.iload_n 1, 1) := by decide +kernel
theorem dX4_lookAround_22 : decode cX4_lookAround 22 = .ok (.invokevirtual 84, 3) := by decide +kernel
theorem dX4_lookAround_25 : decode cX4_lookAround 25 = .ok (.ifCond .ne 37, 3) := by decide +kernel
theorem dX4_lookAround_28 : decode cX4_lookAround 28 = .ok (.iconst 1, 1) := by decide +kernel
theorem dX4_lookAround_29 : decode cX4_lookAround 29 = .ok (.aload_n 0, 1) := by decide +kernel
theorem dX4_lookAround_30 : decode cX4_lookAround 30 = .ok (.getfield 21, 3) := by decide +kernel
theorem dX4_lookAround_33 : decode cX4_lookAround 33 = .ok (.iload_n 1, 1) := by decide +kernel
theorem dX4_lookAround_34 : decode cX4_lookAround 34 = .ok (.iaload, 1) := by decide +kernel
theorem dX4_lookAround_35 : decode cX4_lookAround 35 = .ok (.ishl, 1) := by decide +kernel
theorem dX4_lookAround_36 : decode cX4_lookAround 36 = .ok (.istore_n 2, 1) := by decide +kernel
theorem dX4_lookAround_37 : decode cX4_lookAround 37 = .ok (.aload_n 0, 1) := by decide +kernel
theorem dX4_lookAround_38 : decode cX4_lookAround 38 = .ok (.dup, 1) := by decide +kernel
theorem dX4_lookAround_39 : decode cX4_lookAround 39 = .ok (.getfield 81, 3) := by decide +kernel
theorem dX4_lookAround_42 : decode cX4_lookAround 42 = .ok (.aload_n 0, 1) := by decide +kernel
theorem dX4_lookAround_43 : decode cX4_lookAround 43 = .ok (.getfield 78, 3) := by decide +kernel
theorem dX4_lookAround_46 : decode cX4_lookAround 46 = .ok (.iload_n 2, 1) := by decide +kernel
theorem dX4_lookAround_47 : decode cX4_lookAround 47 = .ok (.iand, 1) := by decide +kernel
theorem dX4_lookAround_48 : decode cX4_lookAround 48 = .ok (.ior, 1) := by decide +kernel
theorem dX4_lookAround_49 : decode cX4_lookAround 49 = .ok (.putfield 81, 3) := by decide +kernel
theorem dX4_lookAround_52 : decode cX4_lookAround 52 = .ok (.aload_n 0, 1) := by decide +kernel
theorem dX4_lookAround_53 : decode cX4_lookAround 53 = .ok (.dup, 1) := by decide +kernel
theorem dX4_lookAround_54 : decode cX4_lookAround 54 = .ok (.getfield 78, 3) := by decide +kernel
theorem dX4_lookAround_57 : decode cX4_lookAround 57 = .ok (.iload_n 2, 1) := by decide +kernel
theorem dX4_lookAround_58 : decode cX4_lookAround 58 = .ok (.ior, 1) := by decide +kernel
theorem dX4_lookAround_59 : decode cX4_lookAround 59 = .ok (.putfield 78, 3) := by decide +kernel
theorem dX4_lookAround_62 : decode cX4_lookAround 62 = .ok (.iinc 1 1, 3) := by decide +kernel
theorem dX4_lookAround_65 : decode cX4_lookAround 65 = .ok (.goto (-53), 3) := by decide +kernel
theorem dX4_lookAround_68 : decode cX4_lookAround 68 = .ok (.return_, 1) := by decide +kernel
def zb_X4_lookAround_62 (r12 : zj_K) (E : zj_E) (st : List Value) (m : zj_M) : zj_R := (zi_inc 1 1 r12) E st m
set_option maxRecDepth 20000 in
theorem zs_X4_lookAround_62 {r12 : zj_K} (h12 : zj_KC cX4_lookAround RX4 3 (1) none (0, fun _ => 0) 12 r12) : zj_KC cX4_lookAround RX4 3 (1) none (0, fun _ => 0) 62 (zb_X4_lookAround_62 r12) := (zr_inc dX4_lookAround_62 rfl (zr_goto dX4_lookAround_65 (tgt := 12) (by decide) h12))
def zb_X4_lookAround_12 (r12 : zj_K) (E : zj_E) (st : List Value) (m : zj_M) : zj_R := (zi_ild 1 (zi_ald 0 (zi_gf 4 7 (zi_clt (zi_ald 0 (zi_ild 1 (zi_vc 4 1 zf_X4_isAway (zi_eq (zi_push (.int 1) (zi_ald 0 (zi_gf 4 3 (zi_ild 1 (zi_iald (zi_b (fun x y => x <<< (y &&& 31)) (zi_ist 2 (zi_ald 0 (zi_dup (zi_gf 4 17 (zi_ald 0 (zi_gf 4 16 (zi_ild 2 (zi_b (fun x y => x &&& y) (zi_b (fun x y => x ||| y) (zi_pf 4 17 (zi_ald 0 (zi_dup (zi_gf 4 16 (zi_ild 2 (zi_b (fun x y => x ||| y) (zi_pf 4 16 (zb_X4_lookAround_62 r12))))))))))))))))))))))) (zb_X4_lookAround_62 r12)) zi_no))) (zi_ret none))))) E st m
set_option maxRecDepth 20000 in
theorem zs_X4_lookAround_12 {r12 : zj_K} (h12 : zj_KC cX4_lookAround RX4 3 (1) none (0, fun _ => 0) 12 r12) : zj_KC cX4_lookAround RX4 3 (1) none (0, fun _ => 0) 12 (zb_X4_lookAround_12 r12) := (zr_ildn dX4_lookAround_12 rfl (zr_aldn dX4_lookAround_13 rfl (zr_gf dX4_lookAround_14 zfl_X4_57_4 (zr_icge dX4_lookAround_17 (tgt := 68) (by decide) (zr_ret dX4_lookAround_68) (zr_aldn dX4_lookAround_20 rfl (zr_ildn dX4_lookAround_21 rfl (zr_callV dX4_lookAround_22 zm_X4_isAway ⟨⟨zq_606, zq_76⟩, by decide +kernel, by omega, by decide⟩ rfl rfl zq_603 zq_604 zq_605 (zr_ifne dX4_lookAround_25 (tgt := 62) (by decide) (zs_X4_lookAround_62 h12) (zr_iconst dX4_lookAround_28 rfl (zr_aldn dX4_lookAround_29 rfl (zr_gf dX4_lookAround_30 zfl_X4_21_4 (zr_ildn dX4_lookAround_33 rfl (zr_iald dX4_lookAround_34 (zr_ishl dX4_lookAround_35 (zr_istn dX4_lookAround_36 rfl (zr_aldn dX4_lookAround_37 rfl (zr_dup dX4_lookAround_38 (zr_gf dX4_lookAround_39 zfl_X4_81_4 (zr_aldn dX4_lookAround_42 rfl (zr_gf dX4_lookAround_43 zfl_X4_78_4 (zr_ildn dX4_lookAround_46 rfl (zr_iand dX4_lookAround_47 (zr_ior dX4_lookAround_48 (zr_pf dX4_lookAround_49 zfl_X4_81_4w (zr_aldn dX4_lookAround_52 rfl (zr_dup dX4_lookAround_53 (zr_gf dX4_lookAround_54 zfl_X4_78_4 (zr_ildn dX4_lookAround_57 rfl (zr_ior dX4_lookAround_58 (zr_pf dX4_lookAround_59 zfl_X4_78_4w (zs_X4_lookAround_62 h12)))))))))))))))))))))))) zr_no)))))))
def zb_X4_lookAround_0 (E : zj_E) (st : List Value) (m : zj_M) : zj_R := (zi_ald 0 (zi_push (.int 0) (zi_pf 4 16 (zi_ald 0 (zi_push (.int 0) (zi_pf 4 17 (zi_push (.int 0) (zi_ist 1 (zj_lp (zb_X4_lookAround_12) zj_fu))))))))) E st m
set_option maxRecDepth 20000 in
theorem zs_X4_lookAround_0 : zj_KC cX4_lookAround RX4 3 (1) none (0, fun _ => 0) 0 (zb_X4_lookAround_0) := (zr_aldn dX4_lookAround_0 rfl (zr_iconst dX4_lookAround_1 rfl (zr_pf dX4_lookAround_2 zfl_X4_78_4w (zr_aldn dX4_lookAround_5 rfl (zr_iconst dX4_lookAround_6 rfl (zr_pf dX4_lookAround_7 zfl_X4_81_4w (zr_iconst dX4_lookAround_10 rfl (zr_istn dX4_lookAround_11 rfl (zr_lp (fun _ h => zs_X4_lookAround_12 h) zj_fu)))))))))
def zf_X4_lookAround : zj_F := zj_run 3 zb_X4_lookAround_0
theorem zm_X4_lookAround : zj_MS 1 yX4_lookAround cX4_lookAround 3 none zf_X4_lookAround := zj_met (own := RX4) rfl (by decide +kernel) (Or.inl rfl) (zs_X4_lookAround_0)
theorem dX6_sway_0 : decode cX6_sway 0 = .ok (.aload_n 0, 1) := by decide +kernel
theorem dX6_sway_1 : decode cX6_sway 1 = .ok (.aload_n 1, 1) := by decide +kernel
theorem dX6_sway_2 : decode cX6_sway 2 = .ok (.iload_n 2, 1) := by decide +kernel
theorem dX6_sway_3 : decode cX6_sway 3 = .ok (.iload_n 3, 1) := by decide +kernel
theorem dX6_sway_4 : decode cX6_sway 4 = .ok (.invokespecial 7, 3) := by decide +kernel
theorem dX6_sway_7 : decode cX6_sway 7 = .ok (.aload_n 1, 1) := by decide +kernel
theorem dX6_sway_8 : decode cX6_sway 8 = .ok (.iload_n 2, 1) := by decide +kernel
theorem dX6_sway_9 : decode cX6_sway 9 = .ok (.invokevirtual 11, 3) := by decide +kernel
theorem dX6_sway_12 : decode cX6_sway 12 = .ok (.ifCond .eq 7, 3) := by decide +kernel
theorem dX6_sway_15 : decode cX6_sway 15 = .ok (.iconst 2, 1) := by decide +kernel
theorem dX6_sway_16 : decode cX6_sway 16 = .ok (.goto 4, 3) := by decide +kernel
theorem dX6_sway_19 : decode cX6_sway 19 = .ok (.iconst 0, 1) := by decide +kernel
theorem dX6_sway_20 : decode cX6_sway 20 = .ok (.iadd, 1) := by decide +kernel
theorem dX6_sway_21 : decode cX6_sway 21 = .ok (.ireturn, 1) := by decide +kernel
def zb_X6_sway_20 (E : zj_E) (st : List Value) (m : zj_M) : zj_R := (zi_b (fun x y => x + y) (zi_ret (some .int))) E st m
set_option maxRecDepth 20000 in
theorem zs_X6_sway_20 : zj_KC cX6_sway RX6 4 (3) (some .int) (0, fun _ => 0) 20 (zb_X6_sway_20) := (zr_iadd dX6_sway_20 (zr_ret dX6_sway_21))
def zb_X6_sway_0 (E : zj_E) (st : List Value) (m : zj_M) : zj_R := (zi_ald 0 (zi_ald 1 (zi_ild 2 (zi_ild 3 (zi_vc 6 3 zf_X1_sway (zi_ald 1 (zi_ild 2 (zi_vc 4 1 zf_X4_hasCompany (zi_eq (zi_push (.int 0) zb_X6_sway_20) (zi_push (.int 2) zb_X6_sway_20)) zi_no))) zi_no))))) E st m
set_option maxRecDepth 20000 in
theorem zs_X6_sway_0 : zj_KC cX6_sway RX6 4 (3) (some .int) (0, fun _ => 0) 0 (zb_X6_sway_0) := (zr_aldn dX6_sway_0 rfl (zr_aldn dX6_sway_1 rfl (zr_ildn dX6_sway_2 rfl (zr_ildn dX6_sway_3 rfl (zr_callSU dX6_sway_4 zm_X1_sway ⟨⟨zq_646, zq_68⟩, by decide +kernel, by omega, by decide⟩ rfl zq_660 zq_1379 zq_165 (by decide) zq_645 (zr_aldn dX6_sway_7 rfl (zr_ildn dX6_sway_8 rfl (zr_callV dX6_sway_9 zm_X4_hasCompany ⟨⟨zq_618, zq_76⟩, by decide +kernel, by omega, by decide⟩ rfl rfl zq_661 zq_616 zq_617 (zr_ifeq dX6_sway_12 (tgt := 19) (by decide) (zr_iconst dX6_sway_19 rfl (zs_X6_sway_20)) (zr_iconst dX6_sway_15 rfl (zr_goto dX6_sway_16 (tgt := 20) (by decide) (zs_X6_sway_20)))) zr_no))) zr_no)))))
def zf_X6_sway : zj_F := zj_run 4 zb_X6_sway_0
theorem zm_X6_sway : zj_MS 3 yX6_sway cX6_sway 4 (some .int) zf_X6_sway := zj_met (own := RX6) rfl (by decide +kernel) (Or.inr (Or.inl rfl)) (zs_X6_sway_0)
theorem dX8_sway_0 : decode cX8_sway 0 = .ok (.aload_n 0, 1) := by decide +kernel
theorem dX8_sway_1 : decode cX8_sway 1 = .ok (.aload_n 1, 1) := by decide +kernel
theorem dX8_sway_2 : decode cX8_sway 2 = .ok (.iload_n 2, 1) := by decide +kernel
theorem dX8_sway_3 : decode cX8_sway 3 = .ok (.iload_n 3, 1) := by decide +kernel
theorem dX8_sway_4 : decode cX8_sway 4 = .ok (.invokespecial 7, 3) := by decide +kernel
theorem dX8_sway_7 : decode cX8_sway 7 = .ok (.aload_n 1, 1) := by decide +kernel
theorem dX8_sway_8 : decode cX8_sway 8 = .ok (.getfield 11, 3) := by decide +kernel
theorem dX8_sway_11 : decode cX8_sway 11 = .ok (.iload_n 2, 1) := by decide +kernel
theorem dX8_sway_12 : decode cX8_sway 12 = .ok (.iconst 4, 1) := by decide +kernel
theorem dX8_sway_13 : decode cX8_sway 13 = .ok (.imul, 1) := by decide +kernel
theorem dX8_sway_14 : decode cX8_sway 14 = .ok (.aload_n 1, 1) := by decide +kernel
theorem dX8_sway_15 : decode cX8_sway 15 = .ok (.getfield 17, 3) := by decide +kernel
theorem dX8_sway_18 : decode cX8_sway 18 = .ok (.iconst 4, 1) := by decide +kernel
theorem dX8_sway_19 : decode cX8_sway 19 = .ok (.irem, 1) := by decide +kernel
theorem dX8_sway_20 : decode cX8_sway 20 = .ok (.iadd, 1) := by decide +kernel
theorem dX8_sway_21 : decode cX8_sway 21 = .ok (.iaload, 1) := by decide +kernel
theorem dX8_sway_22 : decode cX8_sway 22 = .ok (.iadd, 1) := by decide +kernel
theorem dX8_sway_23 : decode cX8_sway 23 = .ok (.ireturn, 1) := by decide +kernel
def zb_X8_sway_0 (E : zj_E) (st : List Value) (m : zj_M) : zj_R := (zi_ald 0 (zi_ald 1 (zi_ild 2 (zi_ild 3 (zi_vc 8 3 zf_X0_sway (zi_ald 1 (zi_gf 4 6 (zi_ild 2 (zi_push (.int 4) (zi_b (fun x y => x * y) (zi_ald 1 (zi_gf 4 8 (zi_push (.int 4) (zi_bd (fun x y => x - x / y * y) (zi_b (fun x y => x + y) (zi_iald (zi_b (fun x y => x + y) (zi_ret (some .int)))))))))))))) zi_no))))) E st m
set_option maxRecDepth 20000 in
theorem zs_X8_sway_0 : zj_KC cX8_sway RX8 4 (2) (some .int) (0, fun _ => 0) 0 (zb_X8_sway_0) := (zr_aldn dX8_sway_0 rfl (zr_aldn dX8_sway_1 rfl (zr_ildn dX8_sway_2 rfl (zr_ildn dX8_sway_3 rfl (zr_callSU dX8_sway_4 zm_X0_sway ⟨⟨zq_642, zq_70⟩, by decide +kernel, by omega, by decide⟩ rfl zq_666 zq_1380 zq_181 (by decide) zq_641 (zr_aldn dX8_sway_7 rfl (zr_gf dX8_sway_8 zfl_X8_11_4 (zr_ildn dX8_sway_11 rfl (zr_iconst dX8_sway_12 rfl (zr_imul dX8_sway_13 (zr_aldn dX8_sway_14 rfl (zr_gf dX8_sway_15 zfl_X8_17_4 (zr_iconst dX8_sway_18 rfl (zr_irem dX8_sway_19 (zr_iadd dX8_sway_20 (zr_iald dX8_sway_21 (zr_iadd dX8_sway_22 (zr_ret dX8_sway_23))))))))))))) zr_no)))))
def zf_X8_sway : zj_F := zj_run 4 zb_X8_sway_0
theorem zm_X8_sway : zj_MS 2 yX8_sway cX8_sway 4 (some .int) zf_X8_sway := zj_met (own := RX8) rfl (by decide +kernel) (Or.inr (Or.inl rfl)) (zs_X8_sway_0)
theorem dX4_swayOf_0 : decode cX4_swayOf 0 = .ok (.aload_n 0, 1) := by decide +kernel
theorem dX4_swayOf_1 : decode cX4_swayOf 1 = .ok (.getfield 39, 3) := by decide +kernel
theorem dX4_swayOf_4 : decode cX4_swayOf 4 = .ok (.iload_n 1, 1) := by decide +kernel
theorem dX4_swayOf_5 : decode cX4_swayOf 5 = .ok (.aload_n 0, 1) := by decide +kernel
theorem dX4_swayOf_6 : decode cX4_swayOf 6 = .ok (.getfield 15, 3) := by decide +kernel
theorem dX4_swayOf_9 : decode cX4_swayOf 9 = .ok (.iload_n 1, 1) := by decide +kernel
theorem dX4_swayOf_10 : decode cX4_swayOf 10 = .ok (.iaload, 1) := by decide +kernel
theorem dX4_swayOf_11 : decode cX4_swayOf 11 = .ok (.aload_n 0, 1) := by decide +kernel
theorem dX4_swayOf_12 : decode cX4_swayOf 12 = .ok (.getfield 18, 3) := by decide +kernel
theorem dX4_swayOf_15 : decode cX4_swayOf 15 = .ok (.iload_n 1, 1) := by decide +kernel
theorem dX4_swayOf_16 : decode cX4_swayOf 16 = .ok (.iaload, 1) := by decide +kernel
theorem dX4_swayOf_17 : decode cX4_swayOf 17 = .ok (.aload_n 0, 1) := by decide +kernel
theorem dX4_swayOf_18 : decode cX4_swayOf 18 = .ok (.getfield 21, 3) := by decide +kernel
theorem dX4_swayOf_21 : decode cX4_swayOf 21 = .ok (.iload_n 1, 1) := by decide +kernel
theorem dX4_swayOf_22 : decode cX4_swayOf 22 = .ok (.iaload, 1) := by decide +kernel
theorem dX4_swayOf_23 : decode cX4_swayOf 23 = .ok (.aload_n 0, 1) := by decide +kernel
theorem dX4_swayOf_24 : decode cX4_swayOf 24 = .ok (.getfield 24, 3) := by decide +kernel
theorem dX4_swayOf_27 : decode cX4_swayOf 27 = .ok (.iload_n 1, 1) := by decide +kernel
theorem dX4_swayOf_28 : decode cX4_swayOf 28 = .ok (.iaload, 1) := by decide +kernel
theorem dX4_swayOf_29 : decode cX4_swayOf 29 = .ok (.aload_n 0, 1) := by decide +kernel
theorem dX4_swayOf_30 : decode cX4_swayOf 30 = .ok (.getfield 60, 3) := by decide +kernel
theorem dX4_swayOf_33 : decode cX4_swayOf 33 = .ok (.bipush 10, 2) := by decide +kernel
theorem dX4_swayOf_35 : decode cX4_swayOf 35 = .ok (.irem, 1) := by decide +kernel
theorem dX4_swayOf_36 : decode cX4_swayOf 36 = .ok (.invokevirtual 88, 3) := by decide +kernel
theorem dX4_swayOf_39 : decode cX4_swayOf 39 = .ok (.istore_n 2, 1) := by decide +kernel
theorem dX4_swayOf_40 : decode cX4_swayOf 40 = .ok (.aload_n 0, 1) := by decide +kernel
theorem dX4_swayOf_41 : decode cX4_swayOf 41 = .ok (.getfield 43, 3) := by decide +kernel
theorem dX4_swayOf_44 : decode cX4_swayOf 44 = .ok (.aload_n 0, 1) := by decide +kernel
theorem dX4_swayOf_45 : decode cX4_swayOf 45 = .ok (.getfield 15, 3) := by decide +kernel
theorem dX4_swayOf_48 : decode cX4_swayOf 48 = .ok (.iload_n 1, 1) := by decide +kernel
theorem dX4_swayOf_49 : decode cX4_swayOf 49 = .ok (.iaload, 1) := by decide +kernel
theorem dX4_swayOf_50 : decode cX4_swayOf 50 = .ok (.aaload, 1) := by decide +kernel
theorem dX4_swayOf_51 : decode cX4_swayOf 51 = .ok (.aload_n 0, 1) := by decide +kernel
theorem dX4_swayOf_52 : decode cX4_swayOf 52 = .ok (.iload_n 1, 1) := by decide +kernel
theorem dX4_swayOf_53 : decode cX4_swayOf 53 = .ok (.iload_n 2, 1) := by decide +kernel
theorem dX4_swayOf_54 : decode cX4_swayOf 54 = .ok (.invokevirtual 92, 3) := by decide +kernel
theorem dX4_swayOf_57 : decode cX4_swayOf 57 = .ok (.ireturn, 1) := by decide +kernel
def zb_X4_swayOf_57 (E : zj_E) (st : List Value) (m : zj_M) : zj_R := (zi_ret (some .int)) E st m
set_option maxRecDepth 20000 in
theorem zs_X4_swayOf_57 : zj_KC cX4_swayOf RX4 3 (4) (some .int) (0, fun _ => 0) 57 (zb_X4_swayOf_57) := (zr_ret dX4_swayOf_57)
def zb_X4_swayOf_0 (E : zj_E) (st : List Value) (m : zj_M) : zj_R := (zi_ald 0 (zi_gf 4 11 (zi_ild 1 (zi_ald 0 (zi_gf 4 1 (zi_ild 1 (zi_iald (zi_ald 0 (zi_gf 4 2 (zi_ild 1 (zi_iald (zi_ald 0 (zi_gf 4 3 (zi_ild 1 (zi_iald (zi_ald 0 (zi_gf 4 4 (zi_ild 1 (zi_iald (zi_ald 0 (zi_gf 4 8 (zi_push (.int 10) (zi_bd (fun x y => x - x / y * y) (zi_vc 2 6 zf_X2_sumOf (zi_ist 2 (zi_ald 0 (zi_gf 4 12 (zi_ald 0 (zi_gf 4 1 (zi_ild 1 (zi_iald (zi_aald (zi_ald 0 (zi_ild 1 (zi_ild 2 (zi_vc 9 3 zf_X9_sway zb_X4_swayOf_57 (zi_vc 1 3 zf_X1_sway zb_X4_swayOf_57 (zi_vc 6 3 zf_X6_sway zb_X4_swayOf_57 (zi_vc 7 3 zf_X7_sway zb_X4_swayOf_57 (zi_vc 3 3 zf_X3_sway zb_X4_swayOf_57 (zi_vc 0 3 zf_X0_sway zb_X4_swayOf_57 (zi_vc 8 3 zf_X8_sway zb_X4_swayOf_57 zi_no)))))))))))))))))) zi_no)))))))))))))))))))))))) E st m
set_option maxRecDepth 20000 in
theorem zs_X4_swayOf_0 : zj_KC cX4_swayOf RX4 3 (4) (some .int) (0, fun _ => 0) 0 (zb_X4_swayOf_0) := (zr_aldn dX4_swayOf_0 rfl (zr_gf dX4_swayOf_1 zfl_X4_39_4 (zr_ildn dX4_swayOf_4 rfl (zr_aldn dX4_swayOf_5 rfl (zr_gf dX4_swayOf_6 zfl_X4_15_4 (zr_ildn dX4_swayOf_9 rfl (zr_iald dX4_swayOf_10 (zr_aldn dX4_swayOf_11 rfl (zr_gf dX4_swayOf_12 zfl_X4_18_4 (zr_ildn dX4_swayOf_15 rfl (zr_iald dX4_swayOf_16 (zr_aldn dX4_swayOf_17 rfl (zr_gf dX4_swayOf_18 zfl_X4_21_4 (zr_ildn dX4_swayOf_21 rfl (zr_iald dX4_swayOf_22 (zr_aldn dX4_swayOf_23 rfl (zr_gf dX4_swayOf_24 zfl_X4_24_4 (zr_ildn dX4_swayOf_27 rfl (zr_iald dX4_swayOf_28 (zr_aldn dX4_swayOf_29 rfl (zr_gf dX4_swayOf_30 zfl_X4_60_4 (zr_bipush dX4_swayOf_33 rfl (zr_irem dX4_swayOf_35 (zr_callV dX4_swayOf_36 zm_X2_sumOf ⟨⟨zq_626, zq_74⟩, by decide +kernel, by omega, by decide⟩ rfl rfl zq_623 zq_624 zq_625 (zr_istn dX4_swayOf_39 rfl (zr_aldn dX4_swayOf_40 rfl (zr_gf dX4_swayOf_41 zfl_X4_43_4 (zr_aldn dX4_swayOf_44 rfl (zr_gf dX4_swayOf_45 zfl_X4_15_4 (zr_ildn dX4_swayOf_48 rfl (zr_iald dX4_swayOf_49 (zr_aald dX4_swayOf_50 (zr_aldn dX4_swayOf_51 rfl (zr_ildn dX4_swayOf_52 rfl (zr_ildn dX4_swayOf_53 rfl (zr_callV dX4_swayOf_54 zm_X9_sway ⟨⟨zq_667, zq_67⟩, by decide +kernel, by omega, by decide⟩ rfl rfl zq_636 zq_637 zq_638 (zs_X4_swayOf_57) (zr_callU dX4_swayOf_54 zm_X1_sway ⟨⟨zq_646, zq_68⟩, by decide +kernel, by omega, by decide⟩ rfl zq_636 zq_639 zq_637 zq_667 (by decide +kernel) zq_645 zq_644 (zs_X4_swayOf_57) (zr_callU dX4_swayOf_54 zm_X6_sway ⟨⟨zq_659, zq_71⟩, by decide +kernel, by omega, by decide⟩ rfl zq_636 zq_639 zq_637 zq_667 (by decide +kernel) zq_658 zq_657 (zs_X4_swayOf_57) (zr_callU dX4_swayOf_54 zm_X7_sway ⟨⟨zq_655, zq_69⟩, by decide +kernel, by omega, by decide⟩ rfl zq_636 zq_639 zq_637 zq_667 (by decide +kernel) zq_654 zq_662 (zs_X4_swayOf_57) (zr_callU dX4_swayOf_54 zm_X3_sway ⟨⟨zq_651, zq_72⟩, by decide +kernel, by omega, by decide⟩ rfl zq_636 zq_639 zq_637 zq_667 (by decide +kernel) zq_650 zq_649 (zs_X4_swayOf_57) (zr_callU dX4_swayOf_54 zm_X0_sway ⟨⟨zq_642, zq_70⟩, by decide +kernel, by omega, by decide⟩ rfl zq_636 zq_639 zq_637 zq_667 (by decide +kernel) zq_641 zq_640 (zs_X4_swayOf_57) (zr_callU dX4_swayOf_54 zm_X8_sway ⟨⟨zq_665, zq_73⟩, by decide +kernel, by omega, by decide⟩ rfl zq_636 zq_639 zq_637 zq_667 (by decide +kernel) zq_664 zq_663 (zs_X4_swayOf_57) zr_no)))))))))))))))))) zr_no))))))))))))))))))))))))
def zf_X4_swayOf : zj_F := zj_run 3 zb_X4_swayOf_0
theorem zm_X4_swayOf : zj_MS 4 yX4_swayOf cX4_swayOf 3 (some .int) zf_X4_swayOf := zj_met (own := RX4) rfl (by decide +kernel) (Or.inr (Or.inl rfl)) (zs_X4_swayOf_0)
theorem dX9_pace_0 : decode cX9_pace 0 = .ok (.iconst 1, 1) := by decide +kernel
theorem dX9_pace_1 : decode cX9_pace 1 = .ok (.ireturn, 1) := by decide +kernel
def zb_X9_pace_0 (E : zj_E) (st : List Value) (m : zj_M) : zj_R := (zi_push (.int 1) (zi_ret (some .int))) E st m
set_option maxRecDepth 20000 in
theorem zs_X9_pace_0 : zj_KC cX9_pace RX9 3 (0) (some .int) (0, fun _ => 0) 0 (zb_X9_pace_0) := (zr_iconst dX9_pace_0 rfl (zr_ret dX9_pace_1))
def zf_X9_pace : zj_F := zj_run 3 zb_X9_pace_0
theorem zm_X9_pace : zj_MS 0 yX9_pace cX9_pace 3 (some .int) zf_X9_pace := zj_met (own := RX9) rfl (by decide +kernel) (Or.inr (Or.inl rfl)) (zs_X9_pace_0)
theorem dX6_pace_0 : decode cX6_pace 0 = .ok (.aload_n 1, 1) := by decide +kernel
theorem dX6_pace_1 : decode cX6_pace 1 = .ok (.iload_n 2, 1) := by decide +kernel
theorem dX6_pace_2 : decode cX6_pace 2 = .ok (.invokevirtual 11, 3) := by decide +kernel
theorem dX6_pace_5 : decode cX6_pace 5 = .ok (.ifCond .eq 8, 3) := by decide +kernel
theorem dX6_pace_8 : decode cX6_pace 8 = .ok (.bipush 15, 2) := by decide +kernel
theorem dX6_pace_10 : decode cX6_pace 10 = .ok (.goto 9, 3) := by decide +kernel
theorem dX6_pace_13 : decode cX6_pace 13 = .ok (.aload_n 0, 1) := by decide +kernel
theorem dX6_pace_14 : decode cX6_pace 14 = .ok (.aload_n 1, 1) := by decide +kernel
theorem dX6_pace_15 : decode cX6_pace 15 = .ok (.iload_n 2, 1) := by decide +kernel
theorem dX6_pace_16 : decode cX6_pace 16 = .ok (.invokespecial 17, 3) := by decide +kernel
theorem dX6_pace_19 : decode cX6_pace 19 = .ok (.ireturn, 1) := by decide +kernel
def zb_X6_pace_19 (E : zj_E) (st : List Value) (m : zj_M) : zj_R := (zi_ret (some .int)) E st m
set_option maxRecDepth 20000 in
theorem zs_X6_pace_19 : zj_KC cX6_pace RX6 3 (2) (some .int) (0, fun _ => 0) 19 (zb_X6_pace_19) := (zr_ret dX6_pace_19)
def zb_X6_pace_0 (E : zj_E) (st : List Value) (m : zj_M) : zj_R := (zi_ald 1 (zi_ild 2 (zi_vc 4 1 zf_X4_hasCompany (zi_eq (zi_ald 0 (zi_ald 1 (zi_ild 2 (zi_vc 6 2 zf_X9_pace zb_X6_pace_19 zi_no)))) (zi_push (.int 15) zb_X6_pace_19)) zi_no))) E st m
set_option maxRecDepth 20000 in
theorem zs_X6_pace_0 : zj_KC cX6_pace RX6 3 (2) (some .int) (0, fun _ => 0) 0 (zb_X6_pace_0) := (zr_aldn dX6_pace_0 rfl (zr_ildn dX6_pace_1 rfl (zr_callV dX6_pace_2 zm_X4_hasCompany ⟨⟨zq_618, zq_76⟩, by decide +kernel, by omega, by decide⟩ rfl rfl zq_661 zq_616 zq_617 (zr_ifeq dX6_pace_5 (tgt := 13) (by decide) (zr_aldn dX6_pace_13 rfl (zr_aldn dX6_pace_14 rfl (zr_ildn dX6_pace_15 rfl (zr_callSUx dX6_pace_16 zm_X9_pace ⟨⟨zq_698, zq_67⟩, by decide +kernel, by omega, by decide⟩ rfl rfl zq_693 zq_694 zq_165 zq_141 (by decide) zq_677 (zs_X6_pace_19) zr_no)))) (zr_bipush dX6_pace_8 rfl (zr_goto dX6_pace_10 (tgt := 19) (by decide) (zs_X6_pace_19)))) zr_no)))
def zf_X6_pace : zj_F := zj_run 3 zb_X6_pace_0
theorem zm_X6_pace : zj_MS 2 yX6_pace cX6_pace 3 (some .int) zf_X6_pace := zj_met (own := RX6) rfl (by decide +kernel) (Or.inr (Or.inl rfl)) (zs_X6_pace_0)
theorem dX4_paceOf_0 : decode cX4_paceOf 0 = .ok (.aload_n 0, 1) := by decide +kernel
theorem dX4_paceOf_1 : decode cX4_paceOf 1 = .ok (.invokevirtual 98, 3) := by decide +kernel
theorem dX4_paceOf_4 : decode cX4_paceOf 4 = .ok (.ifCond .eq 7, 3) := by decide +kernel
theorem dX4_paceOf_7 : decode cX4_paceOf 7 = .ok (.iconst 0, 1) := by decide +kernel
theorem dX4_paceOf_8 : decode cX4_paceOf 8 = .ok (.goto 19, 3) := by decide +kernel
theorem dX4_paceOf_11 : decode cX4_paceOf 11 = .ok (.aload_n 0, 1) := by decide +kernel
theorem dX4_paceOf_12 : decode cX4_paceOf 12 = .ok (.getfield 43, 3) := by decide +kernel
theorem dX4_paceOf_15 : decode cX4_paceOf 15 = .ok (.aload_n 0, 1) := by decide +kernel
theorem dX4_paceOf_16 : decode cX4_paceOf 16 = .ok (.getfield 15, 3) := by decide +kernel
theorem dX4_paceOf_19 : decode cX4_paceOf 19 = .ok (.iload_n 1, 1) := by decide +kernel
theorem dX4_paceOf_20 : decode cX4_paceOf 20 = .ok (.iaload, 1) := by decide +kernel
theorem dX4_paceOf_21 : decode cX4_paceOf 21 = .ok (.aaload, 1) := by decide +kernel
theorem dX4_paceOf_22 : decode cX4_paceOf 22 = .ok (.aload_n 0, 1) := by decide +kernel
theorem dX4_paceOf_23 : decode cX4_paceOf 23 = .ok (.iload_n 1, 1) := by decide +kernel
theorem dX4_paceOf_24 : decode cX4_paceOf 24 = .ok (.invokevirtual 102, 3) := by decide +kernel
theorem dX4_paceOf_27 : decode cX4_paceOf 27 = .ok (.ireturn, 1) := by decide +kernel
def zb_X4_paceOf_27 (E : zj_E) (st : List Value) (m : zj_M) : zj_R := (zi_ret (some .int)) E st m
set_option maxRecDepth 20000 in
theorem zs_X4_paceOf_27 : zj_KC cX4_paceOf RX4 2 (3) (some .int) (0, fun _ => 0) 27 (zb_X4_paceOf_27) := (zr_ret dX4_paceOf_27)
def zb_X4_paceOf_0 (E : zj_E) (st : List Value) (m : zj_M) : zj_R := (zi_ald 0 (zi_vc 4 0 zf_X4_isRaining (zi_eq (zi_ald 0 (zi_gf 4 12 (zi_ald 0 (zi_gf 4 1 (zi_ild 1 (zi_iald (zi_aald (zi_ald 0 (zi_ild 1 (zi_vc 9 2 zf_X9_pace zb_X4_paceOf_27 (zi_vc 1 2 zf_X9_pace zb_X4_paceOf_27 (zi_vc 6 2 zf_X6_pace zb_X4_paceOf_27 (zi_vc 7 2 zf_X7_pace zb_X4_paceOf_27 (zi_vc 3 2 zf_X3_pace zb_X4_paceOf_27 (zi_vc 0 2 zf_X0_pace zb_X4_paceOf_27 (zi_vc 8 2 zf_X0_pace zb_X4_paceOf_27 zi_no)))))))))))))))) (zi_push (.int 0) zb_X4_paceOf_27)) zi_no)) E st m
set_option maxRecDepth 20000 in
theorem zs_X4_paceOf_0 : zj_KC cX4_paceOf RX4 2 (3) (some .int) (0, fun _ => 0) 0 (zb_X4_paceOf_0) := (zr_aldn dX4_paceOf_0 rfl (zr_callV dX4_paceOf_1 zm_X4_isRaining ⟨⟨zq_675, zq_76⟩, by decide +kernel, by omega, by decide⟩ rfl rfl zq_672 zq_673 zq_674 (zr_ifeq dX4_paceOf_4 (tgt := 11) (by decide) (zr_aldn dX4_paceOf_11 rfl (zr_gf dX4_paceOf_12 zfl_X4_43_4 (zr_aldn dX4_paceOf_15 rfl (zr_gf dX4_paceOf_16 zfl_X4_15_4 (zr_ildn dX4_paceOf_19 rfl (zr_iald dX4_paceOf_20 (zr_aald dX4_paceOf_21 (zr_aldn dX4_paceOf_22 rfl (zr_ildn dX4_paceOf_23 rfl (zr_callV dX4_paceOf_24 zm_X9_pace ⟨⟨zq_698, zq_67⟩, by decide +kernel, by omega, by decide⟩ rfl rfl zq_676 zq_677 zq_678 (zs_X4_paceOf_27) (zr_callU dX4_paceOf_24 zm_X9_pace ⟨⟨zq_698, zq_67⟩, by decide +kernel, by omega, by decide⟩ rfl zq_676 zq_679 zq_677 zq_698 (by decide +kernel) zq_677 zq_683 (zs_X4_paceOf_27) (zr_callU dX4_paceOf_24 zm_X6_pace ⟨⟨zq_692, zq_71⟩, by decide +kernel, by omega, by decide⟩ rfl zq_676 zq_679 zq_677 zq_698 (by decide +kernel) zq_691 zq_690 (zs_X4_paceOf_27) (zr_callU dX4_paceOf_24 zm_X7_pace ⟨⟨zq_689, zq_69⟩, by decide +kernel, by omega, by decide⟩ rfl zq_676 zq_679 zq_677 zq_698 (by decide +kernel) zq_688 zq_696 (zs_X4_paceOf_27) (zr_callU dX4_paceOf_24 zm_X3_pace ⟨⟨zq_686, zq_72⟩, by decide +kernel, by omega, by decide⟩ rfl zq_676 zq_679 zq_677 zq_698 (by decide +kernel) zq_685 zq_684 (zs_X4_paceOf_27) (zr_callU dX4_paceOf_24 zm_X0_pace ⟨⟨zq_682, zq_70⟩, by decide +kernel, by omega, by decide⟩ rfl zq_676 zq_679 zq_677 zq_698 (by decide +kernel) zq_681 zq_680 (zs_X4_paceOf_27) (zr_callU dX4_paceOf_24 zm_X0_pace ⟨⟨zq_682, zq_70⟩, by decide +kernel, by omega, by decide⟩ rfl zq_676 zq_679 zq_677 zq_698 (by decide +kernel) zq_681 zq_697 (zs_X4_paceOf_27) zr_no)))))))))))))))) (zr_iconst dX4_paceOf_7 rfl (zr_goto dX4_paceOf_8 (tgt := 27) (by decide) (zs_X4_paceOf_27)))) zr_no))
def zf_X4_paceOf : zj_F := zj_run 2 zb_X4_paceOf_0
theorem zm_X4_paceOf : zj_MS 3 yX4_paceOf cX4_paceOf 2 (some .int) zf_X4_paceOf := zj_met (own := RX4) rfl (by decide +kernel) (Or.inr (Or.inl rfl)) (zs_X4_paceOf_0)
theorem dX4_wrongOnes_0 : decode cX4_wrongOnes 0 = .ok (.iconst 0, 1) := by decide +kernel
theorem dX4_wrongOnes_1 : decode cX4_wrongOnes 1 = .ok (.istore_n 1, 1) := by decide +kernel
theorem dX4_wrongOnes_2 : decode cX4_wrongOnes 2 = .ok (.iconst 0, 1) := by decide +kernel
theorem dX4_wrongOnes_3 : decode cX4_wrongOnes 3 = .ok (.istore_n 2, 1) := by decide +kernel
theorem dX4_wrongOnes_4 : decode cX4_wrongOnes 4 = .ok (.iload_n 2, 1) := by decide +kernel
theorem dX4_wrongOnes_5 : decode cX4_wrongOnes 5 = .ok (.aload_n 0, 1) := by decide +kernel
theorem dX4_wrongOnes_6 : decode cX4_wrongOnes 6 = .ok (.getfield 57, 3) := by decide +kernel
theorem dX4_wrongOnes_9 : decode cX4_wrongOnes 9 = .ok (.if_icmp .ge 28, 3) := by decide +kernel
theorem dX4_wrongOnes_12 : decode cX4_wrongOnes 12 = .ok (.aload_n 0, 1) := by decide +kernel
theorem dX4_wrongOnes_13 : decode cX4_wrongOnes 13 = .ok (.iload_n 2, 1) := by decide +kernel
theorem dX4_wrongOnes_14 : decode cX4_wrongOnes 14 = .ok (.invokevirtual 84, 3) := by decide +kernel
theorem dX4_wrongOnes_17 : decode cX4_wrongOnes 17 = .ok (.ifCond .ne 14, 3) := by decide +kernel
theorem dX4_wrongOnes_20 : decode cX4_wrongOnes 20 = .ok (.aload_n 0, 1) := by decide +kernel
theorem dX4_wrongOnes_21 : decode cX4_wrongOnes 21 = .ok (.iload_n 2, 1) := by decide +kernel
theorem dX4_wrongOnes_22 : decode cX4_wrongOnes 22 = .ok (.invokevirtual 106, 3) := by decide +kernel
theorem dX4_wrongOnes_25 : decode cX4_wrongOnes 25 = .ok (.ifCond .eq 6, 3) := by decide +kernel
theorem dX4_wrongOnes_28 : decode cX4_wrongOnes 28 = .ok (.iinc 1 1, 3) := by decide +kernel
theorem dX4_wrongOnes_31 : decode cX4_wrongOnes 31 = .ok (.iinc 2 1, 3) := by decide +kernel
theorem dX4_wrongOnes_34 : decode cX4_wrongOnes 34 = .ok (.goto (-30), 3) := by decide +kernel
theorem dX4_wrongOnes_37 : decode cX4_wrongOnes 37 = .ok (.iload_n 1, 1) := by decide +kernel
theorem dX4_wrongOnes_38 : decode cX4_wrongOnes 38 = .ok (.ireturn, 1) := by decide +kernel
def zb_X4_wrongOnes_31 (r4 : zj_K) (E : zj_E) (st : List Value) (m : zj_M) : zj_R := (zi_inc 2 1 r4) E st m
set_option maxRecDepth 20000 in
theorem zs_X4_wrongOnes_31 {r4 : zj_K} (h4 : zj_KC cX4_wrongOnes RX4 3 (1) (some .int) (0, fun _ => 0) 4 r4) : zj_KC cX4_wrongOnes RX4 3 (1) (some .int) (0, fun _ => 0) 31 (zb_X4_wrongOnes_31 r4) := (zr_inc dX4_wrongOnes_31 rfl (zr_goto dX4_wrongOnes_34 (tgt := 4) (by decide) h4))
def zb_X4_wrongOnes_4 (r4 : zj_K) (E : zj_E) (st : List Value) (m : zj_M) : zj_R := (zi_ild 2 (zi_ald 0 (zi_gf 4 7 (zi_clt (zi_ald 0 (zi_ild 2 (zi_vc 4 1 zf_X4_isAway (zi_eq (zi_ald 0 (zi_ild 2 (zi_vc 4 1 zf_X4_isWrong (zi_eq (zb_X4_wrongOnes_31 r4) (zi_inc 1 1 (zb_X4_wrongOnes_31 r4))) zi_no))) (zb_X4_wrongOnes_31 r4)) zi_no))) (zi_ild 1 (zi_ret (some .int))))))) E st m
set_option maxRecDepth 20000 in
theorem zs_X4_wrongOnes_4 {r4 : zj_K} (h4 : zj_KC cX4_wrongOnes RX4 3 (1) (some .int) (0, fun _ => 0) 4 r4) : zj_KC cX4_wrongOnes RX4 3 (1) (some .int) (0, fun _ => 0) 4 (zb_X4_wrongOnes_4 r4) := (zr_ildn dX4_wrongOnes_4 rfl (zr_aldn dX4_wrongOnes_5 rfl (zr_gf dX4_wrongOnes_6 zfl_X4_57_4 (zr_icge dX4_wrongOnes_9 (tgt := 37) (by decide) (zr_ildn dX4_wrongOnes_37 rfl (zr_ret dX4_wrongOnes_38)) (zr_aldn dX4_wrongOnes_12 rfl (zr_ildn dX4_wrongOnes_13 rfl (zr_callV dX4_wrongOnes_14 zm_X4_isAway ⟨⟨zq_606, zq_76⟩, by decide +kernel, by omega, by decide⟩ rfl rfl zq_603 zq_604 zq_605 (zr_ifne dX4_wrongOnes_17 (tgt := 31) (by decide) (zs_X4_wrongOnes_31 h4) (zr_aldn dX4_wrongOnes_20 rfl (zr_ildn dX4_wrongOnes_21 rfl (zr_callV dX4_wrongOnes_22 zm_X4_isWrong ⟨⟨zq_614, zq_76⟩, by decide +kernel, by omega, by decide⟩ rfl rfl zq_725 zq_612 zq_613 (zr_ifeq dX4_wrongOnes_25 (tgt := 31) (by decide) (zs_X4_wrongOnes_31 h4) (zr_inc dX4_wrongOnes_28 rfl (zs_X4_wrongOnes_31 h4))) zr_no)))) zr_no)))))))
def zb_X4_wrongOnes_0 (E : zj_E) (st : List Value) (m : zj_M) : zj_R := (zi_push (.int 0) (zi_ist 1 (zi_push (.int 0) (zi_ist 2 (zj_lp (zb_X4_wrongOnes_4) zj_fu))))) E st m
set_option maxRecDepth 20000 in
theorem zs_X4_wrongOnes_0 : zj_KC cX4_wrongOnes RX4 3 (1) (some .int) (0, fun _ => 0) 0 (zb_X4_wrongOnes_0) := (zr_iconst dX4_wrongOnes_0 rfl (zr_istn dX4_wrongOnes_1 rfl (zr_iconst dX4_wrongOnes_2 rfl (zr_istn dX4_wrongOnes_3 rfl (zr_lp (fun _ h => zs_X4_wrongOnes_4 h) zj_fu)))))
def zf_X4_wrongOnes : zj_F := zj_run 3 zb_X4_wrongOnes_0
theorem zm_X4_wrongOnes : zj_MS 1 yX4_wrongOnes cX4_wrongOnes 3 (some .int) zf_X4_wrongOnes := zj_met (own := RX4) rfl (by decide +kernel) (Or.inr (Or.inl rfl)) (zs_X4_wrongOnes_0)
theorem dX4_movedOfAll_0 : decode cX4_movedOfAll 0 = .ok (.iconst 0, 1) := by decide +kernel
theorem dX4_movedOfAll_1 : decode cX4_movedOfAll 1 = .ok (.istore_n 1, 1) := by decide +kernel
theorem dX4_movedOfAll_2 : decode cX4_movedOfAll 2 = .ok (.iconst 0, 1) := by decide +kernel
theorem dX4_movedOfAll_3 : decode cX4_movedOfAll 3 = .ok (.istore_n 2, 1) := by decide +kernel
theorem dX4_movedOfAll_4 : decode cX4_movedOfAll 4 = .ok (.iload_n 2, 1) := by decide +kernel
theorem dX4_movedOfAll_5 : decode cX4_movedOfAll 5 = .ok (.aload_n 0, 1) := by decide +kernel
theorem dX4_movedOfAll_6 : decode cX4_movedOfAll 6 = .ok (.getfield 57, 3) := by decide +kernel
theorem dX4_movedOfAll_9 : decode cX4_movedOfAll 9 = .ok (.if_icmp .ge 18, 3) := by decide +kernel
theorem dX4_movedOfAll_12 : decode cX4_movedOfAll 12 = .ok (.iload_n 1, 1) := by decide +kernel
theorem dX4_movedOfAll_13 : decode cX4_movedOfAll 13 = .ok (.aload_n 0, 1) := by decide +kernel
theorem dX4_movedOfAll_14 : decode cX4_movedOfAll 14 = .ok (.getfield 27, 3) := by decide +kernel
theorem dX4_movedOfAll_17 : decode cX4_movedOfAll 17 = .ok (.iload_n 2, 1) := by decide +kernel
theorem dX4_movedOfAll_18 : decode cX4_movedOfAll 18 = .ok (.iaload, 1) := by decide +kernel
theorem dX4_movedOfAll_19 : decode cX4_movedOfAll 19 = .ok (.iadd, 1) := by decide +kernel
theorem dX4_movedOfAll_20 : decode cX4_movedOfAll 20 = .ok (.istore_n 1, 1) := by decide +kernel
theorem dX4_movedOfAll_21 : decode cX4_movedOfAll 21 = .ok (.iinc 2 1, 3) := by decide +kernel
theorem dX4_movedOfAll_24 : decode cX4_movedOfAll 24 = .ok (.goto (-20), 3) := by decide +kernel
theorem dX4_movedOfAll_27 : decode cX4_movedOfAll 27 = .ok (.iload_n 1, 1) := by decide +kernel
theorem dX4_movedOfAll_28 : decode cX4_movedOfAll 28 = .ok (.ireturn, 1) := by decide +kernel
def zb_X4_movedOfAll_4 (r4 : zj_K) (E : zj_E) (st : List Value) (m : zj_M) : zj_R := (zi_ild 2 (zi_ald 0 (zi_gf 4 7 (zi_clt (zi_ild 1 (zi_ald 0 (zi_gf 4 5 (zi_ild 2 (zi_iald (zi_b (fun x y => x + y) (zi_ist 1 (zi_inc 2 1 r4)))))))) (zi_ild 1 (zi_ret (some .int))))))) E st m
set_option maxRecDepth 20000 in
theorem zs_X4_movedOfAll_4 {r4 : zj_K} (h4 : zj_KC cX4_movedOfAll RX4 3 (0) (some .int) (0, fun _ => 0) 4 r4) : zj_KC cX4_movedOfAll RX4 3 (0) (some .int) (0, fun _ => 0) 4 (zb_X4_movedOfAll_4 r4) := (zr_ildn dX4_movedOfAll_4 rfl (zr_aldn dX4_movedOfAll_5 rfl (zr_gf dX4_movedOfAll_6 zfl_X4_57_4 (zr_icge dX4_movedOfAll_9 (tgt := 27) (by decide) (zr_ildn dX4_movedOfAll_27 rfl (zr_ret dX4_movedOfAll_28)) (zr_ildn dX4_movedOfAll_12 rfl (zr_aldn dX4_movedOfAll_13 rfl (zr_gf dX4_movedOfAll_14 zfl_X4_27_4 (zr_ildn dX4_movedOfAll_17 rfl (zr_iald dX4_movedOfAll_18 (zr_iadd dX4_movedOfAll_19 (zr_istn dX4_movedOfAll_20 rfl (zr_inc dX4_movedOfAll_21 rfl (zr_goto dX4_movedOfAll_24 (tgt := 4) (by decide) h4)))))))))))))
def zb_X4_movedOfAll_0 (E : zj_E) (st : List Value) (m : zj_M) : zj_R := (zi_push (.int 0) (zi_ist 1 (zi_push (.int 0) (zi_ist 2 (zj_lp (zb_X4_movedOfAll_4) zj_fu))))) E st m
set_option maxRecDepth 20000 in
theorem zs_X4_movedOfAll_0 : zj_KC cX4_movedOfAll RX4 3 (0) (some .int) (0, fun _ => 0) 0 (zb_X4_movedOfAll_0) := (zr_iconst dX4_movedOfAll_0 rfl (zr_istn dX4_movedOfAll_1 rfl (zr_iconst dX4_movedOfAll_2 rfl (zr_istn dX4_movedOfAll_3 rfl (zr_lp (fun _ h => zs_X4_movedOfAll_4 h) zj_fu)))))
def zf_X4_movedOfAll : zj_F := zj_run 3 zb_X4_movedOfAll_0
theorem zm_X4_movedOfAll : zj_MS 0 yX4_movedOfAll cX4_movedOfAll 3 (some .int) zf_X4_movedOfAll := zj_met (own := RX4) rfl (by decide +kernel) (Or.inr (Or.inl rfl)) (zs_X4_movedOfAll_0)
theorem dX4_onAnyRoad_0 : decode cX4_onAnyRoad 0 = .ok (.iconst 0, 1) := by decide +kernel
theorem dX4_onAnyRoad_1 : decode cX4_onAnyRoad 1 = .ok (.istore_n 1, 1) := by decide +kernel
theorem dX4_onAnyRoad_2 : decode cX4_onAnyRoad 2 = .ok (.iconst 0, 1) := by decide +kernel
theorem dX4_onAnyRoad_3 : decode cX4_onAnyRoad 3 = .ok (.istore_n 2, 1) := by decide +kernel
theorem dX4_onAnyRoad_4 : decode cX4_onAnyRoad 4 = .ok (.iload_n 2, 1) := by decide +kernel
theorem dX4_onAnyRoad_5 : decode cX4_onAnyRoad 5 = .ok (.iconst 4, 1) := by decide +kernel
theorem dX4_onAnyRoad_6 : decode cX4_onAnyRoad 6 = .ok (.if_icmp .ge 18, 3) := by decide +kernel
theorem dX4_onAnyRoad_9 : decode cX4_onAnyRoad 9 = .ok (.iload_n 1, 1) := by decide +kernel
theorem dX4_onAnyRoad_10 : decode cX4_onAnyRoad 10 = .ok (.aload_n 0, 1) := by decide +kernel
theorem dX4_onAnyRoad_11 : decode cX4_onAnyRoad 11 = .ok (.getfield 9, 3) := by decide +kernel
theorem dX4_onAnyRoad_14 : decode cX4_onAnyRoad 14 = .ok (.iload_n 2, 1) := by decide +kernel
theorem dX4_onAnyRoad_15 : decode cX4_onAnyRoad 15 = .ok (.iaload, 1) := by decide +kernel
theorem dX4_onAnyRoad_16 : decode cX4_onAnyRoad 16 = .ok (.ior, 1) := by decide +kernel
theorem dX4_onAnyRoad_17 : decode cX4_onAnyRoad 17 = .ok (.istore_n 1, 1) := by decide +kernel
theorem dX4_onAnyRoad_18 : decode cX4_onAnyRoad 18 = .ok (.iinc 2 1, 3) := by decide +kernel
theorem dX4_onAnyRoad_21 : decode cX4_onAnyRoad 21 = .ok (.goto (-17), 3) := by decide +kernel
theorem dX4_onAnyRoad_24 : decode cX4_onAnyRoad 24 = .ok (.iload_n 1, 1) := by decide +kernel
theorem dX4_onAnyRoad_25 : decode cX4_onAnyRoad 25 = .ok (.ireturn, 1) := by decide +kernel
def zb_X4_onAnyRoad_4 (r4 : zj_K) (E : zj_E) (st : List Value) (m : zj_M) : zj_R := (zi_ild 2 (zi_push (.int 4) (zi_clt (zi_ild 1 (zi_ald 0 (zi_gf 4 0 (zi_ild 2 (zi_iald (zi_b (fun x y => x ||| y) (zi_ist 1 (zi_inc 2 1 r4)))))))) (zi_ild 1 (zi_ret (some .int)))))) E st m
set_option maxRecDepth 20000 in
theorem zs_X4_onAnyRoad_4 {r4 : zj_K} (h4 : zj_KC cX4_onAnyRoad RX4 3 (0) (some .int) (0, fun _ => 0) 4 r4) : zj_KC cX4_onAnyRoad RX4 3 (0) (some .int) (0, fun _ => 0) 4 (zb_X4_onAnyRoad_4 r4) := (zr_ildn dX4_onAnyRoad_4 rfl (zr_iconst dX4_onAnyRoad_5 rfl (zr_icge dX4_onAnyRoad_6 (tgt := 24) (by decide) (zr_ildn dX4_onAnyRoad_24 rfl (zr_ret dX4_onAnyRoad_25)) (zr_ildn dX4_onAnyRoad_9 rfl (zr_aldn dX4_onAnyRoad_10 rfl (zr_gf dX4_onAnyRoad_11 zfl_X4_9_4 (zr_ildn dX4_onAnyRoad_14 rfl (zr_iald dX4_onAnyRoad_15 (zr_ior dX4_onAnyRoad_16 (zr_istn dX4_onAnyRoad_17 rfl (zr_inc dX4_onAnyRoad_18 rfl (zr_goto dX4_onAnyRoad_21 (tgt := 4) (by decide) h4))))))))))))
def zb_X4_onAnyRoad_0 (E : zj_E) (st : List Value) (m : zj_M) : zj_R := (zi_push (.int 0) (zi_ist 1 (zi_push (.int 0) (zi_ist 2 (zj_lp (zb_X4_onAnyRoad_4) zj_fu))))) E st m
set_option maxRecDepth 20000 in
theorem zs_X4_onAnyRoad_0 : zj_KC cX4_onAnyRoad RX4 3 (0) (some .int) (0, fun _ => 0) 0 (zb_X4_onAnyRoad_0) := (zr_iconst dX4_onAnyRoad_0 rfl (zr_istn dX4_onAnyRoad_1 rfl (zr_iconst dX4_onAnyRoad_2 rfl (zr_istn dX4_onAnyRoad_3 rfl (zr_lp (fun _ h => zs_X4_onAnyRoad_4 h) zj_fu)))))
def zf_X4_onAnyRoad : zj_F := zj_run 3 zb_X4_onAnyRoad_0
theorem zm_X4_onAnyRoad : zj_MS 0 yX4_onAnyRoad cX4_onAnyRoad 3 (some .int) zf_X4_onAnyRoad := zj_met (own := RX4) rfl (by decide +kernel) (Or.inr (Or.inl rfl)) (zs_X4_onAnyRoad_0)
theorem dX4_onJustOneRoad_0 : decode cX4_onJustOneRoad 0 = .ok (.iconst 0, 1) := by decide +kernel
theorem dX4_onJustOneRoad_1 : decode cX4_onJustOneRoad 1 = .ok (.istore_n 1, 1) := by decide +kernel
theorem dX4_onJustOneRoad_2 : decode cX4_onJustOneRoad 2 = .ok (.iconst 0, 1) := by decide +kernel
theorem dX4_onJustOneRoad_3 : decode cX4_onJustOneRoad 3 = .ok (.istore_n 2, 1) := by decide +kernel
theorem dX4_onJustOneRoad_4 : decode cX4_onJustOneRoad 4 = .ok (.iconst 0, 1) := by decide +kernel
theorem dX4_onJustOneRoad_5 : decode cX4_onJustOneRoad 5 = .ok (.istore_n 3, 1) := by decide +kernel
theorem dX4_onJustOneRoad_6 : decode cX4_onJustOneRoad 6 = .ok (.iload_n 3, 1) := by decide +kernel
theorem dX4_onJustOneRoad_7 : decode cX4_onJustOneRoad 7 = .ok (.iconst 4, 1) := by decide +kernel
theorem dX4_onJustOneRoad_8 : decode cX4_onJustOneRoad 8 = .ok (.if_icmp .ge 29, 3) := by decide +kernel
theorem dX4_onJustOneRoad_11 : decode cX4_onJustOneRoad 11 = .ok (.iload_n 2, 1) := by decide +kernel
theorem dX4_onJustOneRoad_12 : decode cX4_onJustOneRoad 12 = .ok (.iload_n 1, 1) := by decide +kernel
theorem dX4_onJustOneRoad_13 : decode cX4_onJustOneRoad 13 = .ok (.aload_n 0, 1) := by decide +kernel
theorem dX4_onJustOneRoad_14 : decode cX4_onJustOneRoad 14 = .ok (.getfield 9, 3) := by decide +kernel
theorem dX4_onJustOneRoad_17 : decode cX4_onJustOneRoad 17 = .ok (.iload_n 3, 1) := by decide +kernel
theorem dX4_onJustOneRoad_18 : decode cX4_onJustOneRoad 18 = .ok (.iaload, 1) := by decide +kernel
theorem dX4_onJustOneRoad_19 : decode cX4_onJustOneRoad 19 = .ok (.iand, 1) := by decide +kernel
theorem dX4_onJustOneRoad_20 : decode cX4_onJustOneRoad 20 = .ok (.ior, 1) := by decide +kernel
theorem dX4_onJustOneRoad_21 : decode cX4_onJustOneRoad 21 = .ok (.istore_n 2, 1) := by decide +kernel
theorem dX4_onJustOneRoad_22 : decode cX4_onJustOneRoad 22 = .ok (.iload_n 1, 1) := by decide +kernel
theorem dX4_onJustOneRoad_23 : decode cX4_onJustOneRoad 23 = .ok (.aload_n 0, 1) := by decide +kernel
theorem dX4_onJustOneRoad_24 : decode cX4_onJustOneRoad 24 = .ok (.getfield 9, 3) := by decide +kernel
theorem dX4_onJustOneRoad_27 : decode cX4_onJustOneRoad 27 = .ok (.iload_n 3, 1) := by decide +kernel
theorem dX4_onJustOneRoad_28 : decode cX4_onJustOneRoad 28 = .ok (.iaload, 1) := by decide +kernel
theorem dX4_onJustOneRoad_29 : decode cX4_onJustOneRoad 29 = .ok (.ior, 1) := by decide +kernel
theorem dX4_onJustOneRoad_30 : decode cX4_onJustOneRoad 30 = .ok (.istore_n 1, 1) := by decide +kernel
theorem dX4_onJustOneRoad_31 : decode cX4_onJustOneRoad 31 = .ok (.iinc 3 1, 3) := by decide +kernel
theorem dX4_onJustOneRoad_34 : decode cX4_onJustOneRoad 34 = .ok (.goto (-28), 3) := by decide +kernel
theorem dX4_onJustOneRoad_37 : decode cX4_onJustOneRoad 37 = .ok (.iload_n 1, 1) := by decide +kernel
theorem dX4_onJustOneRoad_38 : decode cX4_onJustOneRoad 38 = .ok (.iload_n 2, 1) := by decide +kernel
theorem dX4_onJustOneRoad_39 : decode cX4_onJustOneRoad 39 = .ok (.iconst (-1), 1) := by decide +kernel
theorem dX4_onJustOneRoad_40 : decode cX4_onJustOneRoad 40 = .ok (.ixor, 1) := by decide +kernel
theorem dX4_onJustOneRoad_41 : decode cX4_onJustOneRoad 41 = .ok (.iand, 1) := by decide +kernel
theorem dX4_onJustOneRoad_42 : decode cX4_onJustOneRoad 42 = .ok (.ireturn, 1) := by decide +kernel
def zb_X4_onJustOneRoad_6 (r6 : zj_K) (E : zj_E) (st : List Value) (m : zj_M) : zj_R := (zi_ild 3 (zi_push (.int 4) (zi_clt (zi_ild 2 (zi_ild 1 (zi_ald 0 (zi_gf 4 0 (zi_ild 3 (zi_iald (zi_b (fun x y => x &&& y) (zi_b (fun x y => x ||| y) (zi_ist 2 (zi_ild 1 (zi_ald 0 (zi_gf 4 0 (zi_ild 3 (zi_iald (zi_b (fun x y => x ||| y) (zi_ist 1 (zi_inc 3 1 r6))))))))))))))))) (zi_ild 1 (zi_ild 2 (zi_push (.int (-1)) (zi_b (fun x y => x ^^^ y) (zi_b (fun x y => x &&& y) (zi_ret (some .int)))))))))) E st m
set_option maxRecDepth 20000 in
theorem zs_X4_onJustOneRoad_6 {r6 : zj_K} (h6 : zj_KC cX4_onJustOneRoad RX4 4 (0) (some .int) (0, fun _ => 0) 6 r6) : zj_KC cX4_onJustOneRoad RX4 4 (0) (some .int) (0, fun _ => 0) 6 (zb_X4_onJustOneRoad_6 r6) := (zr_ildn dX4_onJustOneRoad_6 rfl (zr_iconst dX4_onJustOneRoad_7 rfl (zr_icge dX4_onJustOneRoad_8 (tgt := 37) (by decide) (zr_ildn dX4_onJustOneRoad_37 rfl (zr_ildn dX4_onJustOneRoad_38 rfl (zr_iconst dX4_onJustOneRoad_39 rfl (zr_ixor dX4_onJustOneRoad_40 (zr_iand dX4_onJustOneRoad_41 (zr_ret dX4_onJustOneRoad_42)))))) (zr_ildn dX4_onJustOneRoad_11 rfl (zr_ildn dX4_onJustOneRoad_12 rfl (zr_aldn dX4_onJustOneRoad_13 rfl (zr_gf dX4_onJustOneRoad_14 zfl_X4_9_4 (zr_ildn dX4_onJustOneRoad_17 rfl (zr_iald dX4_onJustOneRoad_18 (zr_iand dX4_onJustOneRoad_19 (zr_ior dX4_onJustOneRoad_20 (zr_istn dX4_onJustOneRoad_21 rfl (zr_ildn dX4_onJustOneRoad_22 rfl (zr_aldn dX4_onJustOneRoad_23 rfl (zr_gf dX4_onJustOneRoad_24 zfl_X4_9_4 (zr_ildn dX4_onJustOneRoad_27 rfl (zr_iald dX4_onJustOneRoad_28 (zr_ior dX4_onJustOneRoad_29 (zr_istn dX4_onJustOneRoad_30 rfl (zr_inc dX4_onJustOneRoad_31 rfl (zr_goto dX4_onJustOneRoad_34 (tgt := 6) (by decide) h6)))))))))))))))))))))
def zb_X4_onJustOneRoad_0 (E : zj_E) (st : List Value) (m : zj_M) : zj_R := (zi_push (.int 0) (zi_ist 1 (zi_push (.int 0) (zi_ist 2 (zi_push (.int 0) (zi_ist 3 (zj_lp (zb_X4_onJustOneRoad_6) zj_fu))))))) E st m
set_option maxRecDepth 20000 in
theorem zs_X4_onJustOneRoad_0 : zj_KC cX4_onJustOneRoad RX4 4 (0) (some .int) (0, fun _ => 0) 0 (zb_X4_onJustOneRoad_0) := (zr_iconst dX4_onJustOneRoad_0 rfl (zr_istn dX4_onJustOneRoad_1 rfl (zr_iconst dX4_onJustOneRoad_2 rfl (zr_istn dX4_onJustOneRoad_3 rfl (zr_iconst dX4_onJustOneRoad_4 rfl (zr_istn dX4_onJustOneRoad_5 rfl (zr_lp (fun _ h => zs_X4_onJustOneRoad_6 h) zj_fu)))))))
def zf_X4_onJustOneRoad : zj_F := zj_run 4 zb_X4_onJustOneRoad_0
theorem zm_X4_onJustOneRoad : zj_MS 0 yX4_onJustOneRoad cX4_onJustOneRoad 4 (some .int) zf_X4_onJustOneRoad := zj_met (own := RX4) rfl (by decide +kernel) (Or.inr (Or.inl rfl)) (zs_X4_onJustOneRoad_0)
theorem dX4_handOver_0 : decode cX4_handOver 0 = .ok (.aload_n 0, 1) := by decide +kernel
theorem dX4_handOver_1 : decode cX4_handOver 1 = .ok (.getfield 63, 3) := by decide +kernel
theorem dX4_handOver_4 : decode cX4_handOver 4 = .ok (.aload_n 0, 1) := by decide +kernel
theorem dX4_handOver_5 : decode cX4_handOver 5 = .ok (.getfield 21, 3) := by decide +kernel
theorem dX4_handOver_8 : decode cX4_handOver 8 = .ok (.iload_n 1, 1) := by decide +kernel
theorem dX4_handOver_9 : decode cX4_handOver 9 = .ok (.iaload, 1) := by decide +kernel
theorem dX4_handOver_10 : decode cX4_handOver 10 = .ok (.ishr, 1) := by decide +kernel
theorem dX4_handOver_11 : decode cX4_handOver 11 = .ok (.iconst 1, 1) := by decide +kernel
theorem dX4_handOver_12 : decode cX4_handOver 12 = .ok (.iand, 1) := by decide +kernel
theorem dX4_handOver_13 : decode cX4_handOver 13 = .ok (.ifCond .eq 11, 3) := by decide +kernel
theorem dX4_handOver_16 : decode cX4_handOver 16 = .ok (.aload_n 0, 1) := by decide +kernel
theorem dX4_handOver_17 : decode cX4_handOver 17 = .ok (.iload_n 1, 1) := by decide +kernel
theorem dX4_handOver_18 : decode cX4_handOver 18 = .ok (.invokevirtual 106, 3) := by decide +kernel
theorem dX4_handOver_21 : decode cX4_handOver 21 = .ok (.ifCond .ne 4, 3) := by decide +kernel
theorem dX4_handOver_24 : decode cX4_handOver 24 = .ok (.return_, 1) := by decide +kernel
theorem dX4_handOver_25 : decode cX4_handOver 25 = .ok (.aload_n 0, 1) := by decide +kernel
theorem dX4_handOver_26 : decode cX4_handOver 26 = .ok (.getfield 27, 3) := by decide +kernel
theorem dX4_handOver_29 : decode cX4_handOver 29 = .ok (.iload_n 1, 1) := by decide +kernel
theorem dX4_handOver_30 : decode cX4_handOver 30 = .ok (.aload_n 0, 1) := by decide +kernel
theorem dX4_handOver_31 : decode cX4_handOver 31 = .ok (.getfield 47, 3) := by decide +kernel
theorem dX4_handOver_34 : decode cX4_handOver 34 = .ok (.aload_n 0, 1) := by decide +kernel
theorem dX4_handOver_35 : decode cX4_handOver 35 = .ok (.getfield 27, 3) := by decide +kernel
theorem dX4_handOver_38 : decode cX4_handOver 38 = .ok (.iload_n 1, 1) := by decide +kernel
theorem dX4_handOver_39 : decode cX4_handOver 39 = .ok (.iaload, 1) := by decide +kernel
theorem dX4_handOver_40 : decode cX4_handOver 40 = .ok (.iconst 1, 1) := by decide +kernel
theorem dX4_handOver_41 : decode cX4_handOver 41 = .ok (.iadd, 1) := by decide +kernel
theorem dX4_handOver_42 : decode cX4_handOver 42 = .ok (.invokestatic 148, 3) := by decide +kernel
theorem dX4_handOver_45 : decode cX4_handOver 45 = .ok (.iastore, 1) := by decide +kernel
theorem dX4_handOver_46 : decode cX4_handOver 46 = .ok (.iconst 0, 1) := by decide +kernel
theorem dX4_handOver_47 : decode cX4_handOver 47 = .ok (.istore_n 2, 1) := by decide +kernel
theorem dX4_handOver_48 : decode cX4_handOver 48 = .ok (.iload_n 2, 1) := by decide +kernel
theorem dX4_handOver_49 : decode cX4_handOver 49 = .ok (.iconst 4, 1) := by decide +kernel
theorem dX4_handOver_50 : decode cX4_handOver 50 = .ok (.if_icmp .ge 35, 3) := by decide +kernel
theorem dX4_handOver_53 : decode cX4_handOver 53 = .ok (.aload_n 0, 1) := by decide +kernel
theorem dX4_handOver_54 : decode cX4_handOver 54 = .ok (.getfield 9, 3) := by decide +kernel
theorem dX4_handOver_57 : decode cX4_handOver 57 = .ok (.iload_n 2, 1) := by decide +kernel
theorem dX4_handOver_58 : decode cX4_handOver 58 = .ok (.iaload, 1) := by decide +kernel
theorem dX4_handOver_59 : decode cX4_handOver 59 = .ok (.aload_n 0, 1) := by decide +kernel
theorem dX4_handOver_60 : decode cX4_handOver 60 = .ok (.getfield 21, 3) := by decide +kernel
theorem dX4_handOver_63 : decode cX4_handOver 63 = .ok (.iload_n 1, 1) := by decide +kernel
theorem dX4_handOver_64 : decode cX4_handOver 64 = .ok (.iaload, 1) := by decide +kernel
theorem dX4_handOver_65 : decode cX4_handOver 65 = .ok (.ishr, 1) := by decide +kernel
theorem dX4_handOver_66 : decode cX4_handOver 66 = .ok (.iconst 1, 1) := by decide +kernel
theorem dX4_handOver_67 : decode cX4_handOver 67 = .ok (.iand, 1) := by decide +kernel
theorem dX4_handOver_68 : decode cX4_handOver 68 = .ok (.ifCond .eq 11, 3) := by decide +kernel
theorem dX4_handOver_71 : decode cX4_handOver 71 = .ok (.aload_n 0, 1) := by decide +kernel
theorem dX4_handOver_72 : decode cX4_handOver 72 = .ok (.getfield 24, 3) := by decide +kernel
theorem dX4_handOver_75 : decode cX4_handOver 75 = .ok (.iload_n 1, 1) := by decide +kernel
theorem dX4_handOver_76 : decode cX4_handOver 76 = .ok (.iload_n 2, 1) := by decide +kernel
theorem dX4_handOver_77 : decode cX4_handOver 77 = .ok (.iastore, 1) := by decide +kernel
theorem dX4_handOver_78 : decode cX4_handOver 78 = .ok (.return_, 1) := by decide +kernel
theorem dX4_handOver_79 : decode cX4_handOver 79 = .ok (.iinc 2 1, 3) := by decide +kernel
theorem dX4_handOver_82 : decode cX4_handOver 82 = .ok (.goto (-34), 3) := by decide +kernel
theorem dX4_handOver_85 : decode cX4_handOver 85 = .ok (.return_, 1) := by decide +kernel
def zb_X4_handOver_24 (E : zj_E) (st : List Value) (m : zj_M) : zj_R := (zi_ret none) E st m
set_option maxRecDepth 20000 in
theorem zs_X4_handOver_24 : zj_KC cX4_handOver RX4 3 (1) none (0, fun _ => 0) 24 (zb_X4_handOver_24) := (zr_ret dX4_handOver_24)
def zb_X4_handOver_48 (r48 : zj_K) (E : zj_E) (st : List Value) (m : zj_M) : zj_R := (zi_ild 2 (zi_push (.int 4) (zi_clt (zi_ald 0 (zi_gf 4 0 (zi_ild 2 (zi_iald (zi_ald 0 (zi_gf 4 3 (zi_ild 1 (zi_iald (zi_b (fun x y => x >>> (y &&& 31)) (zi_push (.int 1) (zi_b (fun x y => x &&& y) (zi_eq (zi_inc 2 1 r48) (zi_ald 0 (zi_gf 4 4 (zi_ild 1 (zi_ild 2 (zi_iast (zi_ret none)))))))))))))))))) (zi_ret none)))) E st m
set_option maxRecDepth 20000 in
theorem zs_X4_handOver_48 {r48 : zj_K} (h48 : zj_KC cX4_handOver RX4 3 (1) none (0, fun _ => 0) 48 r48) : zj_KC cX4_handOver RX4 3 (1) none (0, fun _ => 0) 48 (zb_X4_handOver_48 r48) := (zr_ildn dX4_handOver_48 rfl (zr_iconst dX4_handOver_49 rfl (zr_icge dX4_handOver_50 (tgt := 85) (by decide) (zr_ret dX4_handOver_85) (zr_aldn dX4_handOver_53 rfl (zr_gf dX4_handOver_54 zfl_X4_9_4 (zr_ildn dX4_handOver_57 rfl (zr_iald dX4_handOver_58 (zr_aldn dX4_handOver_59 rfl (zr_gf dX4_handOver_60 zfl_X4_21_4 (zr_ildn dX4_handOver_63 rfl (zr_iald dX4_handOver_64 (zr_ishr dX4_handOver_65 (zr_iconst dX4_handOver_66 rfl (zr_iand dX4_handOver_67 (zr_ifeq dX4_handOver_68 (tgt := 79) (by decide) (zr_inc dX4_handOver_79 rfl (zr_goto dX4_handOver_82 (tgt := 48) (by decide) h48)) (zr_aldn dX4_handOver_71 rfl (zr_gf dX4_handOver_72 zfl_X4_24_4 (zr_ildn dX4_handOver_75 rfl (zr_ildn dX4_handOver_76 rfl (zr_iast dX4_handOver_77 (zr_ret dX4_handOver_78)))))))))))))))))))))
def zb_X4_handOver_0 (E : zj_E) (st : List Value) (m : zj_M) : zj_R := (zi_ald 0 (zi_gf 4 9 (zi_ald 0 (zi_gf 4 3 (zi_ild 1 (zi_iald (zi_b (fun x y => x >>> (y &&& 31)) (zi_push (.int 1) (zi_b (fun x y => x &&& y) (zi_eq zb_X4_handOver_24 (zi_ald 0 (zi_ild 1 (zi_vc 4 1 zf_X4_isWrong (zi_eq zb_X4_handOver_24 (zi_ald 0 (zi_gf 4 5 (zi_ild 1 (zi_ald 0 (zi_gf 4 13 (zi_ald 0 (zi_gf 4 5 (zi_ild 1 (zi_iald (zi_push (.int 1) (zi_b (fun x y => x + y) (zi_mmin (zi_iast (zi_push (.int 0) (zi_ist 2 (zj_lp (zb_X4_handOver_48) zj_fu))))))))))))))))) zi_no))))))))))))) E st m
set_option maxRecDepth 20000 in
theorem zs_X4_handOver_0 : zj_KC cX4_handOver RX4 3 (1) none (0, fun _ => 0) 0 (zb_X4_handOver_0) := (zr_aldn dX4_handOver_0 rfl (zr_gf dX4_handOver_1 zfl_X4_63_4 (zr_aldn dX4_handOver_4 rfl (zr_gf dX4_handOver_5 zfl_X4_21_4 (zr_ildn dX4_handOver_8 rfl (zr_iald dX4_handOver_9 (zr_ishr dX4_handOver_10 (zr_iconst dX4_handOver_11 rfl (zr_iand dX4_handOver_12 (zr_ifeq dX4_handOver_13 (tgt := 24) (by decide) (zs_X4_handOver_24) (zr_aldn dX4_handOver_16 rfl (zr_ildn dX4_handOver_17 rfl (zr_callV dX4_handOver_18 zm_X4_isWrong ⟨⟨zq_614, zq_76⟩, by decide +kernel, by omega, by decide⟩ rfl rfl zq_725 zq_612 zq_613 (zr_ifne dX4_handOver_21 (tgt := 25) (by decide) (zr_aldn dX4_handOver_25 rfl (zr_gf dX4_handOver_26 zfl_X4_27_4 (zr_ildn dX4_handOver_29 rfl (zr_aldn dX4_handOver_30 rfl (zr_gf dX4_handOver_31 zfl_X4_47_4 (zr_aldn dX4_handOver_34 rfl (zr_gf dX4_handOver_35 zfl_X4_27_4 (zr_ildn dX4_handOver_38 rfl (zr_iald dX4_handOver_39 (zr_iconst dX4_handOver_40 rfl (zr_iadd dX4_handOver_41 (zr_mmin dX4_handOver_42 zq_754 zq_509 zq_82 zq_510 (by omega) (zr_iast dX4_handOver_45 (zr_iconst dX4_handOver_46 rfl (zr_istn dX4_handOver_47 rfl (zr_lp (fun _ h => zs_X4_handOver_48 h) zj_fu)))))))))))))))) (zs_X4_handOver_24)) zr_no)))))))))))))
def zf_X4_handOver : zj_F := zj_run 3 zb_X4_handOver_0
theorem zm_X4_handOver : zj_MS 1 yX4_handOver cX4_handOver 3 none zf_X4_handOver := zj_met (own := RX4) rfl (by decide +kernel) (Or.inl rfl) (zs_X4_handOver_0)
theorem dX4_goOneStep_0 : decode cX4_goOneStep 0 = .ok (.aload_n 0, 1) := by decide +kernel
theorem dX4_goOneStep_1 : decode cX4_goOneStep 1 = .ok (.invokevirtual 134, 3) := by decide +kernel
theorem dX4_goOneStep_4 : decode cX4_goOneStep 4 = .ok (.iconst 0, 1) := by decide +kernel
theorem dX4_goOneStep_5 : decode cX4_goOneStep 5 = .ok (.istore_n 1, 1) := by decide +kernel
theorem dX4_goOneStep_6 : decode cX4_goOneStep 6 = .ok (.iload_n 1, 1) := by decide +kernel
theorem dX4_goOneStep_7 : decode cX4_goOneStep 7 = .ok (.aload_n 0, 1) := by decide +kernel
theorem dX4_goOneStep_8 : decode cX4_goOneStep 8 = .ok (.getfield 57, 3) := by decide +kernel
theorem dX4_goOneStep_11 : decode cX4_goOneStep 11 = .ok (.if_icmp .ge 58, 3) := by decide +kernel
theorem dX4_goOneStep_14 : decode cX4_goOneStep 14 = .ok (.aload_n 0, 1) := by decide +kernel
theorem dX4_goOneStep_15 : decode cX4_goOneStep 15 = .ok (.iload_n 1, 1) := by decide +kernel
theorem dX4_goOneStep_16 : decode cX4_goOneStep 16 = .ok (.invokevirtual 84, 3) := by decide +kernel
theorem dX4_goOneStep_19 : decode cX4_goOneStep 19 = .ok (.ifCond .ne 44, 3) := by decide +kernel
theorem dX4_goOneStep_22 : decode cX4_goOneStep 22 = .ok (.aload_n 0, 1) := by decide +kernel
theorem dX4_goOneStep_23 : decode cX4_goOneStep 23 = .ok (.getfield 33, 3) := by decide +kernel
theorem dX4_goOneStep_26 : decode cX4_goOneStep 26 = .ok (.iload_n 1, 1) := by decide +kernel
theorem dX4_goOneStep_27 : decode cX4_goOneStep 27 = .ok (.aload_n 0, 1) := by decide +kernel
theorem dX4_goOneStep_28 : decode cX4_goOneStep 28 = .ok (.getfield 21, 3) := by decide +kernel
theorem dX4_goOneStep_31 : decode cX4_goOneStep 31 = .ok (.iload_n 1, 1) := by decide +kernel
theorem dX4_goOneStep_32 : decode cX4_goOneStep 32 = .ok (.iaload, 1) := by decide +kernel
theorem dX4_goOneStep_33 : decode cX4_goOneStep 33 = .ok (.aload_n 0, 1) := by decide +kernel
theorem dX4_goOneStep_34 : decode cX4_goOneStep 34 = .ok (.iload_n 1, 1) := by decide +kernel
theorem dX4_goOneStep_35 : decode cX4_goOneStep 35 = .ok (.invokevirtual 137, 3) := by decide +kernel
theorem dX4_goOneStep_38 : decode cX4_goOneStep 38 = .ok (.iadd, 1) := by decide +kernel
theorem dX4_goOneStep_39 : decode cX4_goOneStep 39 = .ok (.bipush 15, 2) := by decide +kernel
theorem dX4_goOneStep_41 : decode cX4_goOneStep 41 = .ok (.iand, 1) := by decide +kernel
theorem dX4_goOneStep_42 : decode cX4_goOneStep 42 = .ok (.iastore, 1) := by decide +kernel
theorem dX4_goOneStep_43 : decode cX4_goOneStep 43 = .ok (.aload_n 0, 1) := by decide +kernel
theorem dX4_goOneStep_44 : decode cX4_goOneStep 44 = .ok (.getfield 36, 3) := by decide +kernel
theorem dX4_goOneStep_47 : decode cX4_goOneStep 47 = .ok (.iload_n 1, 1) := by decide +kernel
theorem dX4_goOneStep_48 : decode cX4_goOneStep 48 = .ok (.aload_n 0, 1) := by decide +kernel
theorem dX4_goOneStep_49 : decode cX4_goOneStep 49 = .ok (.getfield 24, 3) := by decide +kernel
theorem dX4_goOneStep_52 : decode cX4_goOneStep 52 = .ok (.iload_n 1, 1) := by decide +kernel
theorem dX4_goOneStep_53 : decode cX4_goOneStep 53 = .ok (.iaload, 1) := by decide +kernel
theorem dX4_goOneStep_54 : decode cX4_goOneStep 54 = .ok (.aload_n 0, 1) := by decide +kernel
theorem dX4_goOneStep_55 : decode cX4_goOneStep 55 = .ok (.iload_n 1, 1) := by decide +kernel
theorem dX4_goOneStep_56 : decode cX4_goOneStep 56 = .ok (.invokevirtual 141, 3) := by decide +kernel
theorem dX4_goOneStep_59 : decode cX4_goOneStep 59 = .ok (.iadd, 1) := by decide +kernel
theorem dX4_goOneStep_60 : decode cX4_goOneStep 60 = .ok (.iconst 3, 1) := by decide +kernel
theorem dX4_goOneStep_61 : decode cX4_goOneStep 61 = .ok (.iand, 1) := by decide +kernel
theorem dX4_goOneStep_62 : decode cX4_goOneStep 62 = .ok (.iastore, 1) := by decide +kernel
theorem dX4_goOneStep_63 : decode cX4_goOneStep 63 = .ok (.iinc 1 1, 3) := by decide +kernel
theorem dX4_goOneStep_66 : decode cX4_goOneStep 66 = .ok (.goto (-60), 3) := by decide +kernel
theorem dX4_goOneStep_69 : decode cX4_goOneStep 69 = .ok (.iconst 0, 1) := by decide +kernel
theorem dX4_goOneStep_70 : decode cX4_goOneStep 70 = .ok (.istore_n 1, 1) := by decide +kernel
theorem dX4_goOneStep_71 : decode cX4_goOneStep 71 = .ok (.iload_n 1, 1) := by decide +kernel
theorem dX4_goOneStep_72 : decode cX4_goOneStep 72 = .ok (.aload_n 0, 1) := by decide +kernel
theorem dX4_goOneStep_73 : decode cX4_goOneStep 73 = .ok (.getfield 57, 3) := by decide +kernel
theorem dX4_goOneStep_76 : decode cX4_goOneStep 76 = .ok (.if_icmp .ge 46, 3) := by decide +kernel
theorem dX4_goOneStep_79 : decode cX4_goOneStep 79 = .ok (.aload_n 0, 1) := by decide +kernel
theorem dX4_goOneStep_80 : decode cX4_goOneStep 80 = .ok (.iload_n 1, 1) := by decide +kernel
theorem dX4_goOneStep_81 : decode cX4_goOneStep 81 = .ok (.invokevirtual 84, 3) := by decide +kernel
theorem dX4_goOneStep_84 : decode cX4_goOneStep 84 = .ok (.ifCond .ne 32, 3) := by decide +kernel
theorem dX4_goOneStep_87 : decode cX4_goOneStep 87 = .ok (.aload_n 0, 1) := by decide +kernel
theorem dX4_goOneStep_88 : decode cX4_goOneStep 88 = .ok (.getfield 21, 3) := by decide +kernel
theorem dX4_goOneStep_91 : decode cX4_goOneStep 91 = .ok (.iload_n 1, 1) := by decide +kernel
theorem dX4_goOneStep_92 : decode cX4_goOneStep 92 = .ok (.aload_n 0, 1) := by decide +kernel
theorem dX4_goOneStep_93 : decode cX4_goOneStep 93 = .ok (.getfield 33, 3) := by decide +kernel
theorem dX4_goOneStep_96 : decode cX4_goOneStep 96 = .ok (.iload_n 1, 1) := by decide +kernel
theorem dX4_goOneStep_97 : decode cX4_goOneStep 97 = .ok (.iaload, 1) := by decide +kernel
theorem dX4_goOneStep_98 : decode cX4_goOneStep 98 = .ok (.iastore, 1) := by decide +kernel
theorem dX4_goOneStep_99 : decode cX4_goOneStep 99 = .ok (.aload_n 0, 1) := by decide +kernel
theorem dX4_goOneStep_100 : decode cX4_goOneStep 100 = .ok (.getfield 24, 3) := by decide +kernel
theorem dX4_goOneStep_103 : decode cX4_goOneStep 103 = .ok (.iload_n 1, 1) := by decide +kernel
theorem dX4_goOneStep_104 : decode cX4_goOneStep 104 = .ok (.aload_n 0, 1) := by decide +kernel
theorem dX4_goOneStep_105 : decode cX4_goOneStep 105 = .ok (.getfield 36, 3) := by decide +kernel
theorem dX4_goOneStep_108 : decode cX4_goOneStep 108 = .ok (.iload_n 1, 1) := by decide +kernel
theorem dX4_goOneStep_109 : decode cX4_goOneStep 109 = .ok (.iaload, 1) := by decide +kernel
theorem dX4_goOneStep_110 : decode cX4_goOneStep 110 = .ok (.iastore, 1) := by decide +kernel
theorem dX4_goOneStep_111 : decode cX4_goOneStep 111 = .ok (.aload_n 0, 1) := by decide +kernel
theorem dX4_goOneStep_112 : decode cX4_goOneStep 112 = .ok (.iload_n 1, 1) := by decide +kernel
theorem dX4_goOneStep_113 : decode cX4_goOneStep 113 = .ok (.invokevirtual 144, 3) := by decide +kernel
theorem dX4_goOneStep_116 : decode cX4_goOneStep 116 = .ok (.iinc 1 1, 3) := by decide +kernel
theorem dX4_goOneStep_119 : decode cX4_goOneStep 119 = .ok (.goto (-48), 3) := by decide +kernel
theorem dX4_goOneStep_122 : decode cX4_goOneStep 122 = .ok (.aload_n 0, 1) := by decide +kernel
theorem dX4_goOneStep_123 : decode cX4_goOneStep 123 = .ok (.dup, 1) := by decide +kernel
theorem dX4_goOneStep_124 : decode cX4_goOneStep 124 = .ok (.getfield 60, 3) := by decide +kernel
theorem dX4_goOneStep_127 : decode cX4_goOneStep 127 = .ok (.iconst 1, 1) := by decide +kernel
theorem dX4_goOneStep_128 : decode cX4_goOneStep 128 = .ok (.iadd, 1) := by decide +kernel
theorem dX4_goOneStep_129 : decode cX4_goOneStep 129 = .ok (.putfield 60, 3) := by decide +kernel
theorem dX4_goOneStep_132 : decode cX4_goOneStep 132 = .ok (.return_, 1) := by decide +kernel
def zb_X4_goOneStep_116 (r71 : zj_K) (E : zj_E) (st : List Value) (m : zj_M) : zj_R := (zi_inc 1 1 r71) E st m
set_option maxRecDepth 20000 in
theorem zs_X4_goOneStep_116 {r71 : zj_K} (h71 : zj_KC cX4_goOneStep RX4 2 (5) none (0, fun _ => 0) 71 r71) : zj_KC cX4_goOneStep RX4 2 (5) none (0, fun _ => 0) 116 (zb_X4_goOneStep_116 r71) := (zr_inc dX4_goOneStep_116 rfl (zr_goto dX4_goOneStep_119 (tgt := 71) (by decide) h71))
def zb_X4_goOneStep_71 (r71 : zj_K) (E : zj_E) (st : List Value) (m : zj_M) : zj_R := (zi_ild 1 (zi_ald 0 (zi_gf 4 7 (zi_clt (zi_ald 0 (zi_ild 1 (zi_vc 4 1 zf_X4_isAway (zi_eq (zi_ald 0 (zi_gf 4 3 (zi_ild 1 (zi_ald 0 (zi_gf 4 14 (zi_ild 1 (zi_iald (zi_iast (zi_ald 0 (zi_gf 4 4 (zi_ild 1 (zi_ald 0 (zi_gf 4 15 (zi_ild 1 (zi_iald (zi_iast (zi_ald 0 (zi_ild 1 (zi_vc 4 1 zf_X4_handOver (zb_X4_goOneStep_116 r71) zi_no))))))))))))))))))) (zb_X4_goOneStep_116 r71)) zi_no))) (zi_ald 0 (zi_dup (zi_gf 4 8 (zi_push (.int 1) (zi_b (fun x y => x + y) (zi_pf 4 8 (zi_ret none))))))))))) E st m
set_option maxRecDepth 20000 in
theorem zs_X4_goOneStep_71 {r71 : zj_K} (h71 : zj_KC cX4_goOneStep RX4 2 (5) none (0, fun _ => 0) 71 r71) : zj_KC cX4_goOneStep RX4 2 (5) none (0, fun _ => 0) 71 (zb_X4_goOneStep_71 r71) := (zr_ildn dX4_goOneStep_71 rfl (zr_aldn dX4_goOneStep_72 rfl (zr_gf dX4_goOneStep_73 zfl_X4_57_4 (zr_icge dX4_goOneStep_76 (tgt := 122) (by decide) (zr_aldn dX4_goOneStep_122 rfl (zr_dup dX4_goOneStep_123 (zr_gf dX4_goOneStep_124 zfl_X4_60_4 (zr_iconst dX4_goOneStep_127 rfl (zr_iadd dX4_goOneStep_128 (zr_pf dX4_goOneStep_129 zfl_X4_60_4w (zr_ret dX4_goOneStep_132))))))) (zr_aldn dX4_goOneStep_79 rfl (zr_ildn dX4_goOneStep_80 rfl (zr_callV dX4_goOneStep_81 zm_X4_isAway ⟨⟨zq_606, zq_76⟩, by decide +kernel, by omega, by decide⟩ rfl rfl zq_603 zq_604 zq_605 (zr_ifne dX4_goOneStep_84 (tgt := 116) (by decide) (zs_X4_goOneStep_116 h71) (zr_aldn dX4_goOneStep_87 rfl (zr_gf dX4_goOneStep_88 zfl_X4_21_4 (zr_ildn dX4_goOneStep_91 rfl (zr_aldn dX4_goOneStep_92 rfl (zr_gf dX4_goOneStep_93 zfl_X4_33_4 (zr_ildn dX4_goOneStep_96 rfl (zr_iald dX4_goOneStep_97 (zr_iast dX4_goOneStep_98 (zr_aldn dX4_goOneStep_99 rfl (zr_gf dX4_goOneStep_100 zfl_X4_24_4 (zr_ildn dX4_goOneStep_103 rfl (zr_aldn dX4_goOneStep_104 rfl (zr_gf dX4_goOneStep_105 zfl_X4_36_4 (zr_ildn dX4_goOneStep_108 rfl (zr_iald dX4_goOneStep_109 (zr_iast dX4_goOneStep_110 (zr_aldn dX4_goOneStep_111 rfl (zr_ildn dX4_goOneStep_112 rfl (zr_callV dX4_goOneStep_113 zm_X4_handOver ⟨⟨zq_753, zq_76⟩, by decide +kernel, by omega, by decide⟩ rfl rfl zq_750 zq_752 zq_19 (zs_X4_goOneStep_116 h71) zr_no)))))))))))))))))))) zr_no)))))))
def zb_X4_goOneStep_63 (r6 : zj_K) (E : zj_E) (st : List Value) (m : zj_M) : zj_R := (zi_inc 1 1 r6) E st m
set_option maxRecDepth 20000 in
theorem zs_X4_goOneStep_63 {r6 : zj_K} (h6 : zj_KC cX4_goOneStep RX4 2 (5) none (0, fun _ => 0) 6 r6) : zj_KC cX4_goOneStep RX4 2 (5) none (0, fun _ => 0) 63 (zb_X4_goOneStep_63 r6) := (zr_inc dX4_goOneStep_63 rfl (zr_goto dX4_goOneStep_66 (tgt := 6) (by decide) h6))
def zb_X4_goOneStep_6 (r6 : zj_K) (E : zj_E) (st : List Value) (m : zj_M) : zj_R := (zi_ild 1 (zi_ald 0 (zi_gf 4 7 (zi_clt (zi_ald 0 (zi_ild 1 (zi_vc 4 1 zf_X4_isAway (zi_eq (zi_ald 0 (zi_gf 4 14 (zi_ild 1 (zi_ald 0 (zi_gf 4 3 (zi_ild 1 (zi_iald (zi_ald 0 (zi_ild 1 (zi_vc 4 1 zf_X4_paceOf (zi_b (fun x y => x + y) (zi_push (.int 15) (zi_b (fun x y => x &&& y) (zi_iast (zi_ald 0 (zi_gf 4 15 (zi_ild 1 (zi_ald 0 (zi_gf 4 4 (zi_ild 1 (zi_iald (zi_ald 0 (zi_ild 1 (zi_vc 4 1 zf_X4_swayOf (zi_b (fun x y => x + y) (zi_push (.int 3) (zi_b (fun x y => x &&& y) (zi_iast (zb_X4_goOneStep_63 r6))))) zi_no)))))))))))))) zi_no)))))))))) (zb_X4_goOneStep_63 r6)) zi_no))) (zi_push (.int 0) (zi_ist 1 (zj_lp (zb_X4_goOneStep_71) zj_fu))))))) E st m
set_option maxRecDepth 20000 in
theorem zs_X4_goOneStep_6 {r6 : zj_K} (h6 : zj_KC cX4_goOneStep RX4 2 (5) none (0, fun _ => 0) 6 r6) : zj_KC cX4_goOneStep RX4 2 (5) none (0, fun _ => 0) 6 (zb_X4_goOneStep_6 r6) := (zr_ildn dX4_goOneStep_6 rfl (zr_aldn dX4_goOneStep_7 rfl (zr_gf dX4_goOneStep_8 zfl_X4_57_4 (zr_icge dX4_goOneStep_11 (tgt := 69) (by decide) (zr_iconst dX4_goOneStep_69 rfl (zr_istn dX4_goOneStep_70 rfl (zr_lp (fun _ h => zs_X4_goOneStep_71 h) zj_fu))) (zr_aldn dX4_goOneStep_14 rfl (zr_ildn dX4_goOneStep_15 rfl (zr_callV dX4_goOneStep_16 zm_X4_isAway ⟨⟨zq_606, zq_76⟩, by decide +kernel, by omega, by decide⟩ rfl rfl zq_603 zq_604 zq_605 (zr_ifne dX4_goOneStep_19 (tgt := 63) (by decide) (zs_X4_goOneStep_63 h6) (zr_aldn dX4_goOneStep_22 rfl (zr_gf dX4_goOneStep_23 zfl_X4_33_4 (zr_ildn dX4_goOneStep_26 rfl (zr_aldn dX4_goOneStep_27 rfl (zr_gf dX4_goOneStep_28 zfl_X4_21_4 (zr_ildn dX4_goOneStep_31 rfl (zr_iald dX4_goOneStep_32 (zr_aldn dX4_goOneStep_33 rfl (zr_ildn dX4_goOneStep_34 rfl (zr_callV dX4_goOneStep_35 zm_X4_paceOf ⟨⟨zq_671, zq_76⟩, by decide +kernel, by omega, by decide⟩ rfl rfl zq_748 zq_669 zq_670 (zr_iadd dX4_goOneStep_38 (zr_bipush dX4_goOneStep_39 rfl (zr_iand dX4_goOneStep_41 (zr_iast dX4_goOneStep_42 (zr_aldn dX4_goOneStep_43 rfl (zr_gf dX4_goOneStep_44 zfl_X4_36_4 (zr_ildn dX4_goOneStep_47 rfl (zr_aldn dX4_goOneStep_48 rfl (zr_gf dX4_goOneStep_49 zfl_X4_24_4 (zr_ildn dX4_goOneStep_52 rfl (zr_iald dX4_goOneStep_53 (zr_aldn dX4_goOneStep_54 rfl (zr_ildn dX4_goOneStep_55 rfl (zr_callV dX4_goOneStep_56 zm_X4_swayOf ⟨⟨zq_622, zq_76⟩, by decide +kernel, by omega, by decide⟩ rfl rfl zq_749 zq_620 zq_621 (zr_iadd dX4_goOneStep_59 (zr_iconst dX4_goOneStep_60 rfl (zr_iand dX4_goOneStep_61 (zr_iast dX4_goOneStep_62 (zs_X4_goOneStep_63 h6))))) zr_no)))))))))))))) zr_no))))))))))) zr_no)))))))
def zb_X4_goOneStep_0 (E : zj_E) (st : List Value) (m : zj_M) : zj_R := (zi_ald 0 (zi_vc 4 0 zf_X4_lookAround (zi_push (.int 0) (zi_ist 1 (zj_lp (zb_X4_goOneStep_6) zj_fu))) zi_no)) E st m
set_option maxRecDepth 20000 in
theorem zs_X4_goOneStep_0 : zj_KC cX4_goOneStep RX4 2 (5) none (0, fun _ => 0) 0 (zb_X4_goOneStep_0) := (zr_aldn dX4_goOneStep_0 rfl (zr_callV dX4_goOneStep_1 zm_X4_lookAround ⟨⟨zq_602, zq_76⟩, by decide +kernel, by omega, by decide⟩ rfl rfl zq_747 zq_600 zq_601 (zr_iconst dX4_goOneStep_4 rfl (zr_istn dX4_goOneStep_5 rfl (zr_lp (fun _ h => zs_X4_goOneStep_6 h) zj_fu))) zr_no))
def zf_X4_goOneStep : zj_F := zj_run 2 zb_X4_goOneStep_0
theorem zm_X4_goOneStep : zj_MS 5 yX4_goOneStep cX4_goOneStep 2 none zf_X4_goOneStep := zj_met (own := RX4) rfl (by decide +kernel) (Or.inl rfl) (zs_X4_goOneStep_0)
theorem dX4_trouble_0 : decode cX4_trouble 0 = .ok (.iconst 0, 1) := by decide +kernel
theorem dX4_trouble_1 : decode cX4_trouble 1 = .ok (.istore_n 2, 1) := by decide +kernel
theorem dX4_trouble_2 : decode cX4_trouble 2 = .ok (.iconst 0, 1) := by decide +kernel
theorem dX4_trouble_3 : decode cX4_trouble 3 = .ok (.istore_n 3, 1) := by decide +kernel
theorem dX4_trouble_4 : decode cX4_trouble 4 = .ok (.iload_n 3, 1) := by decide +kernel
theorem dX4_trouble_5 : decode cX4_trouble 5 = .ok (.bipush 12, 2) := by decide +kernel
theorem dX4_trouble_7 : decode cX4_trouble 7 = .ok (.if_icmp .ge 25, 3) := by decide +kernel
theorem dX4_trouble_10 : decode cX4_trouble 10 = .ok (.iload_n 2, 1) := by decide +kernel
theorem dX4_trouble_11 : decode cX4_trouble 11 = .ok (.iload_n 1, 1) := by decide +kernel
theorem dX4_trouble_12 : decode cX4_trouble 12 = .ok (.if_icmp .ge 20, 3) := by decide +kernel
theorem dX4_trouble_15 : decode cX4_trouble 15 = .ok (.aload_n 0, 1) := by decide +kernel
theorem dX4_trouble_16 : decode cX4_trouble 16 = .ok (.invokevirtual 109, 3) := by decide +kernel
theorem dX4_trouble_19 : decode cX4_trouble 19 = .ok (.iload_n 2, 1) := by decide +kernel
theorem dX4_trouble_20 : decode cX4_trouble 20 = .ok (.aload_n 0, 1) := by decide +kernel
theorem dX4_trouble_21 : decode cX4_trouble 21 = .ok (.invokevirtual 112, 3) := by decide +kernel
theorem dX4_trouble_24 : decode cX4_trouble 24 = .ok (.iadd, 1) := by decide +kernel
theorem dX4_trouble_25 : decode cX4_trouble 25 = .ok (.istore_n 2, 1) := by decide +kernel
theorem dX4_trouble_26 : decode cX4_trouble 26 = .ok (.iinc 3 1, 3) := by decide +kernel
theorem dX4_trouble_29 : decode cX4_trouble 29 = .ok (.goto (-25), 3) := by decide +kernel
theorem dX4_trouble_32 : decode cX4_trouble 32 = .ok (.iload_n 2, 1) := by decide +kernel
theorem dX4_trouble_33 : decode cX4_trouble 33 = .ok (.ireturn, 1) := by decide +kernel
def zb_X4_trouble_32 (E : zj_E) (st : List Value) (m : zj_M) : zj_R := (zi_ild 2 (zi_ret (some .int))) E st m
set_option maxRecDepth 20000 in
theorem zs_X4_trouble_32 : zj_KC cX4_trouble RX4 4 (6) (some .int) (0, fun _ => 0) 32 (zb_X4_trouble_32) := (zr_ildn dX4_trouble_32 rfl (zr_ret dX4_trouble_33))
def zb_X4_trouble_4 (r4 : zj_K) (E : zj_E) (st : List Value) (m : zj_M) : zj_R := (zi_ild 3 (zi_push (.int 12) (zi_clt (zi_ild 2 (zi_ild 1 (zi_clt (zi_ald 0 (zi_vc 4 0 zf_X4_goOneStep (zi_ild 2 (zi_ald 0 (zi_vc 4 0 zf_X4_wrongOnes (zi_b (fun x y => x + y) (zi_ist 2 (zi_inc 3 1 r4))) zi_no))) zi_no)) zb_X4_trouble_32))) zb_X4_trouble_32))) E st m
set_option maxRecDepth 20000 in
theorem zs_X4_trouble_4 {r4 : zj_K} (h4 : zj_KC cX4_trouble RX4 4 (6) (some .int) (0, fun _ => 0) 4 r4) : zj_KC cX4_trouble RX4 4 (6) (some .int) (0, fun _ => 0) 4 (zb_X4_trouble_4 r4) := (zr_ildn dX4_trouble_4 rfl (zr_bipush dX4_trouble_5 rfl (zr_icge dX4_trouble_7 (tgt := 32) (by decide) (zs_X4_trouble_32) (zr_ildn dX4_trouble_10 rfl (zr_ildn dX4_trouble_11 rfl (zr_icge dX4_trouble_12 (tgt := 32) (by decide) (zs_X4_trouble_32) (zr_aldn dX4_trouble_15 rfl (zr_callV dX4_trouble_16 zm_X4_goOneStep ⟨⟨zq_746, zq_76⟩, by decide +kernel, by omega, by decide⟩ rfl rfl zq_743 zq_745 zq_18 (zr_ildn dX4_trouble_19 rfl (zr_aldn dX4_trouble_20 rfl (zr_callV dX4_trouble_21 zm_X4_wrongOnes ⟨⟨zq_724, zq_76⟩, by decide +kernel, by omega, by decide⟩ rfl rfl zq_755 zq_722 zq_723 (zr_iadd dX4_trouble_24 (zr_istn dX4_trouble_25 rfl (zr_inc dX4_trouble_26 rfl (zr_goto dX4_trouble_29 (tgt := 4) (by decide) h4)))) zr_no))) zr_no))))))))
def zb_X4_trouble_0 (E : zj_E) (st : List Value) (m : zj_M) : zj_R := (zi_push (.int 0) (zi_ist 2 (zi_push (.int 0) (zi_ist 3 (zj_lp (zb_X4_trouble_4) zj_fu))))) E st m
set_option maxRecDepth 20000 in
theorem zs_X4_trouble_0 : zj_KC cX4_trouble RX4 4 (6) (some .int) (0, fun _ => 0) 0 (zb_X4_trouble_0) := (zr_iconst dX4_trouble_0 rfl (zr_istn dX4_trouble_1 rfl (zr_iconst dX4_trouble_2 rfl (zr_istn dX4_trouble_3 rfl (zr_lp (fun _ h => zs_X4_trouble_4 h) zj_fu)))))
def zf_X4_trouble : zj_F := zj_run 4 zb_X4_trouble_0
theorem zm_X4_trouble : zj_MS 6 yX4_trouble cX4_trouble 4 (some .int) zf_X4_trouble := zj_met (own := RX4) rfl (by decide +kernel) (Or.inr (Or.inl rfl)) (zs_X4_trouble_0)
theorem dX4_isAsSeen_0 : decode cX4_isAsSeen 0 = .ok (.iconst 0, 1) := by decide +kernel
theorem dX4_isAsSeen_1 : decode cX4_isAsSeen 1 = .ok (.istore_n 2, 1) := by decide +kernel
theorem dX4_isAsSeen_2 : decode cX4_isAsSeen 2 = .ok (.iconst 0, 1) := by decide +kernel
theorem dX4_isAsSeen_3 : decode cX4_isAsSeen 3 = .ok (.istore_n 3, 1) := by decide +kernel
theorem dX4_isAsSeen_4 : decode cX4_isAsSeen 4 = .ok (.iload_n 3, 1) := by decide +kernel
theorem dX4_isAsSeen_5 : decode cX4_isAsSeen 5 = .ok (.aload_n 1, 1) := by decide +kernel
theorem dX4_isAsSeen_6 : decode cX4_isAsSeen 6 = .ok (.getfield 116, 3) := by decide +kernel
theorem dX4_isAsSeen_9 : decode cX4_isAsSeen 9 = .ok (.if_icmp .ge 20, 3) := by decide +kernel
theorem dX4_isAsSeen_12 : decode cX4_isAsSeen 12 = .ok (.iload_n 2, 1) := by decide +kernel
theorem dX4_isAsSeen_13 : decode cX4_isAsSeen 13 = .ok (.aload_n 1, 1) := by decide +kernel
theorem dX4_isAsSeen_14 : decode cX4_isAsSeen 14 = .ok (.getfield 119, 3) := by decide +kernel
theorem dX4_isAsSeen_17 : decode cX4_isAsSeen 17 = .ok (.iload_n 3, 1) := by decide +kernel
theorem dX4_isAsSeen_18 : decode cX4_isAsSeen 18 = .ok (.iaload, 1) := by decide +kernel
theorem dX4_isAsSeen_19 : decode cX4_isAsSeen 19 = .ok (.invokestatic 122, 3) := by decide +kernel
theorem dX4_isAsSeen_22 : decode cX4_isAsSeen 22 = .ok (.istore_n 2, 1) := by decide +kernel
theorem dX4_isAsSeen_23 : decode cX4_isAsSeen 23 = .ok (.iinc 3 1, 3) := by decide +kernel
theorem dX4_isAsSeen_26 : decode cX4_isAsSeen 26 = .ok (.goto (-22), 3) := by decide +kernel
theorem dX4_isAsSeen_29 : decode cX4_isAsSeen 29 = .ok (.iconst 0, 1) := by decide +kernel
theorem dX4_isAsSeen_30 : decode cX4_isAsSeen 30 = .ok (.istore_n 3, 1) := by decide +kernel
theorem dX4_isAsSeen_31 : decode cX4_isAsSeen 31 = .ok (.iload_n 3, 1) := by decide +kernel
theorem dX4_isAsSeen_32 : decode cX4_isAsSeen 32 = .ok (.iload_n 2, 1) := by decide +kernel
theorem dX4_isAsSeen_33 : decode cX4_isAsSeen 33 = .ok (.if_icmp .gt 78, 3) := by decide +kernel
theorem dX4_isAsSeen_36 : decode cX4_isAsSeen 36 = .ok (.iload_n 3, 1) := by decide +kernel
theorem dX4_isAsSeen_37 : decode cX4_isAsSeen 37 = .ok (.ifCond .le 7, 3) := by decide +kernel
theorem dX4_isAsSeen_40 : decode cX4_isAsSeen 40 = .ok (.aload_n 0, 1) := by decide +kernel
theorem dX4_isAsSeen_41 : decode cX4_isAsSeen 41 = .ok (.invokevirtual 109, 3) := by decide +kernel
theorem dX4_isAsSeen_44 : decode cX4_isAsSeen 44 = .ok (.iconst 0, 1) := by decide +kernel
theorem dX4_isAsSeen_45 : decode cX4_isAsSeen 45 = .ok (.istore 4, 2) := by decide +kernel
theorem dX4_isAsSeen_47 : decode cX4_isAsSeen 47 = .ok (.iload 4, 2) := by decide +kernel
theorem dX4_isAsSeen_49 : decode cX4_isAsSeen 49 = .ok (.aload_n 1, 1) := by decide +kernel
theorem dX4_isAsSeen_50 : decode cX4_isAsSeen 50 = .ok (.getfield 116, 3) := by decide +kernel
theorem dX4_isAsSeen_53 : decode cX4_isAsSeen 53 = .ok (.if_icmp .ge 52, 3) := by decide +kernel
theorem dX4_isAsSeen_56 : decode cX4_isAsSeen 56 = .ok (.aload_n 1, 1) := by decide +kernel
theorem dX4_isAsSeen_57 : decode cX4_isAsSeen 57 = .ok (.getfield 119, 3) := by decide +kernel
theorem dX4_isAsSeen_60 : decode cX4_isAsSeen 60 = .ok (.iload 4, 2) := by decide +kernel
theorem dX4_isAsSeen_62 : decode cX4_isAsSeen 62 = .ok (.iaload, 1) := by decide +kernel
theorem dX4_isAsSeen_63 : decode cX4_isAsSeen 63 = .ok (.iload_n 3, 1) := by decide +kernel
theorem dX4_isAsSeen_64 : decode cX4_isAsSeen 64 = .ok (.if_icmp .ne 35, 3) := by decide +kernel
theorem dX4_isAsSeen_67 : decode cX4_isAsSeen 67 = .ok (.aload_n 0, 1) := by decide +kernel
theorem dX4_isAsSeen_68 : decode cX4_isAsSeen 68 = .ok (.aload_n 1, 1) := by decide +kernel
theorem dX4_isAsSeen_69 : decode cX4_isAsSeen 69 = .ok (.getfield 128, 3) := by decide +kernel
theorem dX4_isAsSeen_72 : decode cX4_isAsSeen 72 = .ok (.iload 4, 2) := by decide +kernel
theorem dX4_isAsSeen_74 : decode cX4_isAsSeen 74 = .ok (.iaload, 1) := by decide +kernel
theorem dX4_isAsSeen_75 : decode cX4_isAsSeen 75 = .ok (.invokevirtual 106, 3) := by decide +kernel
theorem dX4_isAsSeen_78 : decode cX4_isAsSeen 78 = .ok (.aload_n 1, 1) := by decide +kernel
theorem dX4_isAsSeen_79 : decode cX4_isAsSeen 79 = .ok (.getfield 131, 3) := by decide +kernel
theorem dX4_isAsSeen_82 : decode cX4_isAsSeen 82 = .ok (.iload 4, 2) := by decide +kernel
theorem dX4_isAsSeen_84 : decode cX4_isAsSeen 84 = .ok (.iaload, 1) := by decide +kernel
theorem dX4_isAsSeen_85 : decode cX4_isAsSeen 85 = .ok (.iconst 1, 1) := by decide +kernel
theorem dX4_isAsSeen_86 : decode cX4_isAsSeen 86 = .ok (.if_icmp .ne 7, 3) := by decide +kernel
theorem dX4_isAsSeen_89 : decode cX4_isAsSeen 89 = .ok (.iconst 1, 1) := by decide +kernel
theorem dX4_isAsSeen_90 : decode cX4_isAsSeen 90 = .ok (.goto 4, 3) := by decide +kernel
theorem dX4_isAsSeen_93 : decode cX4_isAsSeen 93 = .ok (.iconst 0, 1) := by decide +kernel
theorem dX4_isAsSeen_94 : decode cX4_isAsSeen 94 = .ok (.if_icmp .eq 5, 3) := by decide +kernel
theorem dX4_isAsSeen_97 : decode cX4_isAsSeen 97 = .ok (.iconst 0, 1) := by decide +kernel
theorem dX4_isAsSeen_98 : decode cX4_isAsSeen 98 = .ok (.ireturn, 1) := by decide +kernel
theorem dX4_isAsSeen_99 : decode cX4_isAsSeen 99 = .ok (.iinc 4 1, 3) := by decide +kernel
theorem dX4_isAsSeen_102 : decode cX4_isAsSeen 102 = .ok (.goto (-55), 3) := by decide +kernel
theorem dX4_isAsSeen_105 : decode cX4_isAsSeen 105 = .ok (.iinc 3 1, 3) := by decide +kernel
theorem dX4_isAsSeen_108 : decode cX4_isAsSeen 108 = .ok (.goto (-77), 3) := by decide +kernel
theorem dX4_isAsSeen_111 : decode cX4_isAsSeen 111 = .ok (.iconst 1, 1) := by decide +kernel
theorem dX4_isAsSeen_112 : decode cX4_isAsSeen 112 = .ok (.ireturn, 1) := by decide +kernel
def zb_X4_isAsSeen_99 (r31 : zj_K) (r47 : zj_K) (E : zj_E) (st : List Value) (m : zj_M) : zj_R := (zi_inc 4 1 r47) E st m
set_option maxRecDepth 20000 in
theorem zs_X4_isAsSeen_99 {r31 : zj_K} (h31 : zj_KC cX4_isAsSeen RX4 5 (6) (some .boolean) (0, fun _ => 0) 31 r31) {r47 : zj_K} (h47 : zj_KC cX4_isAsSeen RX4 5 (6) (some .boolean) (0, fun _ => 0) 47 r47) : zj_KC cX4_isAsSeen RX4 5 (6) (some .boolean) (0, fun _ => 0) 99 (zb_X4_isAsSeen_99 r31 r47) := (zr_inc dX4_isAsSeen_99 rfl (zr_goto dX4_isAsSeen_102 (tgt := 47) (by decide) h47))
def zb_X4_isAsSeen_94 (r31 : zj_K) (r47 : zj_K) (E : zj_E) (st : List Value) (m : zj_M) : zj_R := (zi_ceq (zb_X4_isAsSeen_99 r31 r47) (zi_push (.int 0) (zi_ret (some .boolean)))) E st m
set_option maxRecDepth 20000 in
theorem zs_X4_isAsSeen_94 {r31 : zj_K} (h31 : zj_KC cX4_isAsSeen RX4 5 (6) (some .boolean) (0, fun _ => 0) 31 r31) {r47 : zj_K} (h47 : zj_KC cX4_isAsSeen RX4 5 (6) (some .boolean) (0, fun _ => 0) 47 r47) : zj_KC cX4_isAsSeen RX4 5 (6) (some .boolean) (0, fun _ => 0) 94 (zb_X4_isAsSeen_94 r31 r47) := (zr_iceq dX4_isAsSeen_94 (tgt := 99) (by decide) (zs_X4_isAsSeen_99 h31 h47) (zr_iconst dX4_isAsSeen_97 rfl (zr_ret dX4_isAsSeen_98)))
def zb_X4_isAsSeen_47 (r31 : zj_K) (r47 : zj_K) (E : zj_E) (st : List Value) (m : zj_M) : zj_R := (zi_ild 4 (zi_ald 1 (zi_gf 5 3 (zi_clt (zi_ald 1 (zi_gf 5 1 (zi_ild 4 (zi_iald (zi_ild 3 (zi_ceq (zi_ald 0 (zi_ald 1 (zi_gf 5 0 (zi_ild 4 (zi_iald (zi_vc 4 1 zf_X4_isWrong (zi_ald 1 (zi_gf 5 2 (zi_ild 4 (zi_iald (zi_push (.int 1) (zi_ceq (zi_push (.int 1) (zb_X4_isAsSeen_94 r31 r47)) (zi_push (.int 0) (zb_X4_isAsSeen_94 r31 r47)))))))) zi_no)))))) (zb_X4_isAsSeen_99 r31 r47))))))) (zi_inc 3 1 r31))))) E st m
set_option maxRecDepth 20000 in
theorem zs_X4_isAsSeen_47 {r31 : zj_K} (h31 : zj_KC cX4_isAsSeen RX4 5 (6) (some .boolean) (0, fun _ => 0) 31 r31) {r47 : zj_K} (h47 : zj_KC cX4_isAsSeen RX4 5 (6) (some .boolean) (0, fun _ => 0) 47 r47) : zj_KC cX4_isAsSeen RX4 5 (6) (some .boolean) (0, fun _ => 0) 47 (zb_X4_isAsSeen_47 r31 r47) := (zr_ild dX4_isAsSeen_47 (zr_aldn dX4_isAsSeen_49 rfl (zr_gf dX4_isAsSeen_50 zfl_X4_116_5 (zr_icge dX4_isAsSeen_53 (tgt := 105) (by decide) (zr_inc dX4_isAsSeen_105 rfl (zr_goto dX4_isAsSeen_108 (tgt := 31) (by decide) h31)) (zr_aldn dX4_isAsSeen_56 rfl (zr_gf dX4_isAsSeen_57 zfl_X4_119_5 (zr_ild dX4_isAsSeen_60 (zr_iald dX4_isAsSeen_62 (zr_ildn dX4_isAsSeen_63 rfl (zr_icne dX4_isAsSeen_64 (tgt := 99) (by decide) (zs_X4_isAsSeen_99 h31 h47) (zr_aldn dX4_isAsSeen_67 rfl (zr_aldn dX4_isAsSeen_68 rfl (zr_gf dX4_isAsSeen_69 zfl_X4_128_5 (zr_ild dX4_isAsSeen_72 (zr_iald dX4_isAsSeen_74 (zr_callV dX4_isAsSeen_75 zm_X4_isWrong ⟨⟨zq_614, zq_76⟩, by decide +kernel, by omega, by decide⟩ rfl rfl zq_725 zq_612 zq_613 (zr_aldn dX4_isAsSeen_78 rfl (zr_gf dX4_isAsSeen_79 zfl_X4_131_5 (zr_ild dX4_isAsSeen_82 (zr_iald dX4_isAsSeen_84 (zr_iconst dX4_isAsSeen_85 rfl (zr_icne dX4_isAsSeen_86 (tgt := 93) (by decide) (zr_iconst dX4_isAsSeen_93 rfl (zs_X4_isAsSeen_94 h31 h47)) (zr_iconst dX4_isAsSeen_89 rfl (zr_goto dX4_isAsSeen_90 (tgt := 94) (by decide) (zs_X4_isAsSeen_94 h31 h47))))))))) zr_no))))))))))))))))
def zb_X4_isAsSeen_44 (r31 : zj_K) (E : zj_E) (st : List Value) (m : zj_M) : zj_R := (zi_push (.int 0) (zi_ist 4 (zj_lp (zb_X4_isAsSeen_47 r31) zj_fu))) E st m
set_option maxRecDepth 20000 in
theorem zs_X4_isAsSeen_44 {r31 : zj_K} (h31 : zj_KC cX4_isAsSeen RX4 5 (6) (some .boolean) (0, fun _ => 0) 31 r31) : zj_KC cX4_isAsSeen RX4 5 (6) (some .boolean) (0, fun _ => 0) 44 (zb_X4_isAsSeen_44 r31) := (zr_iconst dX4_isAsSeen_44 rfl (zr_ist dX4_isAsSeen_45 (zr_lp (fun _ h => zs_X4_isAsSeen_47 h31 h) zj_fu)))
def zb_X4_isAsSeen_31 (r31 : zj_K) (E : zj_E) (st : List Value) (m : zj_M) : zj_R := (zi_ild 3 (zi_ild 2 (zi_cle (zi_ild 3 (zi_le (zb_X4_isAsSeen_44 r31) (zi_ald 0 (zi_vc 4 0 zf_X4_goOneStep (zb_X4_isAsSeen_44 r31) zi_no)))) (zi_push (.int 1) (zi_ret (some .boolean)))))) E st m
set_option maxRecDepth 20000 in
theorem zs_X4_isAsSeen_31 {r31 : zj_K} (h31 : zj_KC cX4_isAsSeen RX4 5 (6) (some .boolean) (0, fun _ => 0) 31 r31) : zj_KC cX4_isAsSeen RX4 5 (6) (some .boolean) (0, fun _ => 0) 31 (zb_X4_isAsSeen_31 r31) := (zr_ildn dX4_isAsSeen_31 rfl (zr_ildn dX4_isAsSeen_32 rfl (zr_icgt dX4_isAsSeen_33 (tgt := 111) (by decide) (zr_iconst dX4_isAsSeen_111 rfl (zr_ret dX4_isAsSeen_112)) (zr_ildn dX4_isAsSeen_36 rfl (zr_ifle dX4_isAsSeen_37 (tgt := 44) (by decide) (zs_X4_isAsSeen_44 h31) (zr_aldn dX4_isAsSeen_40 rfl (zr_callV dX4_isAsSeen_41 zm_X4_goOneStep ⟨⟨zq_746, zq_76⟩, by decide +kernel, by omega, by decide⟩ rfl rfl zq_743 zq_745 zq_18 (zs_X4_isAsSeen_44 h31) zr_no)))))))
def zb_X4_isAsSeen_4 (r4 : zj_K) (E : zj_E) (st : List Value) (m : zj_M) : zj_R := (zi_ild 3 (zi_ald 1 (zi_gf 5 3 (zi_clt (zi_ild 2 (zi_ald 1 (zi_gf 5 1 (zi_ild 3 (zi_iald (zi_mmax (zi_ist 2 (zi_inc 3 1 r4)))))))) (zi_push (.int 0) (zi_ist 3 (zj_lp (zb_X4_isAsSeen_31) zj_fu))))))) E st m
set_option maxRecDepth 20000 in
theorem zs_X4_isAsSeen_4 {r4 : zj_K} (h4 : zj_KC cX4_isAsSeen RX4 5 (6) (some .boolean) (0, fun _ => 0) 4 r4) : zj_KC cX4_isAsSeen RX4 5 (6) (some .boolean) (0, fun _ => 0) 4 (zb_X4_isAsSeen_4 r4) := (zr_ildn dX4_isAsSeen_4 rfl (zr_aldn dX4_isAsSeen_5 rfl (zr_gf dX4_isAsSeen_6 zfl_X4_116_5 (zr_icge dX4_isAsSeen_9 (tgt := 29) (by decide) (zr_iconst dX4_isAsSeen_29 rfl (zr_istn dX4_isAsSeen_30 rfl (zr_lp (fun _ h => zs_X4_isAsSeen_31 h) zj_fu))) (zr_ildn dX4_isAsSeen_12 rfl (zr_aldn dX4_isAsSeen_13 rfl (zr_gf dX4_isAsSeen_14 zfl_X4_119_5 (zr_ildn dX4_isAsSeen_17 rfl (zr_iald dX4_isAsSeen_18 (zr_mmax dX4_isAsSeen_19 zq_814 zq_506 zq_82 zq_507 (by omega) (zr_istn dX4_isAsSeen_22 rfl (zr_inc dX4_isAsSeen_23 rfl (zr_goto dX4_isAsSeen_26 (tgt := 4) (by decide) h4)))))))))))))
def zb_X4_isAsSeen_0 (E : zj_E) (st : List Value) (m : zj_M) : zj_R := (zi_push (.int 0) (zi_ist 2 (zi_push (.int 0) (zi_ist 3 (zj_lp (zb_X4_isAsSeen_4) zj_fu))))) E st m
set_option maxRecDepth 20000 in
theorem zs_X4_isAsSeen_0 : zj_KC cX4_isAsSeen RX4 5 (6) (some .boolean) (0, fun _ => 0) 0 (zb_X4_isAsSeen_0) := (zr_iconst dX4_isAsSeen_0 rfl (zr_istn dX4_isAsSeen_1 rfl (zr_iconst dX4_isAsSeen_2 rfl (zr_istn dX4_isAsSeen_3 rfl (zr_lp (fun _ h => zs_X4_isAsSeen_4 h) zj_fu)))))
def zf_X4_isAsSeen : zj_F := zj_run 5 zb_X4_isAsSeen_0
theorem zm_X4_isAsSeen : zj_MS 6 yX4_isAsSeen cX4_isAsSeen 5 (some .boolean) zf_X4_isAsSeen := zj_met (own := RX4) rfl (by decide +kernel) (Or.inr (Or.inr (Or.inl rfl))) (zs_X4_isAsSeen_0)
theorem dX4_goOn_0 : decode cX4_goOn 0 = .ok (.iconst 0, 1) := by decide +kernel
theorem dX4_goOn_1 : decode cX4_goOn 1 = .ok (.istore_n 2, 1) := by decide +kernel
theorem dX4_goOn_2 : decode cX4_goOn 2 = .ok (.iload_n 2, 1) := by decide +kernel
theorem dX4_goOn_3 : decode cX4_goOn 3 = .ok (.iload_n 1, 1) := by decide +kernel
theorem dX4_goOn_4 : decode cX4_goOn 4 = .ok (.if_icmp .ge 13, 3) := by decide +kernel
theorem dX4_goOn_7 : decode cX4_goOn 7 = .ok (.aload_n 0, 1) := by decide +kernel
theorem dX4_goOn_8 : decode cX4_goOn 8 = .ok (.invokevirtual 109, 3) := by decide +kernel
theorem dX4_goOn_11 : decode cX4_goOn 11 = .ok (.iinc 2 1, 3) := by decide +kernel
theorem dX4_goOn_14 : decode cX4_goOn 14 = .ok (.goto (-12), 3) := by decide +kernel
theorem dX4_goOn_17 : decode cX4_goOn 17 = .ok (.return_, 1) := by decide +kernel
def zb_X4_goOn_2 (r2 : zj_K) (E : zj_E) (st : List Value) (m : zj_M) : zj_R := (zi_ild 2 (zi_ild 1 (zi_clt (zi_ald 0 (zi_vc 4 0 zf_X4_goOneStep (zi_inc 2 1 r2) zi_no)) (zi_ret none)))) E st m
set_option maxRecDepth 20000 in
theorem zs_X4_goOn_2 {r2 : zj_K} (h2 : zj_KC cX4_goOn RX4 3 (6) none (0, fun _ => 0) 2 r2) : zj_KC cX4_goOn RX4 3 (6) none (0, fun _ => 0) 2 (zb_X4_goOn_2 r2) := (zr_ildn dX4_goOn_2 rfl (zr_ildn dX4_goOn_3 rfl (zr_icge dX4_goOn_4 (tgt := 17) (by decide) (zr_ret dX4_goOn_17) (zr_aldn dX4_goOn_7 rfl (zr_callV dX4_goOn_8 zm_X4_goOneStep ⟨⟨zq_746, zq_76⟩, by decide +kernel, by omega, by decide⟩ rfl rfl zq_743 zq_745 zq_18 (zr_inc dX4_goOn_11 rfl (zr_goto dX4_goOn_14 (tgt := 2) (by decide) h2)) zr_no)))))
def zb_X4_goOn_0 (E : zj_E) (st : List Value) (m : zj_M) : zj_R := (zi_push (.int 0) (zi_ist 2 (zj_lp (zb_X4_goOn_2) zj_fu))) E st m
set_option maxRecDepth 20000 in
theorem zs_X4_goOn_0 : zj_KC cX4_goOn RX4 3 (6) none (0, fun _ => 0) 0 (zb_X4_goOn_0) := (zr_iconst dX4_goOn_0 rfl (zr_istn dX4_goOn_1 rfl (zr_lp (fun _ h => zs_X4_goOn_2 h) zj_fu)))
def zf_X4_goOn : zj_F := zj_run 3 zb_X4_goOn_0
theorem zm_X4_goOn : zj_MS 6 yX4_goOn cX4_goOn 3 none zf_X4_goOn := zj_met (own := RX4) rfl (by decide +kernel) (Or.inl rfl) (zs_X4_goOn_0)
theorem dX5_isFull_0 : decode cX5_isFull 0 = .ok (.aload_n 0, 1) := by decide +kernel
theorem dX5_isFull_1 : decode cX5_isFull 1 = .ok (.getfield 19, 3) := by decide +kernel
theorem dX5_isFull_4 : decode cX5_isFull 4 = .ok (.aload_n 0, 1) := by decide +kernel
theorem dX5_isFull_5 : decode cX5_isFull 5 = .ok (.getfield 7, 3) := by decide +kernel
theorem dX5_isFull_8 : decode cX5_isFull 8 = .ok (.arraylength, 1) := by decide +kernel
theorem dX5_isFull_9 : decode cX5_isFull 9 = .ok (.if_icmp .lt 7, 3) := by decide +kernel
theorem dX5_isFull_12 : decode cX5_isFull 12 = .ok (.iconst 1, 1) := by decide +kernel
theorem dX5_isFull_13 : decode cX5_isFull 13 = .ok (.goto 4, 3) := by decide +kernel
theorem dX5_isFull_16 : decode cX5_isFull 16 = .ok (.iconst 0, 1) := by decide +kernel
theorem dX5_isFull_17 : decode cX5_isFull 17 = .ok (.ireturn, 1) := by decide +kernel
def zb_X5_isFull_17 (E : zj_E) (st : List Value) (m : zj_M) : zj_R := (zi_ret (some .boolean)) E st m
set_option maxRecDepth 20000 in
theorem zs_X5_isFull_17 : zj_KC cX5_isFull RX5 1 (0) (some .boolean) (0, fun _ => 0) 17 (zb_X5_isFull_17) := (zr_ret dX5_isFull_17)
def zb_X5_isFull_0 (E : zj_E) (st : List Value) (m : zj_M) : zj_R := (zi_ald 0 (zi_gf 5 3 (zi_ald 0 (zi_gf 5 0 (zi_alen (zi_clt (zi_push (.int 0) zb_X5_isFull_17) (zi_push (.int 1) zb_X5_isFull_17))))))) E st m
set_option maxRecDepth 20000 in
theorem zs_X5_isFull_0 : zj_KC cX5_isFull RX5 1 (0) (some .boolean) (0, fun _ => 0) 0 (zb_X5_isFull_0) := (zr_aldn dX5_isFull_0 rfl (zr_gf dX5_isFull_1 zfl_X5_19_5 (zr_aldn dX5_isFull_4 rfl (zr_gf dX5_isFull_5 zfl_X5_7_5 (zr_alen dX5_isFull_8 (zr_iclt dX5_isFull_9 (tgt := 16) (by decide) (zr_iconst dX5_isFull_16 rfl (zs_X5_isFull_17)) (zr_iconst dX5_isFull_12 rfl (zr_goto dX5_isFull_13 (tgt := 17) (by decide) (zs_X5_isFull_17)))))))))
def zf_X5_isFull : zj_F := zj_run 1 zb_X5_isFull_0
theorem zm_X5_isFull : zj_MS 0 yX5_isFull cX5_isFull 1 (some .boolean) zf_X5_isFull := zj_met (own := RX5) rfl (by decide +kernel) (Or.inr (Or.inr (Or.inl rfl))) (zs_X5_isFull_0)
theorem dX5_clear_0 : decode cX5_clear 0 = .ok (.aload_n 0, 1) := by decide +kernel
theorem dX5_clear_1 : decode cX5_clear 1 = .ok (.iconst 0, 1) := by decide +kernel
theorem dX5_clear_2 : decode cX5_clear 2 = .ok (.putfield 19, 3) := by decide +kernel
theorem dX5_clear_5 : decode cX5_clear 5 = .ok (.return_, 1) := by decide +kernel
def zb_X5_clear_0 (E : zj_E) (st : List Value) (m : zj_M) : zj_R := (zi_ald 0 (zi_push (.int 0) (zi_pf 5 3 (zi_ret none)))) E st m
set_option maxRecDepth 20000 in
theorem zs_X5_clear_0 : zj_KC cX5_clear RX5 1 (0) none (0, fun _ => 0) 0 (zb_X5_clear_0) := (zr_aldn dX5_clear_0 rfl (zr_iconst dX5_clear_1 rfl (zr_pf dX5_clear_2 zfl_X5_19_5w (zr_ret dX5_clear_5))))
def zf_X5_clear : zj_F := zj_run 1 zb_X5_clear_0
theorem zm_X5_clear : zj_MS 0 yX5_clear cX5_clear 1 none zf_X5_clear := zj_met (own := RX5) rfl (by decide +kernel) (Or.inl rfl) (zs_X5_clear_0)
theorem dX5_copyFrom_0 : decode cX5_copyFrom 0 = .ok (.aload_n 1, 1) := by decide +kernel
theorem dX5_copyFrom_1 : decode cX5_copyFrom 1 = .ok (.getfield 7, 3) := by decide +kernel
theorem dX5_copyFrom_4 : decode cX5_copyFrom 4 = .ok (.aload_n 0, 1) := by decide +kernel
theorem dX5_copyFrom_5 : decode cX5_copyFrom 5 = .ok (.getfield 7, 3) := by decide +kernel
theorem dX5_copyFrom_8 : decode cX5_copyFrom 8 = .ok (.invokestatic 23, 3) := by decide +kernel
theorem dX5_copyFrom_11 : decode cX5_copyFrom 11 = .ok (.aload_n 1, 1) := by decide +kernel
theorem dX5_copyFrom_12 : decode cX5_copyFrom 12 = .ok (.getfield 13, 3) := by decide +kernel
theorem dX5_copyFrom_15 : decode cX5_copyFrom 15 = .ok (.aload_n 0, 1) := by decide +kernel
theorem dX5_copyFrom_16 : decode cX5_copyFrom 16 = .ok (.getfield 13, 3) := by decide +kernel
theorem dX5_copyFrom_19 : decode cX5_copyFrom 19 = .ok (.invokestatic 23, 3) := by decide +kernel
theorem dX5_copyFrom_22 : decode cX5_copyFrom 22 = .ok (.aload_n 1, 1) := by decide +kernel
theorem dX5_copyFrom_23 : decode cX5_copyFrom 23 = .ok (.getfield 16, 3) := by decide +kernel
theorem dX5_copyFrom_26 : decode cX5_copyFrom 26 = .ok (.aload_n 0, 1) := by decide +kernel
theorem dX5_copyFrom_27 : decode cX5_copyFrom 27 = .ok (.getfield 16, 3) := by decide +kernel
theorem dX5_copyFrom_30 : decode cX5_copyFrom 30 = .ok (.invokestatic 23, 3) := by decide +kernel
theorem dX5_copyFrom_33 : decode cX5_copyFrom 33 = .ok (.aload_n 0, 1) := by decide +kernel
theorem dX5_copyFrom_34 : decode cX5_copyFrom 34 = .ok (.aload_n 1, 1) := by decide +kernel
theorem dX5_copyFrom_35 : decode cX5_copyFrom 35 = .ok (.getfield 19, 3) := by decide +kernel
theorem dX5_copyFrom_38 : decode cX5_copyFrom 38 = .ok (.putfield 19, 3) := by decide +kernel
theorem dX5_copyFrom_41 : decode cX5_copyFrom 41 = .ok (.return_, 1) := by decide +kernel
def zb_X5_copyFrom_0 (E : zj_E) (st : List Value) (m : zj_M) : zj_R := (zi_ald 1 (zi_gf 5 0 (zi_ald 0 (zi_gf 5 0 (zi_call 2 zf_X5_copy (zi_ald 1 (zi_gf 5 1 (zi_ald 0 (zi_gf 5 1 (zi_call 2 zf_X5_copy (zi_ald 1 (zi_gf 5 2 (zi_ald 0 (zi_gf 5 2 (zi_call 2 zf_X5_copy (zi_ald 0 (zi_ald 1 (zi_gf 5 3 (zi_pf 5 3 (zi_ret none)))))))))))))))))))) E st m
set_option maxRecDepth 20000 in
theorem zs_X5_copyFrom_0 : zj_KC cX5_copyFrom RX5 2 (2) none (0, fun _ => 0) 0 (zb_X5_copyFrom_0) := (zr_aldn dX5_copyFrom_0 rfl (zr_gf dX5_copyFrom_1 zfl_X5_7_5 (zr_aldn dX5_copyFrom_4 rfl (zr_gf dX5_copyFrom_5 zfl_X5_7_5 (zr_callS dX5_copyFrom_8 zm_X5_copy ⟨⟨zq_560, zq_66⟩, by decide +kernel, by omega, by decide⟩ zq_966 zq_559 (zr_aldn dX5_copyFrom_11 rfl (zr_gf dX5_copyFrom_12 zfl_X5_13_5 (zr_aldn dX5_copyFrom_15 rfl (zr_gf dX5_copyFrom_16 zfl_X5_13_5 (zr_callS dX5_copyFrom_19 zm_X5_copy ⟨⟨zq_560, zq_66⟩, by decide +kernel, by omega, by decide⟩ zq_966 zq_559 (zr_aldn dX5_copyFrom_22 rfl (zr_gf dX5_copyFrom_23 zfl_X5_16_5 (zr_aldn dX5_copyFrom_26 rfl (zr_gf dX5_copyFrom_27 zfl_X5_16_5 (zr_callS dX5_copyFrom_30 zm_X5_copy ⟨⟨zq_560, zq_66⟩, by decide +kernel, by omega, by decide⟩ zq_966 zq_559 (zr_aldn dX5_copyFrom_33 rfl (zr_aldn dX5_copyFrom_34 rfl (zr_gf dX5_copyFrom_35 zfl_X5_19_5 (zr_pf dX5_copyFrom_38 zfl_X5_19_5w (zr_ret dX5_copyFrom_41))))))))))))))))))))
def zf_X5_copyFrom : zj_F := zj_run 2 zb_X5_copyFrom_0
theorem zm_X5_copyFrom : zj_MS 2 yX5_copyFrom cX5_copyFrom 2 none zf_X5_copyFrom := zj_met (own := RX5) rfl (by decide +kernel) (Or.inl rfl) (zs_X5_copyFrom_0)
