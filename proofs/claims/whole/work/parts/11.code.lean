theorem dX2_take_0 : decode cX2_take 0 = .ok (.aload_n 0, 1) := by decide +kernel
theorem dX2_take_1 : decode cX2_take 1 = .ok (.getfield 62, 3) := by decide +kernel
theorem dX2_take_4 : decode cX2_take 4 = .ok (.iload_n 1, 1) := by decide +kernel
theorem dX2_take_5 : decode cX2_take 5 = .ok (.if_icmp .ne 10, 3) := by decide +kernel
theorem dX2_take_8 : decode cX2_take 8 = .ok (.aload_n 0, 1) := by decide +kernel
theorem dX2_take_9 : decode cX2_take 9 = .ok (.invokevirtual 51, 3) := by decide +kernel
theorem dX2_take_12 : decode cX2_take 12 = .ok (.goto 7, 3) := by decide +kernel
theorem dX2_take_15 : decode cX2_take 15 = .ok (.aload_n 0, 1) := by decide +kernel
theorem dX2_take_16 : decode cX2_take 16 = .ok (.invokevirtual 108, 3) := by decide +kernel
theorem dX2_take_19 : decode cX2_take 19 = .ok (.return_, 1) := by decide +kernel
def zb_X2_take_19 (E : zj_E) (st : List Value) (m : zj_M) : zj_R := (zi_ret none) E st m
set_option maxRecDepth 20000 in
theorem zs_X2_take_19 : zj_KC cX2_take RX2 2 (1) none (0, fun _ => 0) 19 (zb_X2_take_19) := (zr_ret dX2_take_19)
def zb_X2_take_0 (E : zj_E) (st : List Value) (m : zj_M) : zj_R := (zi_ald 0 (zi_gf 2 9 (zi_ild 1 (zi_ceq (zi_ald 0 (zi_vc 2 0 zf_X2_next zb_X2_take_19 zi_no)) (zi_ald 0 (zi_vc 2 0 zf_X2_fail zb_X2_take_19 zi_no)))))) E st m
set_option maxRecDepth 20000 in
theorem zs_X2_take_0 : zj_KC cX2_take RX2 2 (1) none (0, fun _ => 0) 0 (zb_X2_take_0) := (zr_aldn dX2_take_0 rfl (zr_gf dX2_take_1 zfl_X2_62_2 (zr_ildn dX2_take_4 rfl (zr_icne dX2_take_5 (tgt := 15) (by decide) (zr_aldn dX2_take_15 rfl (zr_callV dX2_take_16 zm_X2_fail ⟨⟨zq_454, zq_74⟩, by decide +kernel, by omega, by decide⟩ rfl rfl zq_451 zq_453 zq_4 (zs_X2_take_19) zr_no)) (zr_aldn dX2_take_8 rfl (zr_callV dX2_take_9 zm_X2_next ⟨⟨zq_389, zq_74⟩, by decide +kernel, by omega, by decide⟩ rfl rfl zq_386 zq_388 zq_0 (zr_goto dX2_take_12 (tgt := 19) (by decide) (zs_X2_take_19)) zr_no))))))
def zf_X2_take : zj_F := zj_run 2 zb_X2_take_0
theorem zm_X2_take : zj_MS 1 yX2_take cX2_take 2 none zf_X2_take := zj_met (own := RX2) rfl (by decide +kernel) (Or.inl rfl) (zs_X2_take_0)
theorem dX2_takeWord_0 : decode cX2_takeWord 0 = .ok (.iconst 0, 1) := by decide +kernel
theorem dX2_takeWord_1 : decode cX2_takeWord 1 = .ok (.istore_n 2, 1) := by decide +kernel
theorem dX2_takeWord_2 : decode cX2_takeWord 2 = .ok (.iload_n 2, 1) := by decide +kernel
theorem dX2_takeWord_3 : decode cX2_takeWord 3 = .ok (.aload_n 1, 1) := by decide +kernel
theorem dX2_takeWord_4 : decode cX2_takeWord 4 = .ok (.invokevirtual 103, 3) := by decide +kernel
theorem dX2_takeWord_7 : decode cX2_takeWord 7 = .ok (.if_icmp .ge 18, 3) := by decide +kernel
theorem dX2_takeWord_10 : decode cX2_takeWord 10 = .ok (.aload_n 0, 1) := by decide +kernel
theorem dX2_takeWord_11 : decode cX2_takeWord 11 = .ok (.aload_n 1, 1) := by decide +kernel
theorem dX2_takeWord_12 : decode cX2_takeWord 12 = .ok (.iload_n 2, 1) := by decide +kernel
theorem dX2_takeWord_13 : decode cX2_takeWord 13 = .ok (.invokevirtual 119, 3) := by decide +kernel
theorem dX2_takeWord_16 : decode cX2_takeWord 16 = .ok (.invokevirtual 58, 3) := by decide +kernel
theorem dX2_takeWord_19 : decode cX2_takeWord 19 = .ok (.iinc 2 1, 3) := by decide +kernel
theorem dX2_takeWord_22 : decode cX2_takeWord 22 = .ok (.goto (-20), 3) := by decide +kernel
theorem dX2_takeWord_25 : decode cX2_takeWord 25 = .ok (.return_, 1) := by decide +kernel
def zb_X2_takeWord_2 (r2 : zj_K) (E : zj_E) (st : List Value) (m : zj_M) : zj_R := (zi_ild 2 (zi_ald 1 (zi_sc 0 zf_J0_length_8abf5 (zi_clt (zi_ald 0 (zi_ald 1 (zi_ild 2 (zi_sc 1 zf_J0_charAt_5068e (zi_vc 2 1 zf_X2_take (zi_inc 2 1 r2) zi_no))))) (zi_ret none))))) E st m
set_option maxRecDepth 20000 in
theorem zs_X2_takeWord_2 {r2 : zj_K} (h2 : zj_KC cX2_takeWord RX2 3 (13) none (0, fun _ => 0) 2 r2) : zj_KC cX2_takeWord RX2 3 (13) none (0, fun _ => 0) 2 (zb_X2_takeWord_2 r2) := (zr_ildn dX2_takeWord_2 rfl (zr_aldn dX2_takeWord_3 rfl (zr_sc dX2_takeWord_4 zm_J0_length_8abf5 ⟨⟨zq_402, zq_78⟩, by decide +kernel, by omega, by decide⟩ rfl zq_399 zq_400 zq_401 (zr_icge dX2_takeWord_7 (tgt := 25) (by decide) (zr_ret dX2_takeWord_25) (zr_aldn dX2_takeWord_10 rfl (zr_aldn dX2_takeWord_11 rfl (zr_ildn dX2_takeWord_12 rfl (zr_sc dX2_takeWord_13 zm_J0_charAt_5068e ⟨⟨zq_412, zq_78⟩, by decide +kernel, by omega, by decide⟩ rfl zq_409 zq_410 zq_411 (zr_callV dX2_takeWord_16 zm_X2_take ⟨⟨zq_450, zq_74⟩, by decide +kernel, by omega, by decide⟩ rfl rfl zq_447 zq_449 zq_3 (zr_inc dX2_takeWord_19 rfl (zr_goto dX2_takeWord_22 (tgt := 2) (by decide) h2)) zr_no)))))))))
def zb_X2_takeWord_0 (E : zj_E) (st : List Value) (m : zj_M) : zj_R := (zi_push (.int 0) (zi_ist 2 (zj_lp (zb_X2_takeWord_2) zj_fu))) E st m
set_option maxRecDepth 20000 in
theorem zs_X2_takeWord_0 : zj_KC cX2_takeWord RX2 3 (13) none (0, fun _ => 0) 0 (zb_X2_takeWord_0) := (zr_iconst dX2_takeWord_0 rfl (zr_istn dX2_takeWord_1 rfl (zr_lp (fun _ h => zs_X2_takeWord_2 h) zj_fu)))
def zf_X2_takeWord : zj_F := zj_run 3 zb_X2_takeWord_0
theorem zm_X2_takeWord : zj_MS 13 yX2_takeWord cX2_takeWord 3 none zf_X2_takeWord := zj_met (own := RX2) rfl (by decide +kernel) (Or.inl rfl) (zs_X2_takeWord_0)
theorem dX2_readClause_0 : decode cX2_readClause 0 = .ok (.aload_n 0, 1) := by decide +kernel
theorem dX2_readClause_1 : decode cX2_readClause 1 = .ok (.getfield 62, 3) := by decide +kernel
theorem dX2_readClause_4 : decode cX2_readClause 4 = .ok (.bipush 114, 2) := by decide +kernel
theorem dX2_readClause_6 : decode cX2_readClause 6 = .ok (.if_icmp .ne 18, 3) := by decide +kernel
theorem dX2_readClause_9 : decode cX2_readClause 9 = .ok (.aload_n 0, 1) := by decide +kernel
theorem dX2_readClause_10 : decode cX2_readClause 10 = .ok (.ldc 65, 2) := by decide +kernel
theorem dX2_readClause_12 : decode cX2_readClause 12 = .ok (.invokevirtual 67, 3) := by decide +kernel
theorem dX2_readClause_15 : decode cX2_readClause 15 = .ok (.aload_n 0, 1) := by decide +kernel
theorem dX2_readClause_16 : decode cX2_readClause 16 = .ok (.aload_n 0, 1) := by decide +kernel
theorem dX2_readClause_17 : decode cX2_readClause 17 = .ok (.invokevirtual 71, 3) := by decide +kernel
theorem dX2_readClause_20 : decode cX2_readClause 20 = .ok (.putfield 34, 3) := by decide +kernel
theorem dX2_readClause_23 : decode cX2_readClause 23 = .ok (.return_, 1) := by decide +kernel
theorem dX2_readClause_24 : decode cX2_readClause 24 = .ok (.aload_n 0, 1) := by decide +kernel
theorem dX2_readClause_25 : decode cX2_readClause 25 = .ok (.getfield 62, 3) := by decide +kernel
theorem dX2_readClause_28 : decode cX2_readClause 28 = .ok (.bipush 115, 2) := by decide +kernel
theorem dX2_readClause_30 : decode cX2_readClause 30 = .ok (.if_icmp .ne 7, 3) := by decide +kernel
theorem dX2_readClause_33 : decode cX2_readClause 33 = .ok (.iconst 1, 1) := by decide +kernel
theorem dX2_readClause_34 : decode cX2_readClause 34 = .ok (.goto 4, 3) := by decide +kernel
theorem dX2_readClause_37 : decode cX2_readClause 37 = .ok (.iconst 0, 1) := by decide +kernel
theorem dX2_readClause_38 : decode cX2_readClause 38 = .ok (.istore_n 1, 1) := by decide +kernel
theorem dX2_readClause_39 : decode cX2_readClause 39 = .ok (.aload_n 0, 1) := by decide +kernel
theorem dX2_readClause_40 : decode cX2_readClause 40 = .ok (.iload_n 1, 1) := by decide +kernel
theorem dX2_readClause_41 : decode cX2_readClause 41 = .ok (.ifCond .eq 8, 3) := by decide +kernel
theorem dX2_readClause_44 : decode cX2_readClause 44 = .ok (.ldc 75, 2) := by decide +kernel
theorem dX2_readClause_46 : decode cX2_readClause 46 = .ok (.goto 5, 3) := by decide +kernel
theorem dX2_readClause_49 : decode cX2_readClause 49 = .ok (.ldc 77, 2) := by decide +kernel
theorem dX2_readClause_51 : decode cX2_readClause 51 = .ok (.invokevirtual 67, 3) := by decide +kernel
theorem dX2_readClause_54 : decode cX2_readClause 54 = .ok (.aload_n 0, 1) := by decide +kernel
theorem dX2_readClause_55 : decode cX2_readClause 55 = .ok (.invokevirtual 71, 3) := by decide +kernel
theorem dX2_readClause_58 : decode cX2_readClause 58 = .ok (.istore_n 2, 1) := by decide +kernel
theorem dX2_readClause_59 : decode cX2_readClause 59 = .ok (.aload_n 0, 1) := by decide +kernel
theorem dX2_readClause_60 : decode cX2_readClause 60 = .ok (.bipush 32, 2) := by decide +kernel
theorem dX2_readClause_62 : decode cX2_readClause 62 = .ok (.invokevirtual 58, 3) := by decide +kernel
theorem dX2_readClause_65 : decode cX2_readClause 65 = .ok (.aload_n 0, 1) := by decide +kernel
theorem dX2_readClause_66 : decode cX2_readClause 66 = .ok (.iconst 0, 1) := by decide +kernel
theorem dX2_readClause_67 : decode cX2_readClause 67 = .ok (.invokevirtual 79, 3) := by decide +kernel
theorem dX2_readClause_70 : decode cX2_readClause 70 = .ok (.aload_n 0, 1) := by decide +kernel
theorem dX2_readClause_71 : decode cX2_readClause 71 = .ok (.iload_n 1, 1) := by decide +kernel
theorem dX2_readClause_72 : decode cX2_readClause 72 = .ok (.ifCond .eq 8, 3) := by decide +kernel
theorem dX2_readClause_75 : decode cX2_readClause 75 = .ok (.bipush 21, 2) := by decide +kernel
theorem dX2_readClause_77 : decode cX2_readClause 77 = .ok (.goto 5, 3) := by decide +kernel
theorem dX2_readClause_80 : decode cX2_readClause 80 = .ok (.bipush 22, 2) := by decide +kernel
theorem dX2_readClause_82 : decode cX2_readClause 82 = .ok (.iload_n 2, 1) := by decide +kernel
theorem dX2_readClause_83 : decode cX2_readClause 83 = .ok (.invokevirtual 82, 3) := by decide +kernel
theorem dX2_readClause_86 : decode cX2_readClause 86 = .ok (.return_, 1) := by decide +kernel
def zb_X2_readClause_82 (E : zj_E) (st : List Value) (m : zj_M) : zj_R := (zi_ild 2 (zi_vc 2 2 zf_X2_write (zi_ret none) zi_no)) E st m
set_option maxRecDepth 20000 in
theorem zs_X2_readClause_82 : zj_KC cX2_readClause RX2 3 (55) none (0, fun _ => 0) 82 (zb_X2_readClause_82) := (zr_ildn dX2_readClause_82 rfl (zr_callV dX2_readClause_83 zm_X2_write ⟨⟨zq_484, zq_74⟩, by decide +kernel, by omega, by decide⟩ rfl rfl zq_481 zq_483 zq_11 (zr_ret dX2_readClause_86) zr_no))
def zb_X2_readClause_51 (E : zj_E) (st : List Value) (m : zj_M) : zj_R := (zi_vc 2 1 zf_X2_takeWord (zi_ald 0 (zi_vc 2 0 zf_X2_readNumber (zi_ist 2 (zi_ald 0 (zi_push (.int 32) (zi_vc 2 1 zf_X2_take (zi_ald 0 (zi_push (.int 0) (zi_vc 2 1 zf_X2_readEither (zi_ald 0 (zi_ild 1 (zi_eq (zi_push (.int 22) zb_X2_readClause_82) (zi_push (.int 21) zb_X2_readClause_82)))) zi_no))) zi_no)))) zi_no)) zi_no) E st m
set_option maxRecDepth 20000 in
theorem zs_X2_readClause_51 : zj_KC cX2_readClause RX2 3 (55) none (0, fun _ => 0) 51 (zb_X2_readClause_51) := (zr_callV dX2_readClause_51 zm_X2_takeWord ⟨⟨zq_398, zq_74⟩, by decide +kernel, by omega, by decide⟩ rfl rfl zq_395 zq_397 zq_2 (zr_aldn dX2_readClause_54 rfl (zr_callV dX2_readClause_55 zm_X2_readNumber ⟨⟨zq_458, zq_74⟩, by decide +kernel, by omega, by decide⟩ rfl rfl zq_455 zq_457 zq_5 (zr_istn dX2_readClause_58 rfl (zr_aldn dX2_readClause_59 rfl (zr_bipush dX2_readClause_60 rfl (zr_callV dX2_readClause_62 zm_X2_take ⟨⟨zq_450, zq_74⟩, by decide +kernel, by omega, by decide⟩ rfl rfl zq_447 zq_449 zq_3 (zr_aldn dX2_readClause_65 rfl (zr_iconst dX2_readClause_66 rfl (zr_callV dX2_readClause_67 zm_X2_readEither ⟨⟨zq_468, zq_74⟩, by decide +kernel, by omega, by decide⟩ rfl rfl zq_465 zq_467 zq_7 (zr_aldn dX2_readClause_70 rfl (zr_ildn dX2_readClause_71 rfl (zr_ifeq dX2_readClause_72 (tgt := 80) (by decide) (zr_bipush dX2_readClause_80 rfl (zs_X2_readClause_82)) (zr_bipush dX2_readClause_75 rfl (zr_goto dX2_readClause_77 (tgt := 82) (by decide) (zs_X2_readClause_82)))))) zr_no))) zr_no)))) zr_no)) zr_no)
def zb_X2_readClause_38 (E : zj_E) (st : List Value) (m : zj_M) : zj_R := (zi_ist 1 (zi_ald 0 (zi_ild 1 (zi_eq (zi_push (.ref (1000 + 2)) zb_X2_readClause_51) (zi_push (.ref (1000 + 1)) zb_X2_readClause_51))))) E st m
set_option maxRecDepth 20000 in
theorem zs_X2_readClause_38 : zj_KC cX2_readClause RX2 3 (55) none (0, fun _ => 0) 38 (zb_X2_readClause_38) := (zr_istn dX2_readClause_38 rfl (zr_aldn dX2_readClause_39 rfl (zr_ildn dX2_readClause_40 rfl (zr_ifeq dX2_readClause_41 (tgt := 49) (by decide) (zr_ldcS (tx := "calm ") dX2_readClause_49 (by decide +kernel) (zs_X2_readClause_51)) (zr_ldcS (tx := "stir ") dX2_readClause_44 (by decide +kernel) (zr_goto dX2_readClause_46 (tgt := 51) (by decide) (zs_X2_readClause_51)))))))
def zb_X2_readClause_0 (E : zj_E) (st : List Value) (m : zj_M) : zj_R := (zi_ald 0 (zi_gf 2 9 (zi_push (.int 114) (zi_ceq (zi_ald 0 (zi_push (.ref (1000 + 0)) (zi_vc 2 1 zf_X2_takeWord (zi_ald 0 (zi_ald 0 (zi_vc 2 0 zf_X2_readNumber (zi_pf 2 0 (zi_ret none)) zi_no))) zi_no))) (zi_ald 0 (zi_gf 2 9 (zi_push (.int 115) (zi_ceq (zi_push (.int 1) zb_X2_readClause_38) (zi_push (.int 0) zb_X2_readClause_38))))))))) E st m
set_option maxRecDepth 20000 in
theorem zs_X2_readClause_0 : zj_KC cX2_readClause RX2 3 (55) none (0, fun _ => 0) 0 (zb_X2_readClause_0) := (zr_aldn dX2_readClause_0 rfl (zr_gf dX2_readClause_1 zfl_X2_62_2 (zr_bipush dX2_readClause_4 rfl (zr_icne dX2_readClause_6 (tgt := 24) (by decide) (zr_aldn dX2_readClause_24 rfl (zr_gf dX2_readClause_25 zfl_X2_62_2 (zr_bipush dX2_readClause_28 rfl (zr_icne dX2_readClause_30 (tgt := 37) (by decide) (zr_iconst dX2_readClause_37 rfl (zs_X2_readClause_38)) (zr_iconst dX2_readClause_33 rfl (zr_goto dX2_readClause_34 (tgt := 38) (by decide) (zs_X2_readClause_38))))))) (zr_aldn dX2_readClause_9 rfl (zr_ldcS (tx := "rain ") dX2_readClause_10 (by decide +kernel) (zr_callV dX2_readClause_12 zm_X2_takeWord ⟨⟨zq_398, zq_74⟩, by decide +kernel, by omega, by decide⟩ rfl rfl zq_395 zq_397 zq_2 (zr_aldn dX2_readClause_15 rfl (zr_aldn dX2_readClause_16 rfl (zr_callV dX2_readClause_17 zm_X2_readNumber ⟨⟨zq_458, zq_74⟩, by decide +kernel, by omega, by decide⟩ rfl rfl zq_455 zq_457 zq_5 (zr_pf dX2_readClause_20 zfl_X2_34_2w (zr_ret dX2_readClause_23)) zr_no))) zr_no)))))))
def zf_X2_readClause : zj_F := zj_run 3 zb_X2_readClause_0
theorem zm_X2_readClause : zj_MS 55 yX2_readClause cX2_readClause 3 none zf_X2_readClause := zj_met (own := RX2) rfl (by decide +kernel) (Or.inl rfl) (zs_X2_readClause_0)
theorem dX2_read_0 : decode cX2_read 0 = .ok (.aload_n 0, 1) := by decide +kernel
theorem dX2_read_1 : decode cX2_read 1 = .ok (.aload_n 1, 1) := by decide +kernel
theorem dX2_read_2 : decode cX2_read 2 = .ok (.putfield 40, 3) := by decide +kernel
theorem dX2_read_5 : decode cX2_read 5 = .ok (.aload_n 0, 1) := by decide +kernel
theorem dX2_read_6 : decode cX2_read 6 = .ok (.iconst (-1), 1) := by decide +kernel
theorem dX2_read_7 : decode cX2_read 7 = .ok (.putfield 44, 3) := by decide +kernel
theorem dX2_read_10 : decode cX2_read 10 = .ok (.aload_n 0, 1) := by decide +kernel
theorem dX2_read_11 : decode cX2_read 11 = .ok (.iconst 0, 1) := by decide +kernel
theorem dX2_read_12 : decode cX2_read 12 = .ok (.putfield 47, 3) := by decide +kernel
theorem dX2_read_15 : decode cX2_read 15 = .ok (.aload_n 0, 1) := by decide +kernel
theorem dX2_read_16 : decode cX2_read 16 = .ok (.iconst 0, 1) := by decide +kernel
theorem dX2_read_17 : decode cX2_read 17 = .ok (.putfield 30, 3) := by decide +kernel
theorem dX2_read_20 : decode cX2_read 20 = .ok (.aload_n 0, 1) := by decide +kernel
theorem dX2_read_21 : decode cX2_read 21 = .ok (.iconst 0, 1) := by decide +kernel
theorem dX2_read_22 : decode cX2_read 22 = .ok (.putfield 34, 3) := by decide +kernel
theorem dX2_read_25 : decode cX2_read 25 = .ok (.aload_n 0, 1) := by decide +kernel
theorem dX2_read_26 : decode cX2_read 26 = .ok (.invokevirtual 51, 3) := by decide +kernel
theorem dX2_read_29 : decode cX2_read 29 = .ok (.iconst 1, 1) := by decide +kernel
theorem dX2_read_30 : decode cX2_read 30 = .ok (.istore_n 2, 1) := by decide +kernel
theorem dX2_read_31 : decode cX2_read 31 = .ok (.iload_n 2, 1) := by decide +kernel
theorem dX2_read_32 : decode cX2_read 32 = .ok (.bipush 10, 2) := by decide +kernel
theorem dX2_read_34 : decode cX2_read 34 = .ok (.if_icmp .gt 59, 3) := by decide +kernel
theorem dX2_read_37 : decode cX2_read 37 = .ok (.aload_n 0, 1) := by decide +kernel
theorem dX2_read_38 : decode cX2_read 38 = .ok (.invokevirtual 54, 3) := by decide +kernel
theorem dX2_read_41 : decode cX2_read 41 = .ok (.aload_n 0, 1) := by decide +kernel
theorem dX2_read_42 : decode cX2_read 42 = .ok (.getfield 47, 3) := by decide +kernel
theorem dX2_read_45 : decode cX2_read 45 = .ok (.ifCond .ne 17, 3) := by decide +kernel
theorem dX2_read_48 : decode cX2_read 48 = .ok (.aload_n 0, 1) := by decide +kernel
theorem dX2_read_49 : decode cX2_read 49 = .ok (.getfield 44, 3) := by decide +kernel
theorem dX2_read_52 : decode cX2_read 52 = .ok (.aload_n 0, 1) := by decide +kernel
theorem dX2_read_53 : decode cX2_read 53 = .ok (.getfield 40, 3) := by decide +kernel
theorem dX2_read_56 : decode cX2_read 56 = .ok (.getfield 57, 3) := by decide +kernel
theorem dX2_read_59 : decode cX2_read 59 = .ok (.if_icmp .lt 16, 3) := by decide +kernel
theorem dX2_read_62 : decode cX2_read 62 = .ok (.aload_n 0, 1) := by decide +kernel
theorem dX2_read_63 : decode cX2_read 63 = .ok (.getfield 47, 3) := by decide +kernel
theorem dX2_read_66 : decode cX2_read 66 = .ok (.ifCond .ne 7, 3) := by decide +kernel
theorem dX2_read_69 : decode cX2_read 69 = .ok (.iconst 1, 1) := by decide +kernel
theorem dX2_read_70 : decode cX2_read 70 = .ok (.goto 4, 3) := by decide +kernel
theorem dX2_read_73 : decode cX2_read 73 = .ok (.iconst 0, 1) := by decide +kernel
theorem dX2_read_74 : decode cX2_read 74 = .ok (.ireturn, 1) := by decide +kernel
theorem dX2_read_75 : decode cX2_read 75 = .ok (.iload_n 2, 1) := by decide +kernel
theorem dX2_read_76 : decode cX2_read 76 = .ok (.bipush 10, 2) := by decide +kernel
theorem dX2_read_78 : decode cX2_read 78 = .ok (.if_icmp .ge 9, 3) := by decide +kernel
theorem dX2_read_81 : decode cX2_read 81 = .ok (.aload_n 0, 1) := by decide +kernel
theorem dX2_read_82 : decode cX2_read 82 = .ok (.bipush 59, 2) := by decide +kernel
theorem dX2_read_84 : decode cX2_read 84 = .ok (.invokevirtual 58, 3) := by decide +kernel
theorem dX2_read_87 : decode cX2_read 87 = .ok (.iinc 2 1, 3) := by decide +kernel
theorem dX2_read_90 : decode cX2_read 90 = .ok (.goto (-59), 3) := by decide +kernel
theorem dX2_read_93 : decode cX2_read 93 = .ok (.iconst 0, 1) := by decide +kernel
theorem dX2_read_94 : decode cX2_read 94 = .ok (.ireturn, 1) := by decide +kernel
def zb_X2_read_74 (E : zj_E) (st : List Value) (m : zj_M) : zj_R := (zi_ret (some .boolean)) E st m
set_option maxRecDepth 20000 in
theorem zs_X2_read_74 : zj_KC cX2_read RX2 3 (56) (some .boolean) (0, fun _ => 0) 74 (zb_X2_read_74) := (zr_ret dX2_read_74)
def zb_X2_read_62 (E : zj_E) (st : List Value) (m : zj_M) : zj_R := (zi_ald 0 (zi_gf 2 10 (zi_eq (zi_push (.int 1) zb_X2_read_74) (zi_push (.int 0) zb_X2_read_74)))) E st m
set_option maxRecDepth 20000 in
theorem zs_X2_read_62 : zj_KC cX2_read RX2 3 (56) (some .boolean) (0, fun _ => 0) 62 (zb_X2_read_62) := (zr_aldn dX2_read_62 rfl (zr_gf dX2_read_63 zfl_X2_47_2 (zr_ifne dX2_read_66 (tgt := 73) (by decide) (zr_iconst dX2_read_73 rfl (zs_X2_read_74)) (zr_iconst dX2_read_69 rfl (zr_goto dX2_read_70 (tgt := 74) (by decide) (zs_X2_read_74))))))
def zb_X2_read_87 (r31 : zj_K) (E : zj_E) (st : List Value) (m : zj_M) : zj_R := (zi_inc 2 1 r31) E st m
set_option maxRecDepth 20000 in
theorem zs_X2_read_87 {r31 : zj_K} (h31 : zj_KC cX2_read RX2 3 (56) (some .boolean) (0, fun _ => 0) 31 r31) : zj_KC cX2_read RX2 3 (56) (some .boolean) (0, fun _ => 0) 87 (zb_X2_read_87 r31) := (zr_inc dX2_read_87 rfl (zr_goto dX2_read_90 (tgt := 31) (by decide) h31))
def zb_X2_read_31 (r31 : zj_K) (E : zj_E) (st : List Value) (m : zj_M) : zj_R := (zi_ild 2 (zi_push (.int 10) (zi_cle (zi_ald 0 (zi_vc 2 0 zf_X2_readClause (zi_ald 0 (zi_gf 2 10 (zi_eq (zi_ald 0 (zi_gf 2 2 (zi_ald 0 (zi_gf 2 8 (zi_gf 5 3 (zi_clt (zi_ild 2 (zi_push (.int 10) (zi_clt (zi_ald 0 (zi_push (.int 59) (zi_vc 2 1 zf_X2_take (zb_X2_read_87 r31) zi_no))) (zb_X2_read_87 r31)))) zb_X2_read_62)))))) zb_X2_read_62))) zi_no)) (zi_push (.int 0) (zi_ret (some .boolean)))))) E st m
set_option maxRecDepth 20000 in
theorem zs_X2_read_31 {r31 : zj_K} (h31 : zj_KC cX2_read RX2 3 (56) (some .boolean) (0, fun _ => 0) 31 r31) : zj_KC cX2_read RX2 3 (56) (some .boolean) (0, fun _ => 0) 31 (zb_X2_read_31 r31) := (zr_ildn dX2_read_31 rfl (zr_bipush dX2_read_32 rfl (zr_icgt dX2_read_34 (tgt := 93) (by decide) (zr_iconst dX2_read_93 rfl (zr_ret dX2_read_94)) (zr_aldn dX2_read_37 rfl (zr_callV dX2_read_38 zm_X2_readClause ⟨⟨zq_393, zq_74⟩, by decide +kernel, by omega, by decide⟩ rfl rfl zq_390 zq_392 zq_1 (zr_aldn dX2_read_41 rfl (zr_gf dX2_read_42 zfl_X2_47_2 (zr_ifne dX2_read_45 (tgt := 62) (by decide) (zs_X2_read_62) (zr_aldn dX2_read_48 rfl (zr_gf dX2_read_49 zfl_X2_44_2 (zr_aldn dX2_read_52 rfl (zr_gf dX2_read_53 zfl_X2_40_2 (zr_gf dX2_read_56 zfl_X2_57_5 (zr_iclt dX2_read_59 (tgt := 75) (by decide) (zr_ildn dX2_read_75 rfl (zr_bipush dX2_read_76 rfl (zr_icge dX2_read_78 (tgt := 87) (by decide) (zs_X2_read_87 h31) (zr_aldn dX2_read_81 rfl (zr_bipush dX2_read_82 rfl (zr_callV dX2_read_84 zm_X2_take ⟨⟨zq_450, zq_74⟩, by decide +kernel, by omega, by decide⟩ rfl rfl zq_447 zq_449 zq_3 (zs_X2_read_87 h31) zr_no)))))) (zs_X2_read_62)))))))))) zr_no)))))
def zb_X2_read_0 (E : zj_E) (st : List Value) (m : zj_M) : zj_R := (zi_ald 0 (zi_ald 1 (zi_pt 2 8 (zi_ald 0 (zi_push (.int (-1)) (zi_pf 2 2 (zi_ald 0 (zi_push (.int 0) (zi_pz 2 10 (zi_ald 0 (zi_push (.int 0) (zi_pf 2 7 (zi_ald 0 (zi_push (.int 0) (zi_pf 2 0 (zi_ald 0 (zi_vc 2 0 zf_X2_next (zi_push (.int 1) (zi_ist 2 (zj_lp (zb_X2_read_31) zj_fu))) zi_no))))))))))))))))) E st m
set_option maxRecDepth 20000 in
theorem zs_X2_read_0 : zj_KC cX2_read RX2 3 (56) (some .boolean) (0, fun _ => 0) 0 (zb_X2_read_0) := (zr_aldn dX2_read_0 rfl (zr_aldn dX2_read_1 rfl (zr_pt dX2_read_2 zfl_X2_40_2w (zr_aldn dX2_read_5 rfl (zr_iconst dX2_read_6 rfl (zr_pf dX2_read_7 zfl_X2_44_2w (zr_aldn dX2_read_10 rfl (zr_iconst dX2_read_11 rfl (zr_pz dX2_read_12 zfl_X2_47_2w (zr_aldn dX2_read_15 rfl (zr_iconst dX2_read_16 rfl (zr_pf dX2_read_17 zfl_X2_30_2w (zr_aldn dX2_read_20 rfl (zr_iconst dX2_read_21 rfl (zr_pf dX2_read_22 zfl_X2_34_2w (zr_aldn dX2_read_25 rfl (zr_callV dX2_read_26 zm_X2_next ⟨⟨zq_389, zq_74⟩, by decide +kernel, by omega, by decide⟩ rfl rfl zq_386 zq_388 zq_0 (zr_iconst dX2_read_29 rfl (zr_istn dX2_read_30 rfl (zr_lp (fun _ h => zs_X2_read_31 h) zj_fu))) zr_no)))))))))))))))))
def zf_X2_read : zj_F := zj_run 3 zb_X2_read_0
theorem zm_X2_read : zj_MS 56 yX2_read cX2_read 3 (some .boolean) zf_X2_read := zj_met (own := RX2) rfl (by decide +kernel) (Or.inr (Or.inr (Or.inl rfl))) (zs_X2_read_0)
theorem dX11_bit_0 : decode cX11_bit 0 = .ok (.iload_n 0, 1) := by decide +kernel
theorem dX11_bit_1 : decode cX11_bit 1 = .ok (.ifCond .eq 7, 3) := by decide +kernel
theorem dX11_bit_4 : decode cX11_bit 4 = .ok (.iconst 1, 1) := by decide +kernel
theorem dX11_bit_5 : decode cX11_bit 5 = .ok (.goto 4, 3) := by decide +kernel
theorem dX11_bit_8 : decode cX11_bit 8 = .ok (.iconst 0, 1) := by decide +kernel
theorem dX11_bit_9 : decode cX11_bit 9 = .ok (.ireturn, 1) := by decide +kernel
def zb_X11_bit_9 (E : zj_E) (st : List Value) (m : zj_M) : zj_R := (zi_ret (some .int)) E st m
set_option maxRecDepth 20000 in
theorem zs_X11_bit_9 : zj_KC cX11_bit RX11 1 (0) (some .int) (0, fun _ => 0) 9 (zb_X11_bit_9) := (zr_ret dX11_bit_9)
def zb_X11_bit_0 (E : zj_E) (st : List Value) (m : zj_M) : zj_R := (zi_ild 0 (zi_eq (zi_push (.int 0) zb_X11_bit_9) (zi_push (.int 1) zb_X11_bit_9))) E st m
set_option maxRecDepth 20000 in
theorem zs_X11_bit_0 : zj_KC cX11_bit RX11 1 (0) (some .int) (0, fun _ => 0) 0 (zb_X11_bit_0) := (zr_ildn dX11_bit_0 rfl (zr_ifeq dX11_bit_1 (tgt := 8) (by decide) (zr_iconst dX11_bit_8 rfl (zs_X11_bit_9)) (zr_iconst dX11_bit_4 rfl (zr_goto dX11_bit_5 (tgt := 9) (by decide) (zs_X11_bit_9)))))
def zf_X11_bit : zj_F := zj_run 1 zb_X11_bit_0
theorem zm_X11_bit : zj_MS 0 yX11_bit cX11_bit 1 (some .int) zf_X11_bit := zj_met (own := RX11) rfl (by decide +kernel) (Or.inr (Or.inl rfl)) (zs_X11_bit_0)
theorem dX2_holds_0 : decode cX2_holds 0 = .ok (.aload_n 0, 1) := by decide +kernel
theorem dX2_holds_1 : decode cX2_holds 1 = .ok (.getfield 18, 3) := by decide +kernel
theorem dX2_holds_4 : decode cX2_holds 4 = .ok (.iload_n 1, 1) := by decide +kernel
theorem dX2_holds_5 : decode cX2_holds 5 = .ok (.iconst 3, 1) := by decide +kernel
theorem dX2_holds_6 : decode cX2_holds 6 = .ok (.idiv, 1) := by decide +kernel
theorem dX2_holds_7 : decode cX2_holds 7 = .ok (.iaload, 1) := by decide +kernel
theorem dX2_holds_8 : decode cX2_holds 8 = .ok (.istore_n 3, 1) := by decide +kernel
theorem dX2_holds_9 : decode cX2_holds 9 = .ok (.iload_n 1, 1) := by decide +kernel
theorem dX2_holds_10 : decode cX2_holds 10 = .ok (.iconst 3, 1) := by decide +kernel
theorem dX2_holds_11 : decode cX2_holds 11 = .ok (.irem, 1) := by decide +kernel
theorem dX2_holds_12 : decode cX2_holds 12 = .ok (.lookupswitch 50 #[(0, 28), (1, 39)], 28) := by decide +kernel
theorem dX2_holds_40 : decode cX2_holds 40 = .ok (.iload_n 3, 1) := by decide +kernel
theorem dX2_holds_41 : decode cX2_holds 41 = .ok (.iload_n 2, 1) := by decide +kernel
theorem dX2_holds_42 : decode cX2_holds 42 = .ok (.if_icmp .ge 7, 3) := by decide +kernel
theorem dX2_holds_45 : decode cX2_holds 45 = .ok (.iconst 1, 1) := by decide +kernel
theorem dX2_holds_46 : decode cX2_holds 46 = .ok (.goto 4, 3) := by decide +kernel
theorem dX2_holds_49 : decode cX2_holds 49 = .ok (.iconst 0, 1) := by decide +kernel
theorem dX2_holds_50 : decode cX2_holds 50 = .ok (.ireturn, 1) := by decide +kernel
theorem dX2_holds_51 : decode cX2_holds 51 = .ok (.iload_n 3, 1) := by decide +kernel
theorem dX2_holds_52 : decode cX2_holds 52 = .ok (.iload_n 2, 1) := by decide +kernel
theorem dX2_holds_53 : decode cX2_holds 53 = .ok (.if_icmp .ne 7, 3) := by decide +kernel
theorem dX2_holds_56 : decode cX2_holds 56 = .ok (.iconst 1, 1) := by decide +kernel
theorem dX2_holds_57 : decode cX2_holds 57 = .ok (.goto 4, 3) := by decide +kernel
theorem dX2_holds_60 : decode cX2_holds 60 = .ok (.iconst 0, 1) := by decide +kernel
theorem dX2_holds_61 : decode cX2_holds 61 = .ok (.ireturn, 1) := by decide +kernel
theorem dX2_holds_62 : decode cX2_holds 62 = .ok (.iload_n 3, 1) := by decide +kernel
theorem dX2_holds_63 : decode cX2_holds 63 = .ok (.iload_n 2, 1) := by decide +kernel
theorem dX2_holds_64 : decode cX2_holds 64 = .ok (.if_icmp .le 7, 3) := by decide +kernel
theorem dX2_holds_67 : decode cX2_holds 67 = .ok (.iconst 1, 1) := by decide +kernel
theorem dX2_holds_68 : decode cX2_holds 68 = .ok (.goto 4, 3) := by decide +kernel
theorem dX2_holds_71 : decode cX2_holds 71 = .ok (.iconst 0, 1) := by decide +kernel
theorem dX2_holds_72 : decode cX2_holds 72 = .ok (.ireturn, 1) := by decide +kernel
def zb_X2_holds_50 (E : zj_E) (st : List Value) (m : zj_M) : zj_R := (zi_ret (some .boolean)) E st m
set_option maxRecDepth 20000 in
theorem zs_X2_holds_50 : zj_KC cX2_holds RX2 4 (0) (some .boolean) (0, fun _ => 0) 50 (zb_X2_holds_50) := (zr_ret dX2_holds_50)
def zb_X2_holds_40 (E : zj_E) (st : List Value) (m : zj_M) : zj_R := (zi_ild 3 (zi_ild 2 (zi_clt (zi_push (.int 1) zb_X2_holds_50) (zi_push (.int 0) zb_X2_holds_50)))) E st m
set_option maxRecDepth 20000 in
theorem zs_X2_holds_40 : zj_KC cX2_holds RX2 4 (0) (some .boolean) (0, fun _ => 0) 40 (zb_X2_holds_40) := (zr_ildn dX2_holds_40 rfl (zr_ildn dX2_holds_41 rfl (zr_icge dX2_holds_42 (tgt := 49) (by decide) (zr_iconst dX2_holds_49 rfl (zs_X2_holds_50)) (zr_iconst dX2_holds_45 rfl (zr_goto dX2_holds_46 (tgt := 50) (by decide) (zs_X2_holds_50))))))
def zb_X2_holds_61 (E : zj_E) (st : List Value) (m : zj_M) : zj_R := (zi_ret (some .boolean)) E st m
set_option maxRecDepth 20000 in
theorem zs_X2_holds_61 : zj_KC cX2_holds RX2 4 (0) (some .boolean) (0, fun _ => 0) 61 (zb_X2_holds_61) := (zr_ret dX2_holds_61)
def zb_X2_holds_51 (E : zj_E) (st : List Value) (m : zj_M) : zj_R := (zi_ild 3 (zi_ild 2 (zi_ceq (zi_push (.int 1) zb_X2_holds_61) (zi_push (.int 0) zb_X2_holds_61)))) E st m
set_option maxRecDepth 20000 in
theorem zs_X2_holds_51 : zj_KC cX2_holds RX2 4 (0) (some .boolean) (0, fun _ => 0) 51 (zb_X2_holds_51) := (zr_ildn dX2_holds_51 rfl (zr_ildn dX2_holds_52 rfl (zr_icne dX2_holds_53 (tgt := 60) (by decide) (zr_iconst dX2_holds_60 rfl (zs_X2_holds_61)) (zr_iconst dX2_holds_56 rfl (zr_goto dX2_holds_57 (tgt := 61) (by decide) (zs_X2_holds_61))))))
def zb_X2_holds_72 (E : zj_E) (st : List Value) (m : zj_M) : zj_R := (zi_ret (some .boolean)) E st m
set_option maxRecDepth 20000 in
theorem zs_X2_holds_72 : zj_KC cX2_holds RX2 4 (0) (some .boolean) (0, fun _ => 0) 72 (zb_X2_holds_72) := (zr_ret dX2_holds_72)
def zb_X2_holds_62 (E : zj_E) (st : List Value) (m : zj_M) : zj_R := (zi_ild 3 (zi_ild 2 (zi_cle (zi_push (.int 0) zb_X2_holds_72) (zi_push (.int 1) zb_X2_holds_72)))) E st m
set_option maxRecDepth 20000 in
theorem zs_X2_holds_62 : zj_KC cX2_holds RX2 4 (0) (some .boolean) (0, fun _ => 0) 62 (zb_X2_holds_62) := (zr_ildn dX2_holds_62 rfl (zr_ildn dX2_holds_63 rfl (zr_icle dX2_holds_64 (tgt := 71) (by decide) (zr_iconst dX2_holds_71 rfl (zs_X2_holds_72)) (zr_iconst dX2_holds_67 rfl (zr_goto dX2_holds_68 (tgt := 72) (by decide) (zs_X2_holds_72))))))
def zb_X2_holds_0 (E : zj_E) (st : List Value) (m : zj_M) : zj_R := (zi_ald 0 (zi_gf 2 5 (zi_ild 1 (zi_push (.int 3) (zi_bd (fun x y => x / y) (zi_iald (zi_ist 3 (zi_ild 1 (zi_push (.int 3) (zi_bd (fun x y => x - x / y * y) (zi_lsw [(0, zb_X2_holds_40), (1, zb_X2_holds_51)] zb_X2_holds_62))))))))))) E st m
set_option maxRecDepth 20000 in
theorem zs_X2_holds_0 : zj_KC cX2_holds RX2 4 (0) (some .boolean) (0, fun _ => 0) 0 (zb_X2_holds_0) := (zr_aldn dX2_holds_0 rfl (zr_gf dX2_holds_1 zfl_X2_18_2 (zr_ildn dX2_holds_4 rfl (zr_iconst dX2_holds_5 rfl (zr_idiv dX2_holds_6 (zr_iald dX2_holds_7 (zr_istn dX2_holds_8 rfl (zr_ildn dX2_holds_9 rfl (zr_iconst dX2_holds_10 rfl (zr_irem dX2_holds_11 (zr_lsw2 dX2_holds_12 (by decide) (tgt := 62) (t1 := 40) (t2 := 51) (by decide) (by decide) (by decide) (zs_X2_holds_62) (zs_X2_holds_40) (zs_X2_holds_51))))))))))))
def zf_X2_holds : zj_F := zj_run 4 zb_X2_holds_0
theorem zm_X2_holds : zj_MS 0 yX2_holds cX2_holds 4 (some .boolean) zf_X2_holds := zj_met (own := RX2) rfl (by decide +kernel) (Or.inr (Or.inr (Or.inl rfl))) (zs_X2_holds_0)
theorem dX2_sumOfFacts_0 : decode cX2_sumOfFacts 0 = .ok (.iconst 0, 1) := by decide +kernel
theorem dX2_sumOfFacts_1 : decode cX2_sumOfFacts 1 = .ok (.istore_n 1, 1) := by decide +kernel
theorem dX2_sumOfFacts_2 : decode cX2_sumOfFacts 2 = .ok (.iconst 0, 1) := by decide +kernel
theorem dX2_sumOfFacts_3 : decode cX2_sumOfFacts 3 = .ok (.istore_n 2, 1) := by decide +kernel
theorem dX2_sumOfFacts_4 : decode cX2_sumOfFacts 4 = .ok (.iconst 0, 1) := by decide +kernel
theorem dX2_sumOfFacts_5 : decode cX2_sumOfFacts 5 = .ok (.istore_n 3, 1) := by decide +kernel
theorem dX2_sumOfFacts_6 : decode cX2_sumOfFacts 6 = .ok (.iload_n 3, 1) := by decide +kernel
theorem dX2_sumOfFacts_7 : decode cX2_sumOfFacts 7 = .ok (.aload_n 0, 1) := by decide +kernel
theorem dX2_sumOfFacts_8 : decode cX2_sumOfFacts 8 = .ok (.getfield 30, 3) := by decide +kernel
theorem dX2_sumOfFacts_11 : decode cX2_sumOfFacts 11 = .ok (.if_icmp .ge 143, 3) := by decide +kernel
theorem dX2_sumOfFacts_14 : decode cX2_sumOfFacts 14 = .ok (.iload_n 2, 1) := by decide +kernel
theorem dX2_sumOfFacts_15 : decode cX2_sumOfFacts 15 = .ok (.iconst 1, 1) := by decide +kernel
theorem dX2_sumOfFacts_16 : decode cX2_sumOfFacts 16 = .ok (.iand, 1) := by decide +kernel
theorem dX2_sumOfFacts_17 : decode cX2_sumOfFacts 17 = .ok (.istore 4, 2) := by decide +kernel
theorem dX2_sumOfFacts_19 : decode cX2_sumOfFacts 19 = .ok (.aload_n 0, 1) := by decide +kernel
theorem dX2_sumOfFacts_20 : decode cX2_sumOfFacts 20 = .ok (.getfield 11, 3) := by decide +kernel
theorem dX2_sumOfFacts_23 : decode cX2_sumOfFacts 23 = .ok (.iload_n 3, 1) := by decide +kernel
theorem dX2_sumOfFacts_24 : decode cX2_sumOfFacts 24 = .ok (.iaload, 1) := by decide +kernel
theorem dX2_sumOfFacts_25 : decode cX2_sumOfFacts 25 = .ok (.tableswitch 99 18 22 #[35, 48, 58, 65, 82], 35) := by decide +kernel
theorem dX2_sumOfFacts_60 : decode cX2_sumOfFacts 60 = .ok (.iload_n 2, 1) := by decide +kernel
theorem dX2_sumOfFacts_61 : decode cX2_sumOfFacts 61 = .ok (.iconst 1, 1) := by decide +kernel
theorem dX2_sumOfFacts_62 : decode cX2_sumOfFacts 62 = .ok (.ishr, 1) := by decide +kernel
theorem dX2_sumOfFacts_63 : decode cX2_sumOfFacts 63 = .ok (.iload 4, 2) := by decide +kernel
theorem dX2_sumOfFacts_65 : decode cX2_sumOfFacts 65 = .ok (.bipush (-2), 2) := by decide +kernel
theorem dX2_sumOfFacts_67 : decode cX2_sumOfFacts 67 = .ok (.ior, 1) := by decide +kernel
theorem dX2_sumOfFacts_68 : decode cX2_sumOfFacts 68 = .ok (.iand, 1) := by decide +kernel
theorem dX2_sumOfFacts_69 : decode cX2_sumOfFacts 69 = .ok (.istore_n 2, 1) := by decide +kernel
theorem dX2_sumOfFacts_70 : decode cX2_sumOfFacts 70 = .ok (.goto 78, 3) := by decide +kernel
theorem dX2_sumOfFacts_73 : decode cX2_sumOfFacts 73 = .ok (.iload_n 2, 1) := by decide +kernel
theorem dX2_sumOfFacts_74 : decode cX2_sumOfFacts 74 = .ok (.iconst 1, 1) := by decide +kernel
theorem dX2_sumOfFacts_75 : decode cX2_sumOfFacts 75 = .ok (.ishr, 1) := by decide +kernel
theorem dX2_sumOfFacts_76 : decode cX2_sumOfFacts 76 = .ok (.iload 4, 2) := by decide +kernel
theorem dX2_sumOfFacts_78 : decode cX2_sumOfFacts 78 = .ok (.ior, 1) := by decide +kernel
theorem dX2_sumOfFacts_79 : decode cX2_sumOfFacts 79 = .ok (.istore_n 2, 1) := by decide +kernel
theorem dX2_sumOfFacts_80 : decode cX2_sumOfFacts 80 = .ok (.goto 68, 3) := by decide +kernel
theorem dX2_sumOfFacts_83 : decode cX2_sumOfFacts 83 = .ok (.iload_n 2, 1) := by decide +kernel
theorem dX2_sumOfFacts_84 : decode cX2_sumOfFacts 84 = .ok (.iconst 1, 1) := by decide +kernel
theorem dX2_sumOfFacts_85 : decode cX2_sumOfFacts 85 = .ok (.ixor, 1) := by decide +kernel
theorem dX2_sumOfFacts_86 : decode cX2_sumOfFacts 86 = .ok (.istore_n 2, 1) := by decide +kernel
theorem dX2_sumOfFacts_87 : decode cX2_sumOfFacts 87 = .ok (.goto 61, 3) := by decide +kernel
theorem dX2_sumOfFacts_90 : decode cX2_sumOfFacts 90 = .ok (.iload_n 1, 1) := by decide +kernel
theorem dX2_sumOfFacts_91 : decode cX2_sumOfFacts 91 = .ok (.iload 4, 2) := by decide +kernel
theorem dX2_sumOfFacts_93 : decode cX2_sumOfFacts 93 = .ok (.aload_n 0, 1) := by decide +kernel
theorem dX2_sumOfFacts_94 : decode cX2_sumOfFacts 94 = .ok (.getfield 15, 3) := by decide +kernel
theorem dX2_sumOfFacts_97 : decode cX2_sumOfFacts 97 = .ok (.iload_n 3, 1) := by decide +kernel
theorem dX2_sumOfFacts_98 : decode cX2_sumOfFacts 98 = .ok (.iaload, 1) := by decide +kernel
theorem dX2_sumOfFacts_99 : decode cX2_sumOfFacts 99 = .ok (.imul, 1) := by decide +kernel
theorem dX2_sumOfFacts_100 : decode cX2_sumOfFacts 100 = .ok (.iadd, 1) := by decide +kernel
theorem dX2_sumOfFacts_101 : decode cX2_sumOfFacts 101 = .ok (.istore_n 1, 1) := by decide +kernel
theorem dX2_sumOfFacts_102 : decode cX2_sumOfFacts 102 = .ok (.iconst 0, 1) := by decide +kernel
theorem dX2_sumOfFacts_103 : decode cX2_sumOfFacts 103 = .ok (.istore_n 2, 1) := by decide +kernel
theorem dX2_sumOfFacts_104 : decode cX2_sumOfFacts 104 = .ok (.goto 44, 3) := by decide +kernel
theorem dX2_sumOfFacts_107 : decode cX2_sumOfFacts 107 = .ok (.iload_n 1, 1) := by decide +kernel
theorem dX2_sumOfFacts_108 : decode cX2_sumOfFacts 108 = .ok (.iload 4, 2) := by decide +kernel
theorem dX2_sumOfFacts_110 : decode cX2_sumOfFacts 110 = .ok (.aload_n 0, 1) := by decide +kernel
theorem dX2_sumOfFacts_111 : decode cX2_sumOfFacts 111 = .ok (.getfield 15, 3) := by decide +kernel
theorem dX2_sumOfFacts_114 : decode cX2_sumOfFacts 114 = .ok (.iload_n 3, 1) := by decide +kernel
theorem dX2_sumOfFacts_115 : decode cX2_sumOfFacts 115 = .ok (.iaload, 1) := by decide +kernel
theorem dX2_sumOfFacts_116 : decode cX2_sumOfFacts 116 = .ok (.imul, 1) := by decide +kernel
theorem dX2_sumOfFacts_117 : decode cX2_sumOfFacts 117 = .ok (.isub, 1) := by decide +kernel
theorem dX2_sumOfFacts_118 : decode cX2_sumOfFacts 118 = .ok (.istore_n 1, 1) := by decide +kernel
theorem dX2_sumOfFacts_119 : decode cX2_sumOfFacts 119 = .ok (.iconst 0, 1) := by decide +kernel
theorem dX2_sumOfFacts_120 : decode cX2_sumOfFacts 120 = .ok (.istore_n 2, 1) := by decide +kernel
theorem dX2_sumOfFacts_121 : decode cX2_sumOfFacts 121 = .ok (.goto 27, 3) := by decide +kernel
theorem dX2_sumOfFacts_124 : decode cX2_sumOfFacts 124 = .ok (.iload_n 2, 1) := by decide +kernel
theorem dX2_sumOfFacts_125 : decode cX2_sumOfFacts 125 = .ok (.iconst 1, 1) := by decide +kernel
theorem dX2_sumOfFacts_126 : decode cX2_sumOfFacts 126 = .ok (.ishl, 1) := by decide +kernel
theorem dX2_sumOfFacts_127 : decode cX2_sumOfFacts 127 = .ok (.aload_n 0, 1) := by decide +kernel
theorem dX2_sumOfFacts_128 : decode cX2_sumOfFacts 128 = .ok (.aload_n 0, 1) := by decide +kernel
theorem dX2_sumOfFacts_129 : decode cX2_sumOfFacts 129 = .ok (.getfield 11, 3) := by decide +kernel
theorem dX2_sumOfFacts_132 : decode cX2_sumOfFacts 132 = .ok (.iload_n 3, 1) := by decide +kernel
theorem dX2_sumOfFacts_133 : decode cX2_sumOfFacts 133 = .ok (.iaload, 1) := by decide +kernel
theorem dX2_sumOfFacts_134 : decode cX2_sumOfFacts 134 = .ok (.aload_n 0, 1) := by decide +kernel
theorem dX2_sumOfFacts_135 : decode cX2_sumOfFacts 135 = .ok (.getfield 15, 3) := by decide +kernel
theorem dX2_sumOfFacts_138 : decode cX2_sumOfFacts 138 = .ok (.iload_n 3, 1) := by decide +kernel
theorem dX2_sumOfFacts_139 : decode cX2_sumOfFacts 139 = .ok (.iaload, 1) := by decide +kernel
theorem dX2_sumOfFacts_140 : decode cX2_sumOfFacts 140 = .ok (.invokevirtual 129, 3) := by decide +kernel
theorem dX2_sumOfFacts_143 : decode cX2_sumOfFacts 143 = .ok (.invokestatic 133, 3) := by decide +kernel
theorem dX2_sumOfFacts_146 : decode cX2_sumOfFacts 146 = .ok (.ior, 1) := by decide +kernel
theorem dX2_sumOfFacts_147 : decode cX2_sumOfFacts 147 = .ok (.istore_n 2, 1) := by decide +kernel
theorem dX2_sumOfFacts_148 : decode cX2_sumOfFacts 148 = .ok (.iinc 3 1, 3) := by decide +kernel
theorem dX2_sumOfFacts_151 : decode cX2_sumOfFacts 151 = .ok (.goto (-145), 3) := by decide +kernel
theorem dX2_sumOfFacts_154 : decode cX2_sumOfFacts 154 = .ok (.iload_n 1, 1) := by decide +kernel
theorem dX2_sumOfFacts_155 : decode cX2_sumOfFacts 155 = .ok (.ireturn, 1) := by decide +kernel
def zb_X2_sumOfFacts_148 (r6 : zj_K) (E : zj_E) (st : List Value) (m : zj_M) : zj_R := (zi_inc 3 1 r6) E st m
set_option maxRecDepth 20000 in
theorem zs_X2_sumOfFacts_148 {r6 : zj_K} (h6 : zj_KC cX2_sumOfFacts RX2 5 (1) (some .int) (0, fun _ => 0) 6 r6) : zj_KC cX2_sumOfFacts RX2 5 (1) (some .int) (0, fun _ => 0) 148 (zb_X2_sumOfFacts_148 r6) := (zr_inc dX2_sumOfFacts_148 rfl (zr_goto dX2_sumOfFacts_151 (tgt := 6) (by decide) h6))
def zb_X2_sumOfFacts_60 (r6 : zj_K) (E : zj_E) (st : List Value) (m : zj_M) : zj_R := (zi_ild 2 (zi_push (.int 1) (zi_b (fun x y => x >>> (y &&& 31)) (zi_ild 4 (zi_push (.int (-2)) (zi_b (fun x y => x ||| y) (zi_b (fun x y => x &&& y) (zi_ist 2 (zb_X2_sumOfFacts_148 r6))))))))) E st m
set_option maxRecDepth 20000 in
theorem zs_X2_sumOfFacts_60 {r6 : zj_K} (h6 : zj_KC cX2_sumOfFacts RX2 5 (1) (some .int) (0, fun _ => 0) 6 r6) : zj_KC cX2_sumOfFacts RX2 5 (1) (some .int) (0, fun _ => 0) 60 (zb_X2_sumOfFacts_60 r6) := (zr_ildn dX2_sumOfFacts_60 rfl (zr_iconst dX2_sumOfFacts_61 rfl (zr_ishr dX2_sumOfFacts_62 (zr_ild dX2_sumOfFacts_63 (zr_bipush dX2_sumOfFacts_65 rfl (zr_ior dX2_sumOfFacts_67 (zr_iand dX2_sumOfFacts_68 (zr_istn dX2_sumOfFacts_69 rfl (zr_goto dX2_sumOfFacts_70 (tgt := 148) (by decide) (zs_X2_sumOfFacts_148 h6))))))))))
def zb_X2_sumOfFacts_73 (r6 : zj_K) (E : zj_E) (st : List Value) (m : zj_M) : zj_R := (zi_ild 2 (zi_push (.int 1) (zi_b (fun x y => x >>> (y &&& 31)) (zi_ild 4 (zi_b (fun x y => x ||| y) (zi_ist 2 (zb_X2_sumOfFacts_148 r6))))))) E st m
set_option maxRecDepth 20000 in
theorem zs_X2_sumOfFacts_73 {r6 : zj_K} (h6 : zj_KC cX2_sumOfFacts RX2 5 (1) (some .int) (0, fun _ => 0) 6 r6) : zj_KC cX2_sumOfFacts RX2 5 (1) (some .int) (0, fun _ => 0) 73 (zb_X2_sumOfFacts_73 r6) := (zr_ildn dX2_sumOfFacts_73 rfl (zr_iconst dX2_sumOfFacts_74 rfl (zr_ishr dX2_sumOfFacts_75 (zr_ild dX2_sumOfFacts_76 (zr_ior dX2_sumOfFacts_78 (zr_istn dX2_sumOfFacts_79 rfl (zr_goto dX2_sumOfFacts_80 (tgt := 148) (by decide) (zs_X2_sumOfFacts_148 h6))))))))
def zb_X2_sumOfFacts_83 (r6 : zj_K) (E : zj_E) (st : List Value) (m : zj_M) : zj_R := (zi_ild 2 (zi_push (.int 1) (zi_b (fun x y => x ^^^ y) (zi_ist 2 (zb_X2_sumOfFacts_148 r6))))) E st m
set_option maxRecDepth 20000 in
theorem zs_X2_sumOfFacts_83 {r6 : zj_K} (h6 : zj_KC cX2_sumOfFacts RX2 5 (1) (some .int) (0, fun _ => 0) 6 r6) : zj_KC cX2_sumOfFacts RX2 5 (1) (some .int) (0, fun _ => 0) 83 (zb_X2_sumOfFacts_83 r6) := (zr_ildn dX2_sumOfFacts_83 rfl (zr_iconst dX2_sumOfFacts_84 rfl (zr_ixor dX2_sumOfFacts_85 (zr_istn dX2_sumOfFacts_86 rfl (zr_goto dX2_sumOfFacts_87 (tgt := 148) (by decide) (zs_X2_sumOfFacts_148 h6))))))
def zb_X2_sumOfFacts_90 (r6 : zj_K) (E : zj_E) (st : List Value) (m : zj_M) : zj_R := (zi_ild 1 (zi_ild 4 (zi_ald 0 (zi_gf 2 4 (zi_ild 3 (zi_iald (zi_b (fun x y => x * y) (zi_b (fun x y => x + y) (zi_ist 1 (zi_push (.int 0) (zi_ist 2 (zb_X2_sumOfFacts_148 r6)))))))))))) E st m
set_option maxRecDepth 20000 in
theorem zs_X2_sumOfFacts_90 {r6 : zj_K} (h6 : zj_KC cX2_sumOfFacts RX2 5 (1) (some .int) (0, fun _ => 0) 6 r6) : zj_KC cX2_sumOfFacts RX2 5 (1) (some .int) (0, fun _ => 0) 90 (zb_X2_sumOfFacts_90 r6) := (zr_ildn dX2_sumOfFacts_90 rfl (zr_ild dX2_sumOfFacts_91 (zr_aldn dX2_sumOfFacts_93 rfl (zr_gf dX2_sumOfFacts_94 zfl_X2_15_2 (zr_ildn dX2_sumOfFacts_97 rfl (zr_iald dX2_sumOfFacts_98 (zr_imul dX2_sumOfFacts_99 (zr_iadd dX2_sumOfFacts_100 (zr_istn dX2_sumOfFacts_101 rfl (zr_iconst dX2_sumOfFacts_102 rfl (zr_istn dX2_sumOfFacts_103 rfl (zr_goto dX2_sumOfFacts_104 (tgt := 148) (by decide) (zs_X2_sumOfFacts_148 h6)))))))))))))
def zb_X2_sumOfFacts_107 (r6 : zj_K) (E : zj_E) (st : List Value) (m : zj_M) : zj_R := (zi_ild 1 (zi_ild 4 (zi_ald 0 (zi_gf 2 4 (zi_ild 3 (zi_iald (zi_b (fun x y => x * y) (zi_b (fun x y => x - y) (zi_ist 1 (zi_push (.int 0) (zi_ist 2 (zb_X2_sumOfFacts_148 r6)))))))))))) E st m
set_option maxRecDepth 20000 in
theorem zs_X2_sumOfFacts_107 {r6 : zj_K} (h6 : zj_KC cX2_sumOfFacts RX2 5 (1) (some .int) (0, fun _ => 0) 6 r6) : zj_KC cX2_sumOfFacts RX2 5 (1) (some .int) (0, fun _ => 0) 107 (zb_X2_sumOfFacts_107 r6) := (zr_ildn dX2_sumOfFacts_107 rfl (zr_ild dX2_sumOfFacts_108 (zr_aldn dX2_sumOfFacts_110 rfl (zr_gf dX2_sumOfFacts_111 zfl_X2_15_2 (zr_ildn dX2_sumOfFacts_114 rfl (zr_iald dX2_sumOfFacts_115 (zr_imul dX2_sumOfFacts_116 (zr_isub dX2_sumOfFacts_117 (zr_istn dX2_sumOfFacts_118 rfl (zr_iconst dX2_sumOfFacts_119 rfl (zr_istn dX2_sumOfFacts_120 rfl (zr_goto dX2_sumOfFacts_121 (tgt := 148) (by decide) (zs_X2_sumOfFacts_148 h6)))))))))))))
def zb_X2_sumOfFacts_124 (r6 : zj_K) (E : zj_E) (st : List Value) (m : zj_M) : zj_R := (zi_ild 2 (zi_push (.int 1) (zi_b (fun x y => x <<< (y &&& 31)) (zi_ald 0 (zi_ald 0 (zi_gf 2 3 (zi_ild 3 (zi_iald (zi_ald 0 (zi_gf 2 4 (zi_ild 3 (zi_iald (zi_vc 2 2 zf_X2_holds (zi_call 1 zf_X11_bit (zi_b (fun x y => x ||| y) (zi_ist 2 (zb_X2_sumOfFacts_148 r6)))) zi_no))))))))))))) E st m
set_option maxRecDepth 20000 in
theorem zs_X2_sumOfFacts_124 {r6 : zj_K} (h6 : zj_KC cX2_sumOfFacts RX2 5 (1) (some .int) (0, fun _ => 0) 6 r6) : zj_KC cX2_sumOfFacts RX2 5 (1) (some .int) (0, fun _ => 0) 124 (zb_X2_sumOfFacts_124 r6) := (zr_ildn dX2_sumOfFacts_124 rfl (zr_iconst dX2_sumOfFacts_125 rfl (zr_ishl dX2_sumOfFacts_126 (zr_aldn dX2_sumOfFacts_127 rfl (zr_aldn dX2_sumOfFacts_128 rfl (zr_gf dX2_sumOfFacts_129 zfl_X2_11_2 (zr_ildn dX2_sumOfFacts_132 rfl (zr_iald dX2_sumOfFacts_133 (zr_aldn dX2_sumOfFacts_134 rfl (zr_gf dX2_sumOfFacts_135 zfl_X2_15_2 (zr_ildn dX2_sumOfFacts_138 rfl (zr_iald dX2_sumOfFacts_139 (zr_callV dX2_sumOfFacts_140 zm_X2_holds ⟨⟨zq_634, zq_74⟩, by decide +kernel, by omega, by decide⟩ rfl rfl zq_631 zq_633 zq_15 (zr_callSN dX2_sumOfFacts_143 zm_X11_bit ⟨⟨zq_610, zq_65⟩, by decide +kernel, by omega, by decide⟩ ⟨rfl, rfl, rfl⟩ zq_609 (zr_ior dX2_sumOfFacts_146 (zr_istn dX2_sumOfFacts_147 rfl (zs_X2_sumOfFacts_148 h6)))) zr_no)))))))))))))
def zb_X2_sumOfFacts_6 (r6 : zj_K) (E : zj_E) (st : List Value) (m : zj_M) : zj_R := (zi_ild 3 (zi_ald 0 (zi_gf 2 7 (zi_clt (zi_ild 2 (zi_push (.int 1) (zi_b (fun x y => x &&& y) (zi_ist 4 (zi_ald 0 (zi_gf 2 3 (zi_ild 3 (zi_iald (zi_tsw 18 [(zb_X2_sumOfFacts_60 r6), (zb_X2_sumOfFacts_73 r6), (zb_X2_sumOfFacts_83 r6), (zb_X2_sumOfFacts_90 r6), (zb_X2_sumOfFacts_107 r6)] (zb_X2_sumOfFacts_124 r6)))))))))) (zi_ild 1 (zi_ret (some .int))))))) E st m
set_option maxRecDepth 20000 in
theorem zs_X2_sumOfFacts_6 {r6 : zj_K} (h6 : zj_KC cX2_sumOfFacts RX2 5 (1) (some .int) (0, fun _ => 0) 6 r6) : zj_KC cX2_sumOfFacts RX2 5 (1) (some .int) (0, fun _ => 0) 6 (zb_X2_sumOfFacts_6 r6) := (zr_ildn dX2_sumOfFacts_6 rfl (zr_aldn dX2_sumOfFacts_7 rfl (zr_gf dX2_sumOfFacts_8 zfl_X2_30_2 (zr_icge dX2_sumOfFacts_11 (tgt := 154) (by decide) (zr_ildn dX2_sumOfFacts_154 rfl (zr_ret dX2_sumOfFacts_155)) (zr_ildn dX2_sumOfFacts_14 rfl (zr_iconst dX2_sumOfFacts_15 rfl (zr_iand dX2_sumOfFacts_16 (zr_ist dX2_sumOfFacts_17 (zr_aldn dX2_sumOfFacts_19 rfl (zr_gf dX2_sumOfFacts_20 zfl_X2_11_2 (zr_ildn dX2_sumOfFacts_23 rfl (zr_iald dX2_sumOfFacts_24 (zr_tsw dX2_sumOfFacts_25 (tgt := 124) (by decide) (hkd := (zs_X2_sumOfFacts_124 h6)) (tg := [60, 73, 83, 90, 107] ) (hn := rfl) (hoff := by decide) (hl := rfl) ⟨(zs_X2_sumOfFacts_60 h6), (zs_X2_sumOfFacts_73 h6), (zs_X2_sumOfFacts_83 h6), (zs_X2_sumOfFacts_90 h6), (zs_X2_sumOfFacts_107 h6), trivial⟩)))))))))))))
def zb_X2_sumOfFacts_0 (E : zj_E) (st : List Value) (m : zj_M) : zj_R := (zi_push (.int 0) (zi_ist 1 (zi_push (.int 0) (zi_ist 2 (zi_push (.int 0) (zi_ist 3 (zj_lp (zb_X2_sumOfFacts_6) zj_fu))))))) E st m
set_option maxRecDepth 20000 in
theorem zs_X2_sumOfFacts_0 : zj_KC cX2_sumOfFacts RX2 5 (1) (some .int) (0, fun _ => 0) 0 (zb_X2_sumOfFacts_0) := (zr_iconst dX2_sumOfFacts_0 rfl (zr_istn dX2_sumOfFacts_1 rfl (zr_iconst dX2_sumOfFacts_2 rfl (zr_istn dX2_sumOfFacts_3 rfl (zr_iconst dX2_sumOfFacts_4 rfl (zr_istn dX2_sumOfFacts_5 rfl (zr_lp (fun _ h => zs_X2_sumOfFacts_6 h) zj_fu)))))))
def zf_X2_sumOfFacts : zj_F := zj_run 5 zb_X2_sumOfFacts_0
theorem zm_X2_sumOfFacts : zj_MS 1 yX2_sumOfFacts cX2_sumOfFacts 5 (some .int) zf_X2_sumOfFacts := zj_met (own := RX2) rfl (by decide +kernel) (Or.inr (Or.inl rfl)) (zs_X2_sumOfFacts_0)
theorem dX2_sumOf_0 : decode cX2_sumOf 0 = .ok (.aload_n 0, 1) := by decide +kernel
theorem dX2_sumOf_1 : decode cX2_sumOf 1 = .ok (.getfield 30, 3) := by decide +kernel
theorem dX2_sumOf_4 : decode cX2_sumOf 4 = .ok (.ifCond .ne 5, 3) := by decide +kernel
theorem dX2_sumOf_7 : decode cX2_sumOf 7 = .ok (.iconst 0, 1) := by decide +kernel
theorem dX2_sumOf_8 : decode cX2_sumOf 8 = .ok (.ireturn, 1) := by decide +kernel
theorem dX2_sumOf_9 : decode cX2_sumOf 9 = .ok (.iload_n 1, 1) := by decide +kernel
theorem dX2_sumOf_10 : decode cX2_sumOf 10 = .ok (.bipush 10, 2) := by decide +kernel
theorem dX2_sumOf_12 : decode cX2_sumOf 12 = .ok (.imul, 1) := by decide +kernel
theorem dX2_sumOf_13 : decode cX2_sumOf 13 = .ok (.iload 6, 2) := by decide +kernel
theorem dX2_sumOf_15 : decode cX2_sumOf 15 = .ok (.iadd, 1) := by decide +kernel
theorem dX2_sumOf_16 : decode cX2_sumOf 16 = .ok (.bipush 16, 2) := by decide +kernel
theorem dX2_sumOf_18 : decode cX2_sumOf 18 = .ok (.imul, 1) := by decide +kernel
theorem dX2_sumOf_19 : decode cX2_sumOf 19 = .ok (.iload 4, 2) := by decide +kernel
theorem dX2_sumOf_21 : decode cX2_sumOf 21 = .ok (.iadd, 1) := by decide +kernel
theorem dX2_sumOf_22 : decode cX2_sumOf 22 = .ok (.iconst 4, 1) := by decide +kernel
theorem dX2_sumOf_23 : decode cX2_sumOf 23 = .ok (.imul, 1) := by decide +kernel
theorem dX2_sumOf_24 : decode cX2_sumOf 24 = .ok (.iload 5, 2) := by decide +kernel
theorem dX2_sumOf_26 : decode cX2_sumOf 26 = .ok (.iadd, 1) := by decide +kernel
theorem dX2_sumOf_27 : decode cX2_sumOf 27 = .ok (.istore 7, 2) := by decide +kernel
theorem dX2_sumOf_29 : decode cX2_sumOf 29 = .ok (.aload_n 0, 1) := by decide +kernel
theorem dX2_sumOf_30 : decode cX2_sumOf 30 = .ok (.getfield 37, 3) := by decide +kernel
theorem dX2_sumOf_33 : decode cX2_sumOf 33 = .ok (.bipush 7, 2) := by decide +kernel
theorem dX2_sumOf_35 : decode cX2_sumOf 35 = .ok (.imul, 1) := by decide +kernel
theorem dX2_sumOf_36 : decode cX2_sumOf 36 = .ok (.iload_n 2, 1) := by decide +kernel
theorem dX2_sumOf_37 : decode cX2_sumOf 37 = .ok (.iadd, 1) := by decide +kernel
theorem dX2_sumOf_38 : decode cX2_sumOf 38 = .ok (.bipush 10, 2) := by decide +kernel
theorem dX2_sumOf_40 : decode cX2_sumOf 40 = .ok (.imul, 1) := by decide +kernel
theorem dX2_sumOf_41 : decode cX2_sumOf 41 = .ok (.iload_n 3, 1) := by decide +kernel
theorem dX2_sumOf_42 : decode cX2_sumOf 42 = .ok (.iadd, 1) := by decide +kernel
theorem dX2_sumOf_43 : decode cX2_sumOf 43 = .ok (.istore 8, 2) := by decide +kernel
theorem dX2_sumOf_45 : decode cX2_sumOf 45 = .ok (.aload_n 0, 1) := by decide +kernel
theorem dX2_sumOf_46 : decode cX2_sumOf 46 = .ok (.getfield 21, 3) := by decide +kernel
theorem dX2_sumOf_49 : decode cX2_sumOf 49 = .ok (.iload 7, 2) := by decide +kernel
theorem dX2_sumOf_51 : decode cX2_sumOf 51 = .ok (.iaload, 1) := by decide +kernel
theorem dX2_sumOf_52 : decode cX2_sumOf 52 = .ok (.bipush 11, 2) := by decide +kernel
theorem dX2_sumOf_54 : decode cX2_sumOf 54 = .ok (.ishr, 1) := by decide +kernel
theorem dX2_sumOf_55 : decode cX2_sumOf 55 = .ok (.iload 8, 2) := by decide +kernel
theorem dX2_sumOf_57 : decode cX2_sumOf 57 = .ok (.if_icmp .eq 69, 3) := by decide +kernel
theorem dX2_sumOf_60 : decode cX2_sumOf 60 = .ok (.aload_n 0, 1) := by decide +kernel
theorem dX2_sumOf_61 : decode cX2_sumOf 61 = .ok (.getfield 18, 3) := by decide +kernel
theorem dX2_sumOf_64 : decode cX2_sumOf 64 = .ok (.iconst 0, 1) := by decide +kernel
theorem dX2_sumOf_65 : decode cX2_sumOf 65 = .ok (.iload_n 1, 1) := by decide +kernel
theorem dX2_sumOf_66 : decode cX2_sumOf 66 = .ok (.iastore, 1) := by decide +kernel
theorem dX2_sumOf_67 : decode cX2_sumOf 67 = .ok (.aload_n 0, 1) := by decide +kernel
theorem dX2_sumOf_68 : decode cX2_sumOf 68 = .ok (.getfield 18, 3) := by decide +kernel
theorem dX2_sumOf_71 : decode cX2_sumOf 71 = .ok (.iconst 1, 1) := by decide +kernel
theorem dX2_sumOf_72 : decode cX2_sumOf 72 = .ok (.iload_n 2, 1) := by decide +kernel
theorem dX2_sumOf_73 : decode cX2_sumOf 73 = .ok (.iastore, 1) := by decide +kernel
theorem dX2_sumOf_74 : decode cX2_sumOf 74 = .ok (.aload_n 0, 1) := by decide +kernel
theorem dX2_sumOf_75 : decode cX2_sumOf 75 = .ok (.getfield 18, 3) := by decide +kernel
theorem dX2_sumOf_78 : decode cX2_sumOf 78 = .ok (.iconst 2, 1) := by decide +kernel
theorem dX2_sumOf_79 : decode cX2_sumOf 79 = .ok (.iload_n 3, 1) := by decide +kernel
theorem dX2_sumOf_80 : decode cX2_sumOf 80 = .ok (.iastore, 1) := by decide +kernel
theorem dX2_sumOf_81 : decode cX2_sumOf 81 = .ok (.aload_n 0, 1) := by decide +kernel
theorem dX2_sumOf_82 : decode cX2_sumOf 82 = .ok (.getfield 18, 3) := by decide +kernel
theorem dX2_sumOf_85 : decode cX2_sumOf 85 = .ok (.iconst 3, 1) := by decide +kernel
theorem dX2_sumOf_86 : decode cX2_sumOf 86 = .ok (.iload 4, 2) := by decide +kernel
theorem dX2_sumOf_88 : decode cX2_sumOf 88 = .ok (.iastore, 1) := by decide +kernel
theorem dX2_sumOf_89 : decode cX2_sumOf 89 = .ok (.aload_n 0, 1) := by decide +kernel
theorem dX2_sumOf_90 : decode cX2_sumOf 90 = .ok (.getfield 18, 3) := by decide +kernel
theorem dX2_sumOf_93 : decode cX2_sumOf 93 = .ok (.iconst 4, 1) := by decide +kernel
theorem dX2_sumOf_94 : decode cX2_sumOf 94 = .ok (.iload 5, 2) := by decide +kernel
theorem dX2_sumOf_96 : decode cX2_sumOf 96 = .ok (.iastore, 1) := by decide +kernel
theorem dX2_sumOf_97 : decode cX2_sumOf 97 = .ok (.aload_n 0, 1) := by decide +kernel
theorem dX2_sumOf_98 : decode cX2_sumOf 98 = .ok (.getfield 18, 3) := by decide +kernel
theorem dX2_sumOf_101 : decode cX2_sumOf 101 = .ok (.iconst 5, 1) := by decide +kernel
theorem dX2_sumOf_102 : decode cX2_sumOf 102 = .ok (.iload 6, 2) := by decide +kernel
theorem dX2_sumOf_104 : decode cX2_sumOf 104 = .ok (.iastore, 1) := by decide +kernel
theorem dX2_sumOf_105 : decode cX2_sumOf 105 = .ok (.aload_n 0, 1) := by decide +kernel
theorem dX2_sumOf_106 : decode cX2_sumOf 106 = .ok (.getfield 21, 3) := by decide +kernel
theorem dX2_sumOf_109 : decode cX2_sumOf 109 = .ok (.iload 7, 2) := by decide +kernel
theorem dX2_sumOf_111 : decode cX2_sumOf 111 = .ok (.iload 8, 2) := by decide +kernel
theorem dX2_sumOf_113 : decode cX2_sumOf 113 = .ok (.bipush 11, 2) := by decide +kernel
theorem dX2_sumOf_115 : decode cX2_sumOf 115 = .ok (.ishl, 1) := by decide +kernel
theorem dX2_sumOf_116 : decode cX2_sumOf 116 = .ok (.aload_n 0, 1) := by decide +kernel
theorem dX2_sumOf_117 : decode cX2_sumOf 117 = .ok (.invokevirtual 126, 3) := by decide +kernel
theorem dX2_sumOf_120 : decode cX2_sumOf 120 = .ok (.sipush 1024, 3) := by decide +kernel
theorem dX2_sumOf_123 : decode cX2_sumOf 123 = .ok (.iadd, 1) := by decide +kernel
theorem dX2_sumOf_124 : decode cX2_sumOf 124 = .ok (.ior, 1) := by decide +kernel
theorem dX2_sumOf_125 : decode cX2_sumOf 125 = .ok (.iastore, 1) := by decide +kernel
theorem dX2_sumOf_126 : decode cX2_sumOf 126 = .ok (.aload_n 0, 1) := by decide +kernel
theorem dX2_sumOf_127 : decode cX2_sumOf 127 = .ok (.getfield 21, 3) := by decide +kernel
theorem dX2_sumOf_130 : decode cX2_sumOf 130 = .ok (.iload 7, 2) := by decide +kernel
theorem dX2_sumOf_132 : decode cX2_sumOf 132 = .ok (.iaload, 1) := by decide +kernel
theorem dX2_sumOf_133 : decode cX2_sumOf 133 = .ok (.sipush 2047, 3) := by decide +kernel
theorem dX2_sumOf_136 : decode cX2_sumOf 136 = .ok (.iand, 1) := by decide +kernel
theorem dX2_sumOf_137 : decode cX2_sumOf 137 = .ok (.sipush 1024, 3) := by decide +kernel
theorem dX2_sumOf_140 : decode cX2_sumOf 140 = .ok (.isub, 1) := by decide +kernel
theorem dX2_sumOf_141 : decode cX2_sumOf 141 = .ok (.ireturn, 1) := by decide +kernel
def zb_X2_sumOf_126 (E : zj_E) (st : List Value) (m : zj_M) : zj_R := (zi_ald 0 (zi_gf 2 6 (zi_ild 7 (zi_iald (zi_push (.int 2047) (zi_b (fun x y => x &&& y) (zi_push (.int 1024) (zi_b (fun x y => x - y) (zi_ret (some .int)))))))))) E st m
set_option maxRecDepth 20000 in
theorem zs_X2_sumOf_126 : zj_KC cX2_sumOf RX2 9 (2) (some .int) (0, fun _ => 0) 126 (zb_X2_sumOf_126) := (zr_aldn dX2_sumOf_126 rfl (zr_gf dX2_sumOf_127 zfl_X2_21_2 (zr_ild dX2_sumOf_130 (zr_iald dX2_sumOf_132 (zr_sipush dX2_sumOf_133 rfl (zr_iand dX2_sumOf_136 (zr_sipush dX2_sumOf_137 rfl (zr_isub dX2_sumOf_140 (zr_ret dX2_sumOf_141)))))))))
def zb_X2_sumOf_0 (E : zj_E) (st : List Value) (m : zj_M) : zj_R := (zi_ald 0 (zi_gf 2 7 (zi_eq (zi_push (.int 0) (zi_ret (some .int))) (zi_ild 1 (zi_push (.int 10) (zi_b (fun x y => x * y) (zi_ild 6 (zi_b (fun x y => x + y) (zi_push (.int 16) (zi_b (fun x y => x * y) (zi_ild 4 (zi_b (fun x y => x + y) (zi_push (.int 4) (zi_b (fun x y => x * y) (zi_ild 5 (zi_b (fun x y => x + y) (zi_ist 7 (zi_ald 0 (zi_gf 2 1 (zi_push (.int 7) (zi_b (fun x y => x * y) (zi_ild 2 (zi_b (fun x y => x + y) (zi_push (.int 10) (zi_b (fun x y => x * y) (zi_ild 3 (zi_b (fun x y => x + y) (zi_ist 8 (zi_ald 0 (zi_gf 2 6 (zi_ild 7 (zi_iald (zi_push (.int 11) (zi_b (fun x y => x >>> (y &&& 31)) (zi_ild 8 (zi_ceq zb_X2_sumOf_126 (zi_ald 0 (zi_gf 2 5 (zi_push (.int 0) (zi_ild 1 (zi_iast (zi_ald 0 (zi_gf 2 5 (zi_push (.int 1) (zi_ild 2 (zi_iast (zi_ald 0 (zi_gf 2 5 (zi_push (.int 2) (zi_ild 3 (zi_iast (zi_ald 0 (zi_gf 2 5 (zi_push (.int 3) (zi_ild 4 (zi_iast (zi_ald 0 (zi_gf 2 5 (zi_push (.int 4) (zi_ild 5 (zi_iast (zi_ald 0 (zi_gf 2 5 (zi_push (.int 5) (zi_ild 6 (zi_iast (zi_ald 0 (zi_gf 2 6 (zi_ild 7 (zi_ild 8 (zi_push (.int 11) (zi_b (fun x y => x <<< (y &&& 31)) (zi_ald 0 (zi_vc 2 0 zf_X2_sumOfFacts (zi_push (.int 1024) (zi_b (fun x y => x + y) (zi_b (fun x y => x ||| y) (zi_iast zb_X2_sumOf_126)))) zi_no)))))))))))))))))))))))))))))))))))))))))))))))))))))))))))))))))))))))))) E st m
set_option maxRecDepth 20000 in
theorem zs_X2_sumOf_0 : zj_KC cX2_sumOf RX2 9 (2) (some .int) (0, fun _ => 0) 0 (zb_X2_sumOf_0) := (zr_aldn dX2_sumOf_0 rfl (zr_gf dX2_sumOf_1 zfl_X2_30_2 (zr_ifne dX2_sumOf_4 (tgt := 9) (by decide) (zr_ildn dX2_sumOf_9 rfl (zr_bipush dX2_sumOf_10 rfl (zr_imul dX2_sumOf_12 (zr_ild dX2_sumOf_13 (zr_iadd dX2_sumOf_15 (zr_bipush dX2_sumOf_16 rfl (zr_imul dX2_sumOf_18 (zr_ild dX2_sumOf_19 (zr_iadd dX2_sumOf_21 (zr_iconst dX2_sumOf_22 rfl (zr_imul dX2_sumOf_23 (zr_ild dX2_sumOf_24 (zr_iadd dX2_sumOf_26 (zr_ist dX2_sumOf_27 (zr_aldn dX2_sumOf_29 rfl (zr_gf dX2_sumOf_30 zfl_X2_37_2 (zr_bipush dX2_sumOf_33 rfl (zr_imul dX2_sumOf_35 (zr_ildn dX2_sumOf_36 rfl (zr_iadd dX2_sumOf_37 (zr_bipush dX2_sumOf_38 rfl (zr_imul dX2_sumOf_40 (zr_ildn dX2_sumOf_41 rfl (zr_iadd dX2_sumOf_42 (zr_ist dX2_sumOf_43 (zr_aldn dX2_sumOf_45 rfl (zr_gf dX2_sumOf_46 zfl_X2_21_2 (zr_ild dX2_sumOf_49 (zr_iald dX2_sumOf_51 (zr_bipush dX2_sumOf_52 rfl (zr_ishr dX2_sumOf_54 (zr_ild dX2_sumOf_55 (zr_iceq dX2_sumOf_57 (tgt := 126) (by decide) (zs_X2_sumOf_126) (zr_aldn dX2_sumOf_60 rfl (zr_gf dX2_sumOf_61 zfl_X2_18_2 (zr_iconst dX2_sumOf_64 rfl (zr_ildn dX2_sumOf_65 rfl (zr_iast dX2_sumOf_66 (zr_aldn dX2_sumOf_67 rfl (zr_gf dX2_sumOf_68 zfl_X2_18_2 (zr_iconst dX2_sumOf_71 rfl (zr_ildn dX2_sumOf_72 rfl (zr_iast dX2_sumOf_73 (zr_aldn dX2_sumOf_74 rfl (zr_gf dX2_sumOf_75 zfl_X2_18_2 (zr_iconst dX2_sumOf_78 rfl (zr_ildn dX2_sumOf_79 rfl (zr_iast dX2_sumOf_80 (zr_aldn dX2_sumOf_81 rfl (zr_gf dX2_sumOf_82 zfl_X2_18_2 (zr_iconst dX2_sumOf_85 rfl (zr_ild dX2_sumOf_86 (zr_iast dX2_sumOf_88 (zr_aldn dX2_sumOf_89 rfl (zr_gf dX2_sumOf_90 zfl_X2_18_2 (zr_iconst dX2_sumOf_93 rfl (zr_ild dX2_sumOf_94 (zr_iast dX2_sumOf_96 (zr_aldn dX2_sumOf_97 rfl (zr_gf dX2_sumOf_98 zfl_X2_18_2 (zr_iconst dX2_sumOf_101 rfl (zr_ild dX2_sumOf_102 (zr_iast dX2_sumOf_104 (zr_aldn dX2_sumOf_105 rfl (zr_gf dX2_sumOf_106 zfl_X2_21_2 (zr_ild dX2_sumOf_109 (zr_ild dX2_sumOf_111 (zr_bipush dX2_sumOf_113 rfl (zr_ishl dX2_sumOf_115 (zr_aldn dX2_sumOf_116 rfl (zr_callV dX2_sumOf_117 zm_X2_sumOfFacts ⟨⟨zq_630, zq_74⟩, by decide +kernel, by omega, by decide⟩ rfl rfl zq_627 zq_629 zq_14 (zr_sipush dX2_sumOf_120 rfl (zr_iadd dX2_sumOf_123 (zr_ior dX2_sumOf_124 (zr_iast dX2_sumOf_125 (zs_X2_sumOf_126))))) zr_no))))))))))))))))))))))))))))))))))))))))))))))))))))))))))))))))))))))) (zr_iconst dX2_sumOf_7 rfl (zr_ret dX2_sumOf_8)))))
def zf_X2_sumOf : zj_F := zj_run 9 zb_X2_sumOf_0
theorem zm_X2_sumOf : zj_MS 2 yX2_sumOf cX2_sumOf 9 (some .int) zf_X2_sumOf := zj_met (own := RX2) rfl (by decide +kernel) (Or.inr (Or.inl rfl)) (zs_X2_sumOf_0)
theorem dX4_isWrong_0 : decode cX4_isWrong 0 = .ok (.aload_n 0, 1) := by decide +kernel
theorem dX4_isWrong_1 : decode cX4_isWrong 1 = .ok (.getfield 9, 3) := by decide +kernel
theorem dX4_isWrong_4 : decode cX4_isWrong 4 = .ok (.aload_n 0, 1) := by decide +kernel
theorem dX4_isWrong_5 : decode cX4_isWrong 5 = .ok (.getfield 24, 3) := by decide +kernel
theorem dX4_isWrong_8 : decode cX4_isWrong 8 = .ok (.iload_n 1, 1) := by decide +kernel
theorem dX4_isWrong_9 : decode cX4_isWrong 9 = .ok (.iaload, 1) := by decide +kernel
theorem dX4_isWrong_10 : decode cX4_isWrong 10 = .ok (.iaload, 1) := by decide +kernel
theorem dX4_isWrong_11 : decode cX4_isWrong 11 = .ok (.aload_n 0, 1) := by decide +kernel
theorem dX4_isWrong_12 : decode cX4_isWrong 12 = .ok (.getfield 21, 3) := by decide +kernel
theorem dX4_isWrong_15 : decode cX4_isWrong 15 = .ok (.iload_n 1, 1) := by decide +kernel
theorem dX4_isWrong_16 : decode cX4_isWrong 16 = .ok (.iaload, 1) := by decide +kernel
theorem dX4_isWrong_17 : decode cX4_isWrong 17 = .ok (.ishr, 1) := by decide +kernel
theorem dX4_isWrong_18 : decode cX4_isWrong 18 = .ok (.iconst 1, 1) := by decide +kernel
theorem dX4_isWrong_19 : decode cX4_isWrong 19 = .ok (.iand, 1) := by decide +kernel
theorem dX4_isWrong_20 : decode cX4_isWrong 20 = .ok (.ifCond .ne 7, 3) := by decide +kernel
theorem dX4_isWrong_23 : decode cX4_isWrong 23 = .ok (.iconst 1, 1) := by decide +kernel
theorem dX4_isWrong_24 : decode cX4_isWrong 24 = .ok (.goto 4, 3) := by decide +kernel
theorem dX4_isWrong_27 : decode cX4_isWrong 27 = .ok (.iconst 0, 1) := by decide +kernel
theorem dX4_isWrong_28 : decode cX4_isWrong 28 = .ok (.ireturn, 1) := by decide +kernel
def zb_X4_isWrong_28 (E : zj_E) (st : List Value) (m : zj_M) : zj_R := (zi_ret (some .boolean)) E st m
set_option maxRecDepth 20000 in
theorem zs_X4_isWrong_28 : zj_KC cX4_isWrong RX4 2 (0) (some .boolean) (0, fun _ => 0) 28 (zb_X4_isWrong_28) := (zr_ret dX4_isWrong_28)
def zb_X4_isWrong_0 (E : zj_E) (st : List Value) (m : zj_M) : zj_R := (zi_ald 0 (zi_gf 4 0 (zi_ald 0 (zi_gf 4 4 (zi_ild 1 (zi_iald (zi_iald (zi_ald 0 (zi_gf 4 3 (zi_ild 1 (zi_iald (zi_b (fun x y => x >>> (y &&& 31)) (zi_push (.int 1) (zi_b (fun x y => x &&& y) (zi_eq (zi_push (.int 1) zb_X4_isWrong_28) (zi_push (.int 0) zb_X4_isWrong_28)))))))))))))))) E st m
set_option maxRecDepth 20000 in
theorem zs_X4_isWrong_0 : zj_KC cX4_isWrong RX4 2 (0) (some .boolean) (0, fun _ => 0) 0 (zb_X4_isWrong_0) := (zr_aldn dX4_isWrong_0 rfl (zr_gf dX4_isWrong_1 zfl_X4_9_4 (zr_aldn dX4_isWrong_4 rfl (zr_gf dX4_isWrong_5 zfl_X4_24_4 (zr_ildn dX4_isWrong_8 rfl (zr_iald dX4_isWrong_9 (zr_iald dX4_isWrong_10 (zr_aldn dX4_isWrong_11 rfl (zr_gf dX4_isWrong_12 zfl_X4_21_4 (zr_ildn dX4_isWrong_15 rfl (zr_iald dX4_isWrong_16 (zr_ishr dX4_isWrong_17 (zr_iconst dX4_isWrong_18 rfl (zr_iand dX4_isWrong_19 (zr_ifne dX4_isWrong_20 (tgt := 27) (by decide) (zr_iconst dX4_isWrong_27 rfl (zs_X4_isWrong_28)) (zr_iconst dX4_isWrong_23 rfl (zr_goto dX4_isWrong_24 (tgt := 28) (by decide) (zs_X4_isWrong_28))))))))))))))))))
def zf_X4_isWrong : zj_F := zj_run 2 zb_X4_isWrong_0
theorem zm_X4_isWrong : zj_MS 0 yX4_isWrong cX4_isWrong 2 (some .boolean) zf_X4_isWrong := zj_met (own := RX4) rfl (by decide +kernel) (Or.inr (Or.inr (Or.inl rfl))) (zs_X4_isWrong_0)
theorem dX7_sway_0 : decode cX7_sway 0 = .ok (.iconst 2, 1) := by decide +kernel
theorem dX7_sway_1 : decode cX7_sway 1 = .ok (.aload_n 0, 1) := by decide +kernel
theorem dX7_sway_2 : decode cX7_sway 2 = .ok (.aload_n 1, 1) := by decide +kernel
theorem dX7_sway_3 : decode cX7_sway 3 = .ok (.iload_n 2, 1) := by decide +kernel
theorem dX7_sway_4 : decode cX7_sway 4 = .ok (.iload_n 3, 1) := by decide +kernel
theorem dX7_sway_5 : decode cX7_sway 5 = .ok (.invokespecial 7, 3) := by decide +kernel
theorem dX7_sway_8 : decode cX7_sway 8 = .ok (.imul, 1) := by decide +kernel
theorem dX7_sway_9 : decode cX7_sway 9 = .ok (.ireturn, 1) := by decide +kernel
def zb_X7_sway_8 (E : zj_E) (st : List Value) (m : zj_M) : zj_R := (zi_b (fun x y => x * y) (zi_ret (some .int))) E st m
set_option maxRecDepth 20000 in
theorem zs_X7_sway_8 : zj_KC cX7_sway RX7 4 (1) (some .int) (0, fun _ => 0) 8 (zb_X7_sway_8) := (zr_imul dX7_sway_8 (zr_ret dX7_sway_9))
def zb_X7_sway_0 (E : zj_E) (st : List Value) (m : zj_M) : zj_R := (zi_push (.int 2) (zi_ald 0 (zi_ald 1 (zi_ild 2 (zi_ild 3 (zi_vc 7 3 zf_X9_sway zb_X7_sway_8 (zi_vc 3 3 zf_X9_sway zb_X7_sway_8 zi_no))))))) E st m
set_option maxRecDepth 20000 in
theorem zs_X7_sway_0 : zj_KC cX7_sway RX7 4 (1) (some .int) (0, fun _ => 0) 0 (zb_X7_sway_0) := (zr_iconst dX7_sway_0 rfl (zr_aldn dX7_sway_1 rfl (zr_aldn dX7_sway_2 rfl (zr_ildn dX7_sway_3 rfl (zr_ildn dX7_sway_4 rfl (zr_callSU dX7_sway_5 zm_X9_sway ⟨⟨zq_667, zq_67⟩, by decide +kernel, by omega, by decide⟩ rfl zq_656 zq_639 zq_149 (by decide) zq_637 (zs_X7_sway_8) (zr_callSU dX7_sway_5 zm_X9_sway ⟨⟨zq_667, zq_67⟩, by decide +kernel, by omega, by decide⟩ rfl zq_656 zq_639 zq_149 (by decide) zq_637 (zs_X7_sway_8) zr_no)))))))
def zf_X7_sway : zj_F := zj_run 4 zb_X7_sway_0
theorem zm_X7_sway : zj_MS 1 yX7_sway cX7_sway 4 (some .int) zf_X7_sway := zj_met (own := RX7) rfl (by decide +kernel) (Or.inr (Or.inl rfl)) (zs_X7_sway_0)
theorem dX3_sway_0 : decode cX3_sway 0 = .ok (.aload_n 1, 1) := by decide +kernel
theorem dX3_sway_1 : decode cX3_sway 1 = .ok (.iload_n 2, 1) := by decide +kernel
theorem dX3_sway_2 : decode cX3_sway 2 = .ok (.invokevirtual 7, 3) := by decide +kernel
theorem dX3_sway_5 : decode cX3_sway 5 = .ok (.ifCond .eq 13, 3) := by decide +kernel
theorem dX3_sway_8 : decode cX3_sway 8 = .ok (.aload_n 0, 1) := by decide +kernel
theorem dX3_sway_9 : decode cX3_sway 9 = .ok (.aload_n 1, 1) := by decide +kernel
theorem dX3_sway_10 : decode cX3_sway 10 = .ok (.iload_n 2, 1) := by decide +kernel
theorem dX3_sway_11 : decode cX3_sway 11 = .ok (.iload_n 3, 1) := by decide +kernel
theorem dX3_sway_12 : decode cX3_sway 12 = .ok (.invokespecial 13, 3) := by decide +kernel
theorem dX3_sway_15 : decode cX3_sway 15 = .ok (.goto 4, 3) := by decide +kernel
theorem dX3_sway_18 : decode cX3_sway 18 = .ok (.iconst 0, 1) := by decide +kernel
theorem dX3_sway_19 : decode cX3_sway 19 = .ok (.ireturn, 1) := by decide +kernel
def zb_X3_sway_19 (E : zj_E) (st : List Value) (m : zj_M) : zj_R := (zi_ret (some .int)) E st m
set_option maxRecDepth 20000 in
theorem zs_X3_sway_19 : zj_KC cX3_sway RX3 4 (2) (some .int) (0, fun _ => 0) 19 (zb_X3_sway_19) := (zr_ret dX3_sway_19)
def zb_X3_sway_0 (E : zj_E) (st : List Value) (m : zj_M) : zj_R := (zi_ald 1 (zi_ild 2 (zi_vc 4 1 zf_X4_isWrong (zi_eq (zi_push (.int 0) zb_X3_sway_19) (zi_ald 0 (zi_ald 1 (zi_ild 2 (zi_ild 3 (zi_vc 3 3 zf_X7_sway zb_X3_sway_19 zi_no)))))) zi_no))) E st m
set_option maxRecDepth 20000 in
theorem zs_X3_sway_0 : zj_KC cX3_sway RX3 4 (2) (some .int) (0, fun _ => 0) 0 (zb_X3_sway_0) := (zr_aldn dX3_sway_0 rfl (zr_ildn dX3_sway_1 rfl (zr_callV dX3_sway_2 zm_X4_isWrong ⟨⟨zq_614, zq_76⟩, by decide +kernel, by omega, by decide⟩ rfl rfl zq_652 zq_612 zq_613 (zr_ifeq dX3_sway_5 (tgt := 18) (by decide) (zr_iconst dX3_sway_18 rfl (zs_X3_sway_19)) (zr_aldn dX3_sway_8 rfl (zr_aldn dX3_sway_9 rfl (zr_ildn dX3_sway_10 rfl (zr_ildn dX3_sway_11 rfl (zr_callSU dX3_sway_12 zm_X7_sway ⟨⟨zq_655, zq_69⟩, by decide +kernel, by omega, by decide⟩ rfl zq_653 zq_1378 zq_173 (by decide) zq_654 (zr_goto dX3_sway_15 (tgt := 19) (by decide) (zs_X3_sway_19)) zr_no)))))) zr_no)))
def zf_X3_sway : zj_F := zj_run 4 zb_X3_sway_0
theorem zm_X3_sway : zj_MS 2 yX3_sway cX3_sway 4 (some .int) zf_X3_sway := zj_met (own := RX3) rfl (by decide +kernel) (Or.inr (Or.inl rfl)) (zs_X3_sway_0)
theorem dX7_pace_0 : decode cX7_pace 0 = .ok (.aload_n 1, 1) := by decide +kernel
theorem dX7_pace_1 : decode cX7_pace 1 = .ok (.getfield 11, 3) := by decide +kernel
theorem dX7_pace_4 : decode cX7_pace 4 = .ok (.iconst 2, 1) := by decide +kernel
theorem dX7_pace_5 : decode cX7_pace 5 = .ok (.irem, 1) := by decide +kernel
theorem dX7_pace_6 : decode cX7_pace 6 = .ok (.ifCond .ne 7, 3) := by decide +kernel
theorem dX7_pace_9 : decode cX7_pace 9 = .ok (.iconst 1, 1) := by decide +kernel
theorem dX7_pace_10 : decode cX7_pace 10 = .ok (.goto 4, 3) := by decide +kernel
theorem dX7_pace_13 : decode cX7_pace 13 = .ok (.iconst 0, 1) := by decide +kernel
theorem dX7_pace_14 : decode cX7_pace 14 = .ok (.ireturn, 1) := by decide +kernel
def zb_X7_pace_14 (E : zj_E) (st : List Value) (m : zj_M) : zj_R := (zi_ret (some .int)) E st m
set_option maxRecDepth 20000 in
theorem zs_X7_pace_14 : zj_KC cX7_pace RX7 3 (0) (some .int) (0, fun _ => 0) 14 (zb_X7_pace_14) := (zr_ret dX7_pace_14)
def zb_X7_pace_0 (E : zj_E) (st : List Value) (m : zj_M) : zj_R := (zi_ald 1 (zi_gf 4 8 (zi_push (.int 2) (zi_bd (fun x y => x - x / y * y) (zi_eq (zi_push (.int 1) zb_X7_pace_14) (zi_push (.int 0) zb_X7_pace_14)))))) E st m
set_option maxRecDepth 20000 in
theorem zs_X7_pace_0 : zj_KC cX7_pace RX7 3 (0) (some .int) (0, fun _ => 0) 0 (zb_X7_pace_0) := (zr_aldn dX7_pace_0 rfl (zr_gf dX7_pace_1 zfl_X7_11_4 (zr_iconst dX7_pace_4 rfl (zr_irem dX7_pace_5 (zr_ifne dX7_pace_6 (tgt := 13) (by decide) (zr_iconst dX7_pace_13 rfl (zs_X7_pace_14)) (zr_iconst dX7_pace_9 rfl (zr_goto dX7_pace_10 (tgt := 14) (by decide) (zs_X7_pace_14))))))))
def zf_X7_pace : zj_F := zj_run 3 zb_X7_pace_0
theorem zm_X7_pace : zj_MS 0 yX7_pace cX7_pace 3 (some .int) zf_X7_pace := zj_met (own := RX7) rfl (by decide +kernel) (Or.inr (Or.inl rfl)) (zs_X7_pace_0)
theorem dX3_pace_0 : decode cX3_pace 0 = .ok (.aload_n 0, 1) := by decide +kernel
theorem dX3_pace_1 : decode cX3_pace 1 = .ok (.aload_n 1, 1) := by decide +kernel
theorem dX3_pace_2 : decode cX3_pace 2 = .ok (.iload_n 2, 1) := by decide +kernel
theorem dX3_pace_3 : decode cX3_pace 3 = .ok (.invokespecial 17, 3) := by decide +kernel
theorem dX3_pace_6 : decode cX3_pace 6 = .ok (.iconst 1, 1) := by decide +kernel
theorem dX3_pace_7 : decode cX3_pace 7 = .ok (.iadd, 1) := by decide +kernel
theorem dX3_pace_8 : decode cX3_pace 8 = .ok (.ireturn, 1) := by decide +kernel
def zb_X3_pace_0 (E : zj_E) (st : List Value) (m : zj_M) : zj_R := (zi_ald 0 (zi_ald 1 (zi_ild 2 (zi_vc 3 2 zf_X7_pace (zi_push (.int 1) (zi_b (fun x y => x + y) (zi_ret (some .int)))) zi_no)))) E st m
set_option maxRecDepth 20000 in
theorem zs_X3_pace_0 : zj_KC cX3_pace RX3 3 (1) (some .int) (0, fun _ => 0) 0 (zb_X3_pace_0) := (zr_aldn dX3_pace_0 rfl (zr_aldn dX3_pace_1 rfl (zr_ildn dX3_pace_2 rfl (zr_callSU dX3_pace_3 zm_X7_pace ⟨⟨zq_689, zq_69⟩, by decide +kernel, by omega, by decide⟩ rfl zq_687 zq_1381 zq_173 (by decide) zq_688 (zr_iconst dX3_pace_6 rfl (zr_iadd dX3_pace_7 (zr_ret dX3_pace_8))) zr_no))))
def zf_X3_pace : zj_F := zj_run 3 zb_X3_pace_0
theorem zm_X3_pace : zj_MS 1 yX3_pace cX3_pace 3 (some .int) zf_X3_pace := zj_met (own := RX3) rfl (by decide +kernel) (Or.inr (Or.inl rfl)) (zs_X3_pace_0)
theorem dX4_copyFrom_0 : decode cX4_copyFrom 0 = .ok (.aload_n 1, 1) := by decide +kernel
theorem dX4_copyFrom_1 : decode cX4_copyFrom 1 = .ok (.getfield 9, 3) := by decide +kernel
theorem dX4_copyFrom_4 : decode cX4_copyFrom 4 = .ok (.aload_n 0, 1) := by decide +kernel
theorem dX4_copyFrom_5 : decode cX4_copyFrom 5 = .ok (.getfield 9, 3) := by decide +kernel
theorem dX4_copyFrom_8 : decode cX4_copyFrom 8 = .ok (.invokestatic 51, 3) := by decide +kernel
theorem dX4_copyFrom_11 : decode cX4_copyFrom 11 = .ok (.aload_n 1, 1) := by decide +kernel
theorem dX4_copyFrom_12 : decode cX4_copyFrom 12 = .ok (.getfield 15, 3) := by decide +kernel
theorem dX4_copyFrom_15 : decode cX4_copyFrom 15 = .ok (.aload_n 0, 1) := by decide +kernel
theorem dX4_copyFrom_16 : decode cX4_copyFrom 16 = .ok (.getfield 15, 3) := by decide +kernel
theorem dX4_copyFrom_19 : decode cX4_copyFrom 19 = .ok (.invokestatic 51, 3) := by decide +kernel
theorem dX4_copyFrom_22 : decode cX4_copyFrom 22 = .ok (.aload_n 1, 1) := by decide +kernel
theorem dX4_copyFrom_23 : decode cX4_copyFrom 23 = .ok (.getfield 18, 3) := by decide +kernel
theorem dX4_copyFrom_26 : decode cX4_copyFrom 26 = .ok (.aload_n 0, 1) := by decide +kernel
theorem dX4_copyFrom_27 : decode cX4_copyFrom 27 = .ok (.getfield 18, 3) := by decide +kernel
theorem dX4_copyFrom_30 : decode cX4_copyFrom 30 = .ok (.invokestatic 51, 3) := by decide +kernel
theorem dX4_copyFrom_33 : decode cX4_copyFrom 33 = .ok (.aload_n 1, 1) := by decide +kernel
theorem dX4_copyFrom_34 : decode cX4_copyFrom 34 = .ok (.getfield 21, 3) := by decide +kernel
theorem dX4_copyFrom_37 : decode cX4_copyFrom 37 = .ok (.aload_n 0, 1) := by decide +kernel
theorem dX4_copyFrom_38 : decode cX4_copyFrom 38 = .ok (.getfield 21, 3) := by decide +kernel
theorem dX4_copyFrom_41 : decode cX4_copyFrom 41 = .ok (.invokestatic 51, 3) := by decide +kernel
theorem dX4_copyFrom_44 : decode cX4_copyFrom 44 = .ok (.aload_n 1, 1) := by decide +kernel
theorem dX4_copyFrom_45 : decode cX4_copyFrom 45 = .ok (.getfield 24, 3) := by decide +kernel
theorem dX4_copyFrom_48 : decode cX4_copyFrom 48 = .ok (.aload_n 0, 1) := by decide +kernel
theorem dX4_copyFrom_49 : decode cX4_copyFrom 49 = .ok (.getfield 24, 3) := by decide +kernel
theorem dX4_copyFrom_52 : decode cX4_copyFrom 52 = .ok (.invokestatic 51, 3) := by decide +kernel
theorem dX4_copyFrom_55 : decode cX4_copyFrom 55 = .ok (.aload_n 1, 1) := by decide +kernel
theorem dX4_copyFrom_56 : decode cX4_copyFrom 56 = .ok (.getfield 27, 3) := by decide +kernel
theorem dX4_copyFrom_59 : decode cX4_copyFrom 59 = .ok (.aload_n 0, 1) := by decide +kernel
theorem dX4_copyFrom_60 : decode cX4_copyFrom 60 = .ok (.getfield 27, 3) := by decide +kernel
theorem dX4_copyFrom_63 : decode cX4_copyFrom 63 = .ok (.invokestatic 51, 3) := by decide +kernel
theorem dX4_copyFrom_66 : decode cX4_copyFrom 66 = .ok (.aload_n 1, 1) := by decide +kernel
theorem dX4_copyFrom_67 : decode cX4_copyFrom 67 = .ok (.getfield 30, 3) := by decide +kernel
theorem dX4_copyFrom_70 : decode cX4_copyFrom 70 = .ok (.aload_n 0, 1) := by decide +kernel
theorem dX4_copyFrom_71 : decode cX4_copyFrom 71 = .ok (.getfield 30, 3) := by decide +kernel
theorem dX4_copyFrom_74 : decode cX4_copyFrom 74 = .ok (.invokestatic 51, 3) := by decide +kernel
theorem dX4_copyFrom_77 : decode cX4_copyFrom 77 = .ok (.aload_n 0, 1) := by decide +kernel
theorem dX4_copyFrom_78 : decode cX4_copyFrom 78 = .ok (.aload_n 1, 1) := by decide +kernel
theorem dX4_copyFrom_79 : decode cX4_copyFrom 79 = .ok (.getfield 57, 3) := by decide +kernel
theorem dX4_copyFrom_82 : decode cX4_copyFrom 82 = .ok (.putfield 57, 3) := by decide +kernel
theorem dX4_copyFrom_85 : decode cX4_copyFrom 85 = .ok (.aload_n 0, 1) := by decide +kernel
theorem dX4_copyFrom_86 : decode cX4_copyFrom 86 = .ok (.aload_n 1, 1) := by decide +kernel
theorem dX4_copyFrom_87 : decode cX4_copyFrom 87 = .ok (.getfield 60, 3) := by decide +kernel
theorem dX4_copyFrom_90 : decode cX4_copyFrom 90 = .ok (.putfield 60, 3) := by decide +kernel
theorem dX4_copyFrom_93 : decode cX4_copyFrom 93 = .ok (.aload_n 0, 1) := by decide +kernel
theorem dX4_copyFrom_94 : decode cX4_copyFrom 94 = .ok (.aload_n 1, 1) := by decide +kernel
theorem dX4_copyFrom_95 : decode cX4_copyFrom 95 = .ok (.getfield 63, 3) := by decide +kernel
theorem dX4_copyFrom_98 : decode cX4_copyFrom 98 = .ok (.putfield 63, 3) := by decide +kernel
theorem dX4_copyFrom_101 : decode cX4_copyFrom 101 = .ok (.aload_n 0, 1) := by decide +kernel
theorem dX4_copyFrom_102 : decode cX4_copyFrom 102 = .ok (.aload_n 1, 1) := by decide +kernel
theorem dX4_copyFrom_103 : decode cX4_copyFrom 103 = .ok (.getfield 66, 3) := by decide +kernel
theorem dX4_copyFrom_106 : decode cX4_copyFrom 106 = .ok (.putfield 66, 3) := by decide +kernel
theorem dX4_copyFrom_109 : decode cX4_copyFrom 109 = .ok (.return_, 1) := by decide +kernel
def zb_X4_copyFrom_0 (E : zj_E) (st : List Value) (m : zj_M) : zj_R := (zi_ald 1 (zi_gf 4 0 (zi_ald 0 (zi_gf 4 0 (zi_call 2 zf_X5_copy (zi_ald 1 (zi_gf 4 1 (zi_ald 0 (zi_gf 4 1 (zi_call 2 zf_X5_copy (zi_ald 1 (zi_gf 4 2 (zi_ald 0 (zi_gf 4 2 (zi_call 2 zf_X5_copy (zi_ald 1 (zi_gf 4 3 (zi_ald 0 (zi_gf 4 3 (zi_call 2 zf_X5_copy (zi_ald 1 (zi_gf 4 4 (zi_ald 0 (zi_gf 4 4 (zi_call 2 zf_X5_copy (zi_ald 1 (zi_gf 4 5 (zi_ald 0 (zi_gf 4 5 (zi_call 2 zf_X5_copy (zi_ald 1 (zi_gf 4 6 (zi_ald 0 (zi_gf 4 6 (zi_call 2 zf_X5_copy (zi_ald 0 (zi_ald 1 (zi_gf 4 7 (zi_pf 4 7 (zi_ald 0 (zi_ald 1 (zi_gf 4 8 (zi_pf 4 8 (zi_ald 0 (zi_ald 1 (zi_gf 4 9 (zi_pf 4 9 (zi_ald 0 (zi_ald 1 (zi_gf 4 10 (zi_pf 4 10 (zi_ret none)))))))))))))))))))))))))))))))))))))))))))))))))))) E st m
set_option maxRecDepth 20000 in
theorem zs_X4_copyFrom_0 : zj_KC cX4_copyFrom RX4 2 (2) none (0, fun _ => 0) 0 (zb_X4_copyFrom_0) := (zr_aldn dX4_copyFrom_0 rfl (zr_gf dX4_copyFrom_1 zfl_X4_9_4 (zr_aldn dX4_copyFrom_4 rfl (zr_gf dX4_copyFrom_5 zfl_X4_9_4 (zr_callS dX4_copyFrom_8 zm_X5_copy ⟨⟨zq_560, zq_66⟩, by decide +kernel, by omega, by decide⟩ zq_738 zq_559 (zr_aldn dX4_copyFrom_11 rfl (zr_gf dX4_copyFrom_12 zfl_X4_15_4 (zr_aldn dX4_copyFrom_15 rfl (zr_gf dX4_copyFrom_16 zfl_X4_15_4 (zr_callS dX4_copyFrom_19 zm_X5_copy ⟨⟨zq_560, zq_66⟩, by decide +kernel, by omega, by decide⟩ zq_738 zq_559 (zr_aldn dX4_copyFrom_22 rfl (zr_gf dX4_copyFrom_23 zfl_X4_18_4 (zr_aldn dX4_copyFrom_26 rfl (zr_gf dX4_copyFrom_27 zfl_X4_18_4 (zr_callS dX4_copyFrom_30 zm_X5_copy ⟨⟨zq_560, zq_66⟩, by decide +kernel, by omega, by decide⟩ zq_738 zq_559 (zr_aldn dX4_copyFrom_33 rfl (zr_gf dX4_copyFrom_34 zfl_X4_21_4 (zr_aldn dX4_copyFrom_37 rfl (zr_gf dX4_copyFrom_38 zfl_X4_21_4 (zr_callS dX4_copyFrom_41 zm_X5_copy ⟨⟨zq_560, zq_66⟩, by decide +kernel, by omega, by decide⟩ zq_738 zq_559 (zr_aldn dX4_copyFrom_44 rfl (zr_gf dX4_copyFrom_45 zfl_X4_24_4 (zr_aldn dX4_copyFrom_48 rfl (zr_gf dX4_copyFrom_49 zfl_X4_24_4 (zr_callS dX4_copyFrom_52 zm_X5_copy ⟨⟨zq_560, zq_66⟩, by decide +kernel, by omega, by decide⟩ zq_738 zq_559 (zr_aldn dX4_copyFrom_55 rfl (zr_gf dX4_copyFrom_56 zfl_X4_27_4 (zr_aldn dX4_copyFrom_59 rfl (zr_gf dX4_copyFrom_60 zfl_X4_27_4 (zr_callS dX4_copyFrom_63 zm_X5_copy ⟨⟨zq_560, zq_66⟩, by decide +kernel, by omega, by decide⟩ zq_738 zq_559 (zr_aldn dX4_copyFrom_66 rfl (zr_gf dX4_copyFrom_67 zfl_X4_30_4 (zr_aldn dX4_copyFrom_70 rfl (zr_gf dX4_copyFrom_71 zfl_X4_30_4 (zr_callS dX4_copyFrom_74 zm_X5_copy ⟨⟨zq_560, zq_66⟩, by decide +kernel, by omega, by decide⟩ zq_738 zq_559 (zr_aldn dX4_copyFrom_77 rfl (zr_aldn dX4_copyFrom_78 rfl (zr_gf dX4_copyFrom_79 zfl_X4_57_4 (zr_pf dX4_copyFrom_82 zfl_X4_57_4w (zr_aldn dX4_copyFrom_85 rfl (zr_aldn dX4_copyFrom_86 rfl (zr_gf dX4_copyFrom_87 zfl_X4_60_4 (zr_pf dX4_copyFrom_90 zfl_X4_60_4w (zr_aldn dX4_copyFrom_93 rfl (zr_aldn dX4_copyFrom_94 rfl (zr_gf dX4_copyFrom_95 zfl_X4_63_4 (zr_pf dX4_copyFrom_98 zfl_X4_63_4w (zr_aldn dX4_copyFrom_101 rfl (zr_aldn dX4_copyFrom_102 rfl (zr_gf dX4_copyFrom_103 zfl_X4_66_4 (zr_pf dX4_copyFrom_106 zfl_X4_66_4w (zr_ret dX4_copyFrom_109))))))))))))))))))))))))))))))))))))))))))))))))))))
def zf_X4_copyFrom : zj_F := zj_run 2 zb_X4_copyFrom_0
theorem zm_X4_copyFrom : zj_MS 2 yX4_copyFrom cX4_copyFrom 2 none zf_X4_copyFrom := zj_met (own := RX4) rfl (by decide +kernel) (Or.inl rfl) (zs_X4_copyFrom_0)
theorem dX4_putAway_0 : decode cX4_putAway 0 = .ok (.aload_n 0, 1) := by decide +kernel
theorem dX4_putAway_1 : decode cX4_putAway 1 = .ok (.iload_n 2, 1) := by decide +kernel
theorem dX4_putAway_2 : decode cX4_putAway 2 = .ok (.ifCond .eq 14, 3) := by decide +kernel
theorem dX4_putAway_5 : decode cX4_putAway 5 = .ok (.aload_n 0, 1) := by decide +kernel
theorem dX4_putAway_6 : decode cX4_putAway 6 = .ok (.getfield 66, 3) := by decide +kernel
theorem dX4_putAway_9 : decode cX4_putAway 9 = .ok (.iconst 1, 1) := by decide +kernel
theorem dX4_putAway_10 : decode cX4_putAway 10 = .ok (.iload_n 1, 1) := by decide +kernel
theorem dX4_putAway_11 : decode cX4_putAway 11 = .ok (.ishl, 1) := by decide +kernel
theorem dX4_putAway_12 : decode cX4_putAway 12 = .ok (.ior, 1) := by decide +kernel
theorem dX4_putAway_13 : decode cX4_putAway 13 = .ok (.goto 13, 3) := by decide +kernel
theorem dX4_putAway_16 : decode cX4_putAway 16 = .ok (.aload_n 0, 1) := by decide +kernel
theorem dX4_putAway_17 : decode cX4_putAway 17 = .ok (.getfield 66, 3) := by decide +kernel
theorem dX4_putAway_20 : decode cX4_putAway 20 = .ok (.iconst 1, 1) := by decide +kernel
theorem dX4_putAway_21 : decode cX4_putAway 21 = .ok (.iload_n 1, 1) := by decide +kernel
theorem dX4_putAway_22 : decode cX4_putAway 22 = .ok (.ishl, 1) := by decide +kernel
theorem dX4_putAway_23 : decode cX4_putAway 23 = .ok (.iconst (-1), 1) := by decide +kernel
theorem dX4_putAway_24 : decode cX4_putAway 24 = .ok (.ixor, 1) := by decide +kernel
theorem dX4_putAway_25 : decode cX4_putAway 25 = .ok (.iand, 1) := by decide +kernel
theorem dX4_putAway_26 : decode cX4_putAway 26 = .ok (.putfield 66, 3) := by decide +kernel
theorem dX4_putAway_29 : decode cX4_putAway 29 = .ok (.return_, 1) := by decide +kernel
def zb_X4_putAway_26 (E : zj_E) (st : List Value) (m : zj_M) : zj_R := (zi_pf 4 10 (zi_ret none)) E st m
set_option maxRecDepth 20000 in
theorem zs_X4_putAway_26 : zj_KC cX4_putAway RX4 3 (0) none (0, fun _ => 0) 26 (zb_X4_putAway_26) := (zr_pf dX4_putAway_26 zfl_X4_66_4w (zr_ret dX4_putAway_29))
def zb_X4_putAway_0 (E : zj_E) (st : List Value) (m : zj_M) : zj_R := (zi_ald 0 (zi_ild 2 (zi_eq (zi_ald 0 (zi_gf 4 10 (zi_push (.int 1) (zi_ild 1 (zi_b (fun x y => x <<< (y &&& 31)) (zi_push (.int (-1)) (zi_b (fun x y => x ^^^ y) (zi_b (fun x y => x &&& y) zb_X4_putAway_26)))))))) (zi_ald 0 (zi_gf 4 10 (zi_push (.int 1) (zi_ild 1 (zi_b (fun x y => x <<< (y &&& 31)) (zi_b (fun x y => x ||| y) zb_X4_putAway_26))))))))) E st m
set_option maxRecDepth 20000 in
theorem zs_X4_putAway_0 : zj_KC cX4_putAway RX4 3 (0) none (0, fun _ => 0) 0 (zb_X4_putAway_0) := (zr_aldn dX4_putAway_0 rfl (zr_ildn dX4_putAway_1 rfl (zr_ifeq dX4_putAway_2 (tgt := 16) (by decide) (zr_aldn dX4_putAway_16 rfl (zr_gf dX4_putAway_17 zfl_X4_66_4 (zr_iconst dX4_putAway_20 rfl (zr_ildn dX4_putAway_21 rfl (zr_ishl dX4_putAway_22 (zr_iconst dX4_putAway_23 rfl (zr_ixor dX4_putAway_24 (zr_iand dX4_putAway_25 (zs_X4_putAway_26))))))))) (zr_aldn dX4_putAway_5 rfl (zr_gf dX4_putAway_6 zfl_X4_66_4 (zr_iconst dX4_putAway_9 rfl (zr_ildn dX4_putAway_10 rfl (zr_ishl dX4_putAway_11 (zr_ior dX4_putAway_12 (zr_goto dX4_putAway_13 (tgt := 26) (by decide) (zs_X4_putAway_26)))))))))))
def zf_X4_putAway : zj_F := zj_run 3 zb_X4_putAway_0
theorem zm_X4_putAway : zj_MS 0 yX4_putAway cX4_putAway 3 none zf_X4_putAway := zj_met (own := RX4) rfl (by decide +kernel) (Or.inl rfl) (zs_X4_putAway_0)
theorem dX4_add_0 : decode cX4_add 0 = .ok (.aload_n 0, 1) := by decide +kernel
theorem dX4_add_1 : decode cX4_add 1 = .ok (.getfield 57, 3) := by decide +kernel
theorem dX4_add_4 : decode cX4_add 4 = .ok (.istore 5, 2) := by decide +kernel
theorem dX4_add_6 : decode cX4_add 6 = .ok (.aload_n 0, 1) := by decide +kernel
theorem dX4_add_7 : decode cX4_add 7 = .ok (.getfield 15, 3) := by decide +kernel
theorem dX4_add_10 : decode cX4_add 10 = .ok (.iload 5, 2) := by decide +kernel
theorem dX4_add_12 : decode cX4_add 12 = .ok (.iload_n 1, 1) := by decide +kernel
theorem dX4_add_13 : decode cX4_add 13 = .ok (.iastore, 1) := by decide +kernel
theorem dX4_add_14 : decode cX4_add 14 = .ok (.aload_n 0, 1) := by decide +kernel
theorem dX4_add_15 : decode cX4_add 15 = .ok (.getfield 18, 3) := by decide +kernel
theorem dX4_add_18 : decode cX4_add 18 = .ok (.iload 5, 2) := by decide +kernel
theorem dX4_add_20 : decode cX4_add 20 = .ok (.iload_n 2, 1) := by decide +kernel
theorem dX4_add_21 : decode cX4_add 21 = .ok (.iastore, 1) := by decide +kernel
theorem dX4_add_22 : decode cX4_add 22 = .ok (.aload_n 0, 1) := by decide +kernel
theorem dX4_add_23 : decode cX4_add 23 = .ok (.getfield 21, 3) := by decide +kernel
theorem dX4_add_26 : decode cX4_add 26 = .ok (.iload 5, 2) := by decide +kernel
theorem dX4_add_28 : decode cX4_add 28 = .ok (.iload_n 3, 1) := by decide +kernel
theorem dX4_add_29 : decode cX4_add 29 = .ok (.iastore, 1) := by decide +kernel
theorem dX4_add_30 : decode cX4_add 30 = .ok (.aload_n 0, 1) := by decide +kernel
theorem dX4_add_31 : decode cX4_add 31 = .ok (.getfield 24, 3) := by decide +kernel
theorem dX4_add_34 : decode cX4_add 34 = .ok (.iload 5, 2) := by decide +kernel
theorem dX4_add_36 : decode cX4_add 36 = .ok (.iload 4, 2) := by decide +kernel
theorem dX4_add_38 : decode cX4_add 38 = .ok (.iastore, 1) := by decide +kernel
theorem dX4_add_39 : decode cX4_add 39 = .ok (.aload_n 0, 1) := by decide +kernel
theorem dX4_add_40 : decode cX4_add 40 = .ok (.getfield 27, 3) := by decide +kernel
theorem dX4_add_43 : decode cX4_add 43 = .ok (.iload 5, 2) := by decide +kernel
theorem dX4_add_45 : decode cX4_add 45 = .ok (.iconst 0, 1) := by decide +kernel
theorem dX4_add_46 : decode cX4_add 46 = .ok (.iastore, 1) := by decide +kernel
theorem dX4_add_47 : decode cX4_add 47 = .ok (.iconst 0, 1) := by decide +kernel
theorem dX4_add_48 : decode cX4_add 48 = .ok (.istore 6, 2) := by decide +kernel
theorem dX4_add_50 : decode cX4_add 50 = .ok (.iload 6, 2) := by decide +kernel
theorem dX4_add_52 : decode cX4_add 52 = .ok (.iconst 4, 1) := by decide +kernel
theorem dX4_add_53 : decode cX4_add 53 = .ok (.if_icmp .ge 22, 3) := by decide +kernel
theorem dX4_add_56 : decode cX4_add 56 = .ok (.aload_n 0, 1) := by decide +kernel
theorem dX4_add_57 : decode cX4_add 57 = .ok (.getfield 30, 3) := by decide +kernel
theorem dX4_add_60 : decode cX4_add 60 = .ok (.iload 5, 2) := by decide +kernel
theorem dX4_add_62 : decode cX4_add 62 = .ok (.iconst 4, 1) := by decide +kernel
theorem dX4_add_63 : decode cX4_add 63 = .ok (.imul, 1) := by decide +kernel
theorem dX4_add_64 : decode cX4_add 64 = .ok (.iload 6, 2) := by decide +kernel
theorem dX4_add_66 : decode cX4_add 66 = .ok (.iadd, 1) := by decide +kernel
theorem dX4_add_67 : decode cX4_add 67 = .ok (.iconst 0, 1) := by decide +kernel
theorem dX4_add_68 : decode cX4_add 68 = .ok (.iastore, 1) := by decide +kernel
theorem dX4_add_69 : decode cX4_add 69 = .ok (.iinc 6 1, 3) := by decide +kernel
theorem dX4_add_72 : decode cX4_add 72 = .ok (.goto (-22), 3) := by decide +kernel
theorem dX4_add_75 : decode cX4_add 75 = .ok (.aload_n 0, 1) := by decide +kernel
theorem dX4_add_76 : decode cX4_add 76 = .ok (.iload 5, 2) := by decide +kernel
theorem dX4_add_78 : decode cX4_add 78 = .ok (.iconst 0, 1) := by decide +kernel
theorem dX4_add_79 : decode cX4_add 79 = .ok (.invokevirtual 69, 3) := by decide +kernel
theorem dX4_add_82 : decode cX4_add 82 = .ok (.aload_n 0, 1) := by decide +kernel
theorem dX4_add_83 : decode cX4_add 83 = .ok (.dup, 1) := by decide +kernel
theorem dX4_add_84 : decode cX4_add 84 = .ok (.getfield 57, 3) := by decide +kernel
theorem dX4_add_87 : decode cX4_add 87 = .ok (.iconst 1, 1) := by decide +kernel
theorem dX4_add_88 : decode cX4_add 88 = .ok (.iadd, 1) := by decide +kernel
theorem dX4_add_89 : decode cX4_add 89 = .ok (.putfield 57, 3) := by decide +kernel
theorem dX4_add_92 : decode cX4_add 92 = .ok (.iload 5, 2) := by decide +kernel
theorem dX4_add_94 : decode cX4_add 94 = .ok (.ireturn, 1) := by decide +kernel
def zb_X4_add_50 (r50 : zj_K) (E : zj_E) (st : List Value) (m : zj_M) : zj_R := (zi_ild 6 (zi_push (.int 4) (zi_clt (zi_ald 0 (zi_gf 4 6 (zi_ild 5 (zi_push (.int 4) (zi_b (fun x y => x * y) (zi_ild 6 (zi_b (fun x y => x + y) (zi_push (.int 0) (zi_iast (zi_inc 6 1 r50)))))))))) (zi_ald 0 (zi_ild 5 (zi_push (.int 0) (zi_vc 4 2 zf_X4_putAway (zi_ald 0 (zi_dup (zi_gf 4 7 (zi_push (.int 1) (zi_b (fun x y => x + y) (zi_pf 4 7 (zi_ild 5 (zi_ret (some .int))))))))) zi_no))))))) E st m
set_option maxRecDepth 20000 in
theorem zs_X4_add_50 {r50 : zj_K} (h50 : zj_KC cX4_add RX4 7 (1) (some .int) (0, fun _ => 0) 50 r50) : zj_KC cX4_add RX4 7 (1) (some .int) (0, fun _ => 0) 50 (zb_X4_add_50 r50) := (zr_ild dX4_add_50 (zr_iconst dX4_add_52 rfl (zr_icge dX4_add_53 (tgt := 75) (by decide) (zr_aldn dX4_add_75 rfl (zr_ild dX4_add_76 (zr_iconst dX4_add_78 rfl (zr_callV dX4_add_79 zm_X4_putAway ⟨⟨zq_589, zq_76⟩, by decide +kernel, by omega, by decide⟩ rfl rfl zq_586 zq_587 zq_588 (zr_aldn dX4_add_82 rfl (zr_dup dX4_add_83 (zr_gf dX4_add_84 zfl_X4_57_4 (zr_iconst dX4_add_87 rfl (zr_iadd dX4_add_88 (zr_pf dX4_add_89 zfl_X4_57_4w (zr_ild dX4_add_92 (zr_ret dX4_add_94)))))))) zr_no)))) (zr_aldn dX4_add_56 rfl (zr_gf dX4_add_57 zfl_X4_30_4 (zr_ild dX4_add_60 (zr_iconst dX4_add_62 rfl (zr_imul dX4_add_63 (zr_ild dX4_add_64 (zr_iadd dX4_add_66 (zr_iconst dX4_add_67 rfl (zr_iast dX4_add_68 (zr_inc dX4_add_69 rfl (zr_goto dX4_add_72 (tgt := 50) (by decide) h50))))))))))))))
def zb_X4_add_0 (E : zj_E) (st : List Value) (m : zj_M) : zj_R := (zi_ald 0 (zi_gf 4 7 (zi_ist 5 (zi_ald 0 (zi_gf 4 1 (zi_ild 5 (zi_ild 1 (zi_iast (zi_ald 0 (zi_gf 4 2 (zi_ild 5 (zi_ild 2 (zi_iast (zi_ald 0 (zi_gf 4 3 (zi_ild 5 (zi_ild 3 (zi_iast (zi_ald 0 (zi_gf 4 4 (zi_ild 5 (zi_ild 4 (zi_iast (zi_ald 0 (zi_gf 4 5 (zi_ild 5 (zi_push (.int 0) (zi_iast (zi_push (.int 0) (zi_ist 6 (zj_lp (zb_X4_add_50) zj_fu))))))))))))))))))))))))))))))) E st m
set_option maxRecDepth 20000 in
theorem zs_X4_add_0 : zj_KC cX4_add RX4 7 (1) (some .int) (0, fun _ => 0) 0 (zb_X4_add_0) := (zr_aldn dX4_add_0 rfl (zr_gf dX4_add_1 zfl_X4_57_4 (zr_ist dX4_add_4 (zr_aldn dX4_add_6 rfl (zr_gf dX4_add_7 zfl_X4_15_4 (zr_ild dX4_add_10 (zr_ildn dX4_add_12 rfl (zr_iast dX4_add_13 (zr_aldn dX4_add_14 rfl (zr_gf dX4_add_15 zfl_X4_18_4 (zr_ild dX4_add_18 (zr_ildn dX4_add_20 rfl (zr_iast dX4_add_21 (zr_aldn dX4_add_22 rfl (zr_gf dX4_add_23 zfl_X4_21_4 (zr_ild dX4_add_26 (zr_ildn dX4_add_28 rfl (zr_iast dX4_add_29 (zr_aldn dX4_add_30 rfl (zr_gf dX4_add_31 zfl_X4_24_4 (zr_ild dX4_add_34 (zr_ild dX4_add_36 (zr_iast dX4_add_38 (zr_aldn dX4_add_39 rfl (zr_gf dX4_add_40 zfl_X4_27_4 (zr_ild dX4_add_43 (zr_iconst dX4_add_45 rfl (zr_iast dX4_add_46 (zr_iconst dX4_add_47 rfl (zr_ist dX4_add_48 (zr_lp (fun _ h => zs_X4_add_50 h) zj_fu)))))))))))))))))))))))))))))))
def zf_X4_add : zj_F := zj_run 7 zb_X4_add_0
theorem zm_X4_add : zj_MS 1 yX4_add cX4_add 7 (some .int) zf_X4_add := zj_met (own := RX4) rfl (by decide +kernel) (Or.inr (Or.inl rfl)) (zs_X4_add_0)
