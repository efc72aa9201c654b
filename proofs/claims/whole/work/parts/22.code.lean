theorem dX12_looksActs_0 : decode cX12_looksActs 0 = .ok (.aload_n 0, 1) := by decide +kernel
theorem dX12_looksActs_1 : decode cX12_looksActs 1 = .ok (.getfield 237, 3) := by decide +kernel
theorem dX12_looksActs_4 : decode cX12_looksActs 4 = .ok (.iconst 2, 1) := by decide +kernel
theorem dX12_looksActs_5 : decode cX12_looksActs 5 = .ok (.invokestatic 240, 3) := by decide +kernel
theorem dX12_looksActs_8 : decode cX12_looksActs 8 = .ok (.ifCond .eq 16, 3) := by decide +kernel
theorem dX12_looksActs_11 : decode cX12_looksActs 11 = .ok (.aload_n 0, 1) := by decide +kernel
theorem dX12_looksActs_12 : decode cX12_looksActs 12 = .ok (.bipush 21, 2) := by decide +kernel
theorem dX12_looksActs_14 : decode cX12_looksActs 14 = .ok (.invokevirtual 231, 3) := by decide +kernel
theorem dX12_looksActs_17 : decode cX12_looksActs 17 = .ok (.aload_n 0, 1) := by decide +kernel
theorem dX12_looksActs_18 : decode cX12_looksActs 18 = .ok (.iload_n 1, 1) := by decide +kernel
theorem dX12_looksActs_19 : decode cX12_looksActs 19 = .ok (.invokevirtual 252, 3) := by decide +kernel
theorem dX12_looksActs_22 : decode cX12_looksActs 22 = .ok (.ineg, 1) := by decide +kernel
theorem dX12_looksActs_23 : decode cX12_looksActs 23 = .ok (.ireturn, 1) := by decide +kernel
theorem dX12_looksActs_24 : decode cX12_looksActs 24 = .ok (.aload_n 0, 1) := by decide +kernel
theorem dX12_looksActs_25 : decode cX12_looksActs 25 = .ok (.getfield 237, 3) := by decide +kernel
theorem dX12_looksActs_28 : decode cX12_looksActs 28 = .ok (.bipush 6, 2) := by decide +kernel
theorem dX12_looksActs_30 : decode cX12_looksActs 30 = .ok (.if_icmp .ne 20, 3) := by decide +kernel
theorem dX12_looksActs_33 : decode cX12_looksActs 33 = .ok (.aload_n 0, 1) := by decide +kernel
theorem dX12_looksActs_34 : decode cX12_looksActs 34 = .ok (.bipush 61, 2) := by decide +kernel
theorem dX12_looksActs_36 : decode cX12_looksActs 36 = .ok (.invokevirtual 231, 3) := by decide +kernel
theorem dX12_looksActs_39 : decode cX12_looksActs 39 = .ok (.aload_n 0, 1) := by decide +kernel
theorem dX12_looksActs_40 : decode cX12_looksActs 40 = .ok (.iload_n 1, 1) := by decide +kernel
theorem dX12_looksActs_41 : decode cX12_looksActs 41 = .ok (.invokevirtual 252, 3) := by decide +kernel
theorem dX12_looksActs_44 : decode cX12_looksActs 44 = .ok (.aload_n 0, 1) := by decide +kernel
theorem dX12_looksActs_45 : decode cX12_looksActs 45 = .ok (.getfield 249, 3) := by decide +kernel
theorem dX12_looksActs_48 : decode cX12_looksActs 48 = .ok (.iadd, 1) := by decide +kernel
theorem dX12_looksActs_49 : decode cX12_looksActs 49 = .ok (.ireturn, 1) := by decide +kernel
theorem dX12_looksActs_50 : decode cX12_looksActs 50 = .ok (.aload_n 0, 1) := by decide +kernel
theorem dX12_looksActs_51 : decode cX12_looksActs 51 = .ok (.iload_n 1, 1) := by decide +kernel
theorem dX12_looksActs_52 : decode cX12_looksActs 52 = .ok (.invokevirtual 252, 3) := by decide +kernel
theorem dX12_looksActs_55 : decode cX12_looksActs 55 = .ok (.ireturn, 1) := by decide +kernel
def zb_X12_looksActs_0 (E : zj_E) (st : List Value) (m : zj_M) : zj_R := (zi_ald 0 (zi_gf 12 19 (zi_push (.int 2) (zi_call 2 zf_X12_isUnder (zi_eq (zi_ald 0 (zi_gf 12 19 (zi_push (.int 6) (zi_ceq (zi_ald 0 (zi_push (.int 61) (zi_vc 12 1 zf_X12_ranBody (zi_ald 0 (zi_ild 1 (zi_vc 12 1 zf_X12_plainLooks (zi_ald 0 (zi_gf 12 21 (zi_b (fun x y => x + y) (zi_ret (some .int))))) zi_no))) zi_no))) (zi_ald 0 (zi_ild 1 (zi_vc 12 1 zf_X12_plainLooks (zi_ret (some .int)) zi_no))))))) (zi_ald 0 (zi_push (.int 21) (zi_vc 12 1 zf_X12_ranBody (zi_ald 0 (zi_ild 1 (zi_vc 12 1 zf_X12_plainLooks (zi_u (fun x => -x) (zi_ret (some .int))) zi_no))) zi_no)))))))) E st m
set_option maxRecDepth 20000 in
theorem zs_X12_looksActs_0 : zj_KC cX12_looksActs RX12 2 (4) (some .int) (0, fun _ => 0) 0 (zb_X12_looksActs_0) := (zr_aldn dX12_looksActs_0 rfl (zr_gf dX12_looksActs_1 zfl_X12_237_12 (zr_iconst dX12_looksActs_4 rfl (zr_callS dX12_looksActs_5 zm_X12_isUnder ⟨⟨zq_1333, zq_77⟩, by decide +kernel, by omega, by decide⟩ zq_1331 zq_1332 (zr_ifeq dX12_looksActs_8 (tgt := 24) (by decide) (zr_aldn dX12_looksActs_24 rfl (zr_gf dX12_looksActs_25 zfl_X12_237_12 (zr_bipush dX12_looksActs_28 rfl (zr_icne dX12_looksActs_30 (tgt := 50) (by decide) (zr_aldn dX12_looksActs_50 rfl (zr_ildn dX12_looksActs_51 rfl (zr_callV dX12_looksActs_52 zm_X12_plainLooks ⟨⟨zq_1349, zq_77⟩, by decide +kernel, by omega, by decide⟩ rfl rfl zq_1346 zq_1348 zq_61 (zr_ret dX12_looksActs_55) zr_no))) (zr_aldn dX12_looksActs_33 rfl (zr_bipush dX12_looksActs_34 rfl (zr_callV dX12_looksActs_36 zm_X12_ranBody ⟨⟨zq_1337, zq_77⟩, by decide +kernel, by omega, by decide⟩ rfl rfl zq_1334 zq_1336 zq_58 (zr_aldn dX12_looksActs_39 rfl (zr_ildn dX12_looksActs_40 rfl (zr_callV dX12_looksActs_41 zm_X12_plainLooks ⟨⟨zq_1349, zq_77⟩, by decide +kernel, by omega, by decide⟩ rfl rfl zq_1346 zq_1348 zq_61 (zr_aldn dX12_looksActs_44 rfl (zr_gf dX12_looksActs_45 zfl_X12_249_12 (zr_iadd dX12_looksActs_48 (zr_ret dX12_looksActs_49)))) zr_no))) zr_no))))))) (zr_aldn dX12_looksActs_11 rfl (zr_bipush dX12_looksActs_12 rfl (zr_callV dX12_looksActs_14 zm_X12_ranBody ⟨⟨zq_1337, zq_77⟩, by decide +kernel, by omega, by decide⟩ rfl rfl zq_1334 zq_1336 zq_58 (zr_aldn dX12_looksActs_17 rfl (zr_ildn dX12_looksActs_18 rfl (zr_callV dX12_looksActs_19 zm_X12_plainLooks ⟨⟨zq_1349, zq_77⟩, by decide +kernel, by omega, by decide⟩ rfl rfl zq_1346 zq_1348 zq_61 (zr_ineg dX12_looksActs_22 (zr_ret dX12_looksActs_23)) zr_no))) zr_no))))))))
def zf_X12_looksActs : zj_F := zj_run 2 zb_X12_looksActs_0
theorem zm_X12_looksActs : zj_MS 4 yX12_looksActs cX12_looksActs 2 (some .int) zf_X12_looksActs := zj_met (own := RX12) rfl (by decide +kernel) (Or.inr (Or.inl rfl)) (zs_X12_looksActs_0)
theorem dX12_plainTelling_0 : decode cX12_plainTelling 0 = .ok (.aload_n 0, 1) := by decide +kernel
theorem dX12_plainTelling_1 : decode cX12_plainTelling 1 = .ok (.iconst 3, 1) := by decide +kernel
theorem dX12_plainTelling_2 : decode cX12_plainTelling 2 = .ok (.invokevirtual 231, 3) := by decide +kernel
theorem dX12_plainTelling_5 : decode cX12_plainTelling 5 = .ok (.aload_n 0, 1) := by decide +kernel
theorem dX12_plainTelling_6 : decode cX12_plainTelling 6 = .ok (.iload_n 1, 1) := by decide +kernel
theorem dX12_plainTelling_7 : decode cX12_plainTelling 7 = .ok (.invokevirtual 255, 3) := by decide +kernel
theorem dX12_plainTelling_10 : decode cX12_plainTelling 10 = .ok (.iconst 2, 1) := by decide +kernel
theorem dX12_plainTelling_11 : decode cX12_plainTelling 11 = .ok (.imul, 1) := by decide +kernel
theorem dX12_plainTelling_12 : decode cX12_plainTelling 12 = .ok (.ireturn, 1) := by decide +kernel
def zb_X12_plainTelling_0 (E : zj_E) (st : List Value) (m : zj_M) : zj_R := (zi_ald 0 (zi_push (.int 3) (zi_vc 12 1 zf_X12_ranBody (zi_ald 0 (zi_ild 1 (zi_vc 12 1 zf_X12_looksActs (zi_push (.int 2) (zi_b (fun x y => x * y) (zi_ret (some .int)))) zi_no))) zi_no))) E st m
set_option maxRecDepth 20000 in
theorem zs_X12_plainTelling_0 : zj_KC cX12_plainTelling RX12 2 (5) (some .int) (0, fun _ => 0) 0 (zb_X12_plainTelling_0) := (zr_aldn dX12_plainTelling_0 rfl (zr_iconst dX12_plainTelling_1 rfl (zr_callV dX12_plainTelling_2 zm_X12_ranBody ⟨⟨zq_1337, zq_77⟩, by decide +kernel, by omega, by decide⟩ rfl rfl zq_1334 zq_1336 zq_58 (zr_aldn dX12_plainTelling_5 rfl (zr_ildn dX12_plainTelling_6 rfl (zr_callV dX12_plainTelling_7 zm_X12_looksActs ⟨⟨zq_1345, zq_77⟩, by decide +kernel, by omega, by decide⟩ rfl rfl zq_1342 zq_1344 zq_60 (zr_iconst dX12_plainTelling_10 rfl (zr_imul dX12_plainTelling_11 (zr_ret dX12_plainTelling_12))) zr_no))) zr_no)))
def zf_X12_plainTelling : zj_F := zj_run 2 zb_X12_plainTelling_0
theorem zm_X12_plainTelling : zj_MS 5 yX12_plainTelling cX12_plainTelling 2 (some .int) zf_X12_plainTelling := zj_met (own := RX12) rfl (by decide +kernel) (Or.inr (Or.inl rfl)) (zs_X12_plainTelling_0)
theorem dX12_tellsActs_0 : decode cX12_tellsActs 0 = .ok (.aload_n 0, 1) := by decide +kernel
theorem dX12_tellsActs_1 : decode cX12_tellsActs 1 = .ok (.getfield 237, 3) := by decide +kernel
theorem dX12_tellsActs_4 : decode cX12_tellsActs 4 = .ok (.iconst 3, 1) := by decide +kernel
theorem dX12_tellsActs_5 : decode cX12_tellsActs 5 = .ok (.invokestatic 240, 3) := by decide +kernel
theorem dX12_tellsActs_8 : decode cX12_tellsActs 8 = .ok (.ifCond .eq 18, 3) := by decide +kernel
theorem dX12_tellsActs_11 : decode cX12_tellsActs 11 = .ok (.aload_n 0, 1) := by decide +kernel
theorem dX12_tellsActs_12 : decode cX12_tellsActs 12 = .ok (.bipush 31, 2) := by decide +kernel
theorem dX12_tellsActs_14 : decode cX12_tellsActs 14 = .ok (.invokevirtual 231, 3) := by decide +kernel
theorem dX12_tellsActs_17 : decode cX12_tellsActs 17 = .ok (.aload_n 0, 1) := by decide +kernel
theorem dX12_tellsActs_18 : decode cX12_tellsActs 18 = .ok (.iload_n 1, 1) := by decide +kernel
theorem dX12_tellsActs_19 : decode cX12_tellsActs 19 = .ok (.invokevirtual 258, 3) := by decide +kernel
theorem dX12_tellsActs_22 : decode cX12_tellsActs 22 = .ok (.bipush 7, 2) := by decide +kernel
theorem dX12_tellsActs_24 : decode cX12_tellsActs 24 = .ok (.ixor, 1) := by decide +kernel
theorem dX12_tellsActs_25 : decode cX12_tellsActs 25 = .ok (.ireturn, 1) := by decide +kernel
theorem dX12_tellsActs_26 : decode cX12_tellsActs 26 = .ok (.aload_n 0, 1) := by decide +kernel
theorem dX12_tellsActs_27 : decode cX12_tellsActs 27 = .ok (.getfield 237, 3) := by decide +kernel
theorem dX12_tellsActs_30 : decode cX12_tellsActs 30 = .ok (.iconst 4, 1) := by decide +kernel
theorem dX12_tellsActs_31 : decode cX12_tellsActs 31 = .ok (.if_icmp .ne 25, 3) := by decide +kernel
theorem dX12_tellsActs_34 : decode cX12_tellsActs 34 = .ok (.aload_n 0, 1) := by decide +kernel
theorem dX12_tellsActs_35 : decode cX12_tellsActs 35 = .ok (.bipush 41, 2) := by decide +kernel
theorem dX12_tellsActs_37 : decode cX12_tellsActs 37 = .ok (.invokevirtual 231, 3) := by decide +kernel
theorem dX12_tellsActs_40 : decode cX12_tellsActs 40 = .ok (.aload_n 0, 1) := by decide +kernel
theorem dX12_tellsActs_41 : decode cX12_tellsActs 41 = .ok (.iload_n 1, 1) := by decide +kernel
theorem dX12_tellsActs_42 : decode cX12_tellsActs 42 = .ok (.iconst 1, 1) := by decide +kernel
theorem dX12_tellsActs_43 : decode cX12_tellsActs 43 = .ok (.isub, 1) := by decide +kernel
theorem dX12_tellsActs_44 : decode cX12_tellsActs 44 = .ok (.invokevirtual 258, 3) := by decide +kernel
theorem dX12_tellsActs_47 : decode cX12_tellsActs 47 = .ok (.istore_n 2, 1) := by decide +kernel
theorem dX12_tellsActs_48 : decode cX12_tellsActs 48 = .ok (.iload_n 2, 1) := by decide +kernel
theorem dX12_tellsActs_49 : decode cX12_tellsActs 49 = .ok (.aload_n 0, 1) := by decide +kernel
theorem dX12_tellsActs_50 : decode cX12_tellsActs 50 = .ok (.iconst 2, 1) := by decide +kernel
theorem dX12_tellsActs_51 : decode cX12_tellsActs 51 = .ok (.invokevirtual 246, 3) := by decide +kernel
theorem dX12_tellsActs_54 : decode cX12_tellsActs 54 = .ok (.iadd, 1) := by decide +kernel
theorem dX12_tellsActs_55 : decode cX12_tellsActs 55 = .ok (.ireturn, 1) := by decide +kernel
theorem dX12_tellsActs_56 : decode cX12_tellsActs 56 = .ok (.aload_n 0, 1) := by decide +kernel
theorem dX12_tellsActs_57 : decode cX12_tellsActs 57 = .ok (.iload_n 1, 1) := by decide +kernel
theorem dX12_tellsActs_58 : decode cX12_tellsActs 58 = .ok (.invokevirtual 258, 3) := by decide +kernel
theorem dX12_tellsActs_61 : decode cX12_tellsActs 61 = .ok (.ireturn, 1) := by decide +kernel
def zb_X12_tellsActs_0 (E : zj_E) (st : List Value) (m : zj_M) : zj_R := (zi_ald 0 (zi_gf 12 19 (zi_push (.int 3) (zi_call 2 zf_X12_isUnder (zi_eq (zi_ald 0 (zi_gf 12 19 (zi_push (.int 4) (zi_ceq (zi_ald 0 (zi_push (.int 41) (zi_vc 12 1 zf_X12_ranBody (zi_ald 0 (zi_ild 1 (zi_push (.int 1) (zi_b (fun x y => x - y) (zi_vc 12 1 zf_X12_plainTelling (zi_ist 2 (zi_ild 2 (zi_ald 0 (zi_push (.int 2) (zi_vc 12 1 zf_X12_strollsActs (zi_b (fun x y => x + y) (zi_ret (some .int))) zi_no))))) zi_no))))) zi_no))) (zi_ald 0 (zi_ild 1 (zi_vc 12 1 zf_X12_plainTelling (zi_ret (some .int)) zi_no))))))) (zi_ald 0 (zi_push (.int 31) (zi_vc 12 1 zf_X12_ranBody (zi_ald 0 (zi_ild 1 (zi_vc 12 1 zf_X12_plainTelling (zi_push (.int 7) (zi_b (fun x y => x ^^^ y) (zi_ret (some .int)))) zi_no))) zi_no)))))))) E st m
set_option maxRecDepth 20000 in
theorem zs_X12_tellsActs_0 : zj_KC cX12_tellsActs RX12 3 (6) (some .int) (0, fun _ => 0) 0 (zb_X12_tellsActs_0) := (zr_aldn dX12_tellsActs_0 rfl (zr_gf dX12_tellsActs_1 zfl_X12_237_12 (zr_iconst dX12_tellsActs_4 rfl (zr_callS dX12_tellsActs_5 zm_X12_isUnder ⟨⟨zq_1333, zq_77⟩, by decide +kernel, by omega, by decide⟩ zq_1331 zq_1332 (zr_ifeq dX12_tellsActs_8 (tgt := 26) (by decide) (zr_aldn dX12_tellsActs_26 rfl (zr_gf dX12_tellsActs_27 zfl_X12_237_12 (zr_iconst dX12_tellsActs_30 rfl (zr_icne dX12_tellsActs_31 (tgt := 56) (by decide) (zr_aldn dX12_tellsActs_56 rfl (zr_ildn dX12_tellsActs_57 rfl (zr_callV dX12_tellsActs_58 zm_X12_plainTelling ⟨⟨zq_1357, zq_77⟩, by decide +kernel, by omega, by decide⟩ rfl rfl zq_1354 zq_1356 zq_63 (zr_ret dX12_tellsActs_61) zr_no))) (zr_aldn dX12_tellsActs_34 rfl (zr_bipush dX12_tellsActs_35 rfl (zr_callV dX12_tellsActs_37 zm_X12_ranBody ⟨⟨zq_1337, zq_77⟩, by decide +kernel, by omega, by decide⟩ rfl rfl zq_1334 zq_1336 zq_58 (zr_aldn dX12_tellsActs_40 rfl (zr_ildn dX12_tellsActs_41 rfl (zr_iconst dX12_tellsActs_42 rfl (zr_isub dX12_tellsActs_43 (zr_callV dX12_tellsActs_44 zm_X12_plainTelling ⟨⟨zq_1357, zq_77⟩, by decide +kernel, by omega, by decide⟩ rfl rfl zq_1354 zq_1356 zq_63 (zr_istn dX12_tellsActs_47 rfl (zr_ildn dX12_tellsActs_48 rfl (zr_aldn dX12_tellsActs_49 rfl (zr_iconst dX12_tellsActs_50 rfl (zr_callV dX12_tellsActs_51 zm_X12_strollsActs ⟨⟨zq_1330, zq_77⟩, by decide +kernel, by omega, by decide⟩ rfl rfl zq_1327 zq_1329 zq_57 (zr_iadd dX12_tellsActs_54 (zr_ret dX12_tellsActs_55)) zr_no))))) zr_no))))) zr_no))))))) (zr_aldn dX12_tellsActs_11 rfl (zr_bipush dX12_tellsActs_12 rfl (zr_callV dX12_tellsActs_14 zm_X12_ranBody ⟨⟨zq_1337, zq_77⟩, by decide +kernel, by omega, by decide⟩ rfl rfl zq_1334 zq_1336 zq_58 (zr_aldn dX12_tellsActs_17 rfl (zr_ildn dX12_tellsActs_18 rfl (zr_callV dX12_tellsActs_19 zm_X12_plainTelling ⟨⟨zq_1357, zq_77⟩, by decide +kernel, by omega, by decide⟩ rfl rfl zq_1354 zq_1356 zq_63 (zr_bipush dX12_tellsActs_22 rfl (zr_ixor dX12_tellsActs_24 (zr_ret dX12_tellsActs_25))) zr_no))) zr_no))))))))
def zf_X12_tellsActs : zj_F := zj_run 3 zb_X12_tellsActs_0
theorem zm_X12_tellsActs : zj_MS 6 yX12_tellsActs cX12_tellsActs 3 (some .int) zf_X12_tellsActs := zj_met (own := RX12) rfl (by decide +kernel) (Or.inr (Or.inl rfl)) (zs_X12_tellsActs_0)
theorem dX12_act_0 : decode cX12_act 0 = .ok (.aload_n 0, 1) := by decide +kernel
theorem dX12_act_1 : decode cX12_act 1 = .ok (.iconst 0, 1) := by decide +kernel
theorem dX12_act_2 : decode cX12_act 2 = .ok (.putfield 228, 3) := by decide +kernel
theorem dX12_act_5 : decode cX12_act 5 = .ok (.aload_n 0, 1) := by decide +kernel
theorem dX12_act_6 : decode cX12_act 6 = .ok (.iload_n 1, 1) := by decide +kernel
theorem dX12_act_7 : decode cX12_act 7 = .ok (.invokevirtual 166, 3) := by decide +kernel
theorem dX12_act_10 : decode cX12_act 10 = .ok (.ifCond .eq 12, 3) := by decide +kernel
theorem dX12_act_13 : decode cX12_act 13 = .ok (.iload_n 2, 1) := by decide +kernel
theorem dX12_act_14 : decode cX12_act 14 = .ok (.iconst 0, 1) := by decide +kernel
theorem dX12_act_15 : decode cX12_act 15 = .ok (.iconst 2, 1) := by decide +kernel
theorem dX12_act_16 : decode cX12_act 16 = .ok (.invokestatic 47, 3) := by decide +kernel
theorem dX12_act_19 : decode cX12_act 19 = .ok (.ifCond .ne 5, 3) := by decide +kernel
theorem dX12_act_22 : decode cX12_act 22 = .ok (.iconst 0, 1) := by decide +kernel
theorem dX12_act_23 : decode cX12_act 23 = .ok (.ireturn, 1) := by decide +kernel
theorem dX12_act_24 : decode cX12_act 24 = .ok (.aload_n 0, 1) := by decide +kernel
theorem dX12_act_25 : decode cX12_act 25 = .ok (.aload_n 0, 1) := by decide +kernel
theorem dX12_act_26 : decode cX12_act 26 = .ok (.getfield 9, 3) := by decide +kernel
theorem dX12_act_29 : decode cX12_act 29 = .ok (.bipush 37, 2) := by decide +kernel
theorem dX12_act_31 : decode cX12_act 31 = .ok (.iload_n 1, 1) := by decide +kernel
theorem dX12_act_32 : decode cX12_act 32 = .ok (.iadd, 1) := by decide +kernel
theorem dX12_act_33 : decode cX12_act 33 = .ok (.iaload, 1) := by decide +kernel
theorem dX12_act_34 : decode cX12_act 34 = .ok (.putfield 237, 3) := by decide +kernel
theorem dX12_act_37 : decode cX12_act 37 = .ok (.aload_n 0, 1) := by decide +kernel
theorem dX12_act_38 : decode cX12_act 38 = .ok (.iload_n 1, 1) := by decide +kernel
theorem dX12_act_39 : decode cX12_act 39 = .ok (.putfield 234, 3) := by decide +kernel
theorem dX12_act_42 : decode cX12_act 42 = .ok (.aload_n 0, 1) := by decide +kernel
theorem dX12_act_43 : decode cX12_act 43 = .ok (.aload_n 0, 1) := by decide +kernel
theorem dX12_act_44 : decode cX12_act 44 = .ok (.getfield 9, 3) := by decide +kernel
theorem dX12_act_47 : decode cX12_act 47 = .ok (.bipush 43, 2) := by decide +kernel
theorem dX12_act_49 : decode cX12_act 49 = .ok (.iload_n 1, 1) := by decide +kernel
theorem dX12_act_50 : decode cX12_act 50 = .ok (.iadd, 1) := by decide +kernel
theorem dX12_act_51 : decode cX12_act 51 = .ok (.iaload, 1) := by decide +kernel
theorem dX12_act_52 : decode cX12_act 52 = .ok (.putfield 249, 3) := by decide +kernel
theorem dX12_act_55 : decode cX12_act 55 = .ok (.iload_n 2, 1) := by decide +kernel
theorem dX12_act_56 : decode cX12_act 56 = .ok (.ifCond .ne 11, 3) := by decide +kernel
theorem dX12_act_59 : decode cX12_act 59 = .ok (.aload_n 0, 1) := by decide +kernel
theorem dX12_act_60 : decode cX12_act 60 = .ok (.iload_n 3, 1) := by decide +kernel
theorem dX12_act_61 : decode cX12_act 61 = .ok (.invokevirtual 246, 3) := by decide +kernel
theorem dX12_act_64 : decode cX12_act 64 = .ok (.goto 21, 3) := by decide +kernel
theorem dX12_act_67 : decode cX12_act 67 = .ok (.iload_n 2, 1) := by decide +kernel
theorem dX12_act_68 : decode cX12_act 68 = .ok (.iconst 1, 1) := by decide +kernel
theorem dX12_act_69 : decode cX12_act 69 = .ok (.if_icmp .ne 11, 3) := by decide +kernel
theorem dX12_act_72 : decode cX12_act 72 = .ok (.aload_n 0, 1) := by decide +kernel
theorem dX12_act_73 : decode cX12_act 73 = .ok (.iload_n 3, 1) := by decide +kernel
theorem dX12_act_74 : decode cX12_act 74 = .ok (.invokevirtual 255, 3) := by decide +kernel
theorem dX12_act_77 : decode cX12_act 77 = .ok (.goto 8, 3) := by decide +kernel
theorem dX12_act_80 : decode cX12_act 80 = .ok (.aload_n 0, 1) := by decide +kernel
theorem dX12_act_81 : decode cX12_act 81 = .ok (.iload_n 3, 1) := by decide +kernel
theorem dX12_act_82 : decode cX12_act 82 = .ok (.invokevirtual 261, 3) := by decide +kernel
theorem dX12_act_85 : decode cX12_act 85 = .ok (.ireturn, 1) := by decide +kernel
def zb_X12_act_22 (E : zj_E) (st : List Value) (m : zj_M) : zj_R := (zi_push (.int 0) (zi_ret (some .int))) E st m
set_option maxRecDepth 20000 in
theorem zs_X12_act_22 : zj_KC cX12_act RX12 4 (7) (some .int) (0, fun _ => 0) 22 (zb_X12_act_22) := (zr_iconst dX12_act_22 rfl (zr_ret dX12_act_23))
def zb_X12_act_85 (E : zj_E) (st : List Value) (m : zj_M) : zj_R := (zi_ret (some .int)) E st m
set_option maxRecDepth 20000 in
theorem zs_X12_act_85 : zj_KC cX12_act RX12 4 (7) (some .int) (0, fun _ => 0) 85 (zb_X12_act_85) := (zr_ret dX12_act_85)
def zb_X12_act_0 (E : zj_E) (st : List Value) (m : zj_M) : zj_R := (zi_ald 0 (zi_push (.int 0) (zi_pf 12 18 (zi_ald 0 (zi_ild 1 (zi_vc 12 1 zf_X12_isWalker (zi_eq zb_X12_act_22 (zi_ild 2 (zi_push (.int 0) (zi_push (.int 2) (zi_call 3 zf_X12_in (zi_eq zb_X12_act_22 (zi_ald 0 (zi_ald 0 (zi_gf 12 1 (zi_push (.int 37) (zi_ild 1 (zi_b (fun x y => x + y) (zi_iald (zi_pf 12 19 (zi_ald 0 (zi_ild 1 (zi_pf 12 20 (zi_ald 0 (zi_ald 0 (zi_gf 12 1 (zi_push (.int 43) (zi_ild 1 (zi_b (fun x y => x + y) (zi_iald (zi_pf 12 21 (zi_ild 2 (zi_eq (zi_ald 0 (zi_ild 3 (zi_vc 12 1 zf_X12_strollsActs zb_X12_act_85 zi_no))) (zi_ild 2 (zi_push (.int 1) (zi_ceq (zi_ald 0 (zi_ild 3 (zi_vc 12 1 zf_X12_looksActs zb_X12_act_85 zi_no))) (zi_ald 0 (zi_ild 3 (zi_vc 12 1 zf_X12_tellsActs zb_X12_act_85 zi_no))))))))))))))))))))))))))))))))) zi_no)))))) E st m
set_option maxRecDepth 20000 in
theorem zs_X12_act_0 : zj_KC cX12_act RX12 4 (7) (some .int) (0, fun _ => 0) 0 (zb_X12_act_0) := (zr_aldn dX12_act_0 rfl (zr_iconst dX12_act_1 rfl (zr_pf dX12_act_2 zfl_X12_228_12w (zr_aldn dX12_act_5 rfl (zr_ildn dX12_act_6 rfl (zr_callV dX12_act_7 zm_X12_isWalker ⟨⟨zq_1144, zq_77⟩, by decide +kernel, by omega, by decide⟩ rfl rfl zq_1141 zq_1143 zq_33 (zr_ifeq dX12_act_10 (tgt := 22) (by decide) (zs_X12_act_22) (zr_ildn dX12_act_13 rfl (zr_iconst dX12_act_14 rfl (zr_iconst dX12_act_15 rfl (zr_callS dX12_act_16 zm_X12_in ⟨⟨zq_1054, zq_77⟩, by decide +kernel, by omega, by decide⟩ zq_1052 zq_1053 (zr_ifne dX12_act_19 (tgt := 24) (by decide) (zr_aldn dX12_act_24 rfl (zr_aldn dX12_act_25 rfl (zr_gf dX12_act_26 zfl_X12_9_12 (zr_bipush dX12_act_29 rfl (zr_ildn dX12_act_31 rfl (zr_iadd dX12_act_32 (zr_iald dX12_act_33 (zr_pf dX12_act_34 zfl_X12_237_12w (zr_aldn dX12_act_37 rfl (zr_ildn dX12_act_38 rfl (zr_pf dX12_act_39 zfl_X12_234_12w (zr_aldn dX12_act_42 rfl (zr_aldn dX12_act_43 rfl (zr_gf dX12_act_44 zfl_X12_9_12 (zr_bipush dX12_act_47 rfl (zr_ildn dX12_act_49 rfl (zr_iadd dX12_act_50 (zr_iald dX12_act_51 (zr_pf dX12_act_52 zfl_X12_249_12w (zr_ildn dX12_act_55 rfl (zr_ifne dX12_act_56 (tgt := 67) (by decide) (zr_ildn dX12_act_67 rfl (zr_iconst dX12_act_68 rfl (zr_icne dX12_act_69 (tgt := 80) (by decide) (zr_aldn dX12_act_80 rfl (zr_ildn dX12_act_81 rfl (zr_callV dX12_act_82 zm_X12_tellsActs ⟨⟨zq_1353, zq_77⟩, by decide +kernel, by omega, by decide⟩ rfl rfl zq_1350 zq_1352 zq_62 (zs_X12_act_85) zr_no))) (zr_aldn dX12_act_72 rfl (zr_ildn dX12_act_73 rfl (zr_callV dX12_act_74 zm_X12_looksActs ⟨⟨zq_1345, zq_77⟩, by decide +kernel, by omega, by decide⟩ rfl rfl zq_1342 zq_1344 zq_60 (zr_goto dX12_act_77 (tgt := 85) (by decide) (zs_X12_act_85)) zr_no)))))) (zr_aldn dX12_act_59 rfl (zr_ildn dX12_act_60 rfl (zr_callV dX12_act_61 zm_X12_strollsActs ⟨⟨zq_1330, zq_77⟩, by decide +kernel, by omega, by decide⟩ rfl rfl zq_1327 zq_1329 zq_57 (zr_goto dX12_act_64 (tgt := 85) (by decide) (zs_X12_act_85)) zr_no)))))))))))))))))))))))) (zs_X12_act_22))))))) zr_no))))))
def zf_X12_act : zj_F := zj_run 4 zb_X12_act_0
theorem zm_X12_act : zj_MS 7 yX12_act cX12_act 4 (some .int) zf_X12_act := zj_met (own := RX12) rfl (by decide +kernel) (Or.inr (Or.inl rfl)) (zs_X12_act_0)
theorem dX12_trace_0 : decode cX12_trace 0 = .ok (.iload_n 1, 1) := by decide +kernel
theorem dX12_trace_1 : decode cX12_trace 1 = .ok (.iconst 0, 1) := by decide +kernel
theorem dX12_trace_2 : decode cX12_trace 2 = .ok (.aload_n 0, 1) := by decide +kernel
theorem dX12_trace_3 : decode cX12_trace 3 = .ok (.getfield 228, 3) := by decide +kernel
theorem dX12_trace_6 : decode cX12_trace 6 = .ok (.bipush 20, 2) := by decide +kernel
theorem dX12_trace_8 : decode cX12_trace 8 = .ok (.if_icmp .ge 10, 3) := by decide +kernel
theorem dX12_trace_11 : decode cX12_trace 11 = .ok (.aload_n 0, 1) := by decide +kernel
theorem dX12_trace_12 : decode cX12_trace 12 = .ok (.getfield 228, 3) := by decide +kernel
theorem dX12_trace_15 : decode cX12_trace 15 = .ok (.goto 5, 3) := by decide +kernel
theorem dX12_trace_18 : decode cX12_trace 18 = .ok (.bipush 20, 2) := by decide +kernel
theorem dX12_trace_20 : decode cX12_trace 20 = .ok (.iconst 1, 1) := by decide +kernel
theorem dX12_trace_21 : decode cX12_trace 21 = .ok (.isub, 1) := by decide +kernel
theorem dX12_trace_22 : decode cX12_trace 22 = .ok (.invokestatic 47, 3) := by decide +kernel
theorem dX12_trace_25 : decode cX12_trace 25 = .ok (.ifCond .eq 12, 3) := by decide +kernel
theorem dX12_trace_28 : decode cX12_trace 28 = .ok (.aload_n 0, 1) := by decide +kernel
theorem dX12_trace_29 : decode cX12_trace 29 = .ok (.getfield 40, 3) := by decide +kernel
theorem dX12_trace_32 : decode cX12_trace 32 = .ok (.iload_n 1, 1) := by decide +kernel
theorem dX12_trace_33 : decode cX12_trace 33 = .ok (.iaload, 1) := by decide +kernel
theorem dX12_trace_34 : decode cX12_trace 34 = .ok (.goto 4, 3) := by decide +kernel
theorem dX12_trace_37 : decode cX12_trace 37 = .ok (.iconst (-1), 1) := by decide +kernel
theorem dX12_trace_38 : decode cX12_trace 38 = .ok (.ireturn, 1) := by decide +kernel
def zb_X12_trace_38 (E : zj_E) (st : List Value) (m : zj_M) : zj_R := (zi_ret (some .int)) E st m
set_option maxRecDepth 20000 in
theorem zs_X12_trace_38 : zj_KC cX12_trace RX12 2 (1) (some .int) (0, fun _ => 0) 38 (zb_X12_trace_38) := (zr_ret dX12_trace_38)
def zb_X12_trace_20 (E : zj_E) (st : List Value) (m : zj_M) : zj_R := (zi_push (.int 1) (zi_b (fun x y => x - y) (zi_call 3 zf_X12_in (zi_eq (zi_push (.int (-1)) zb_X12_trace_38) (zi_ald 0 (zi_gf 12 17 (zi_ild 1 (zi_iald zb_X12_trace_38)))))))) E st m
set_option maxRecDepth 20000 in
theorem zs_X12_trace_20 : zj_KC cX12_trace RX12 2 (1) (some .int) (0, fun _ => 0) 20 (zb_X12_trace_20) := (zr_iconst dX12_trace_20 rfl (zr_isub dX12_trace_21 (zr_callS dX12_trace_22 zm_X12_in ⟨⟨zq_1054, zq_77⟩, by decide +kernel, by omega, by decide⟩ zq_1052 zq_1053 (zr_ifeq dX12_trace_25 (tgt := 37) (by decide) (zr_iconst dX12_trace_37 rfl (zs_X12_trace_38)) (zr_aldn dX12_trace_28 rfl (zr_gf dX12_trace_29 zfl_X12_40_12 (zr_ildn dX12_trace_32 rfl (zr_iald dX12_trace_33 (zr_goto dX12_trace_34 (tgt := 38) (by decide) (zs_X12_trace_38))))))))))
def zb_X12_trace_0 (E : zj_E) (st : List Value) (m : zj_M) : zj_R := (zi_ild 1 (zi_push (.int 0) (zi_ald 0 (zi_gf 12 18 (zi_push (.int 20) (zi_clt (zi_ald 0 (zi_gf 12 18 zb_X12_trace_20)) (zi_push (.int 20) zb_X12_trace_20))))))) E st m
set_option maxRecDepth 20000 in
theorem zs_X12_trace_0 : zj_KC cX12_trace RX12 2 (1) (some .int) (0, fun _ => 0) 0 (zb_X12_trace_0) := (zr_ildn dX12_trace_0 rfl (zr_iconst dX12_trace_1 rfl (zr_aldn dX12_trace_2 rfl (zr_gf dX12_trace_3 zfl_X12_228_12 (zr_bipush dX12_trace_6 rfl (zr_icge dX12_trace_8 (tgt := 18) (by decide) (zr_bipush dX12_trace_18 rfl (zs_X12_trace_20)) (zr_aldn dX12_trace_11 rfl (zr_gf dX12_trace_12 zfl_X12_228_12 (zr_goto dX12_trace_15 (tgt := 20) (by decide) (zs_X12_trace_20))))))))))
def zf_X12_trace : zj_F := zj_run 2 zb_X12_trace_0
theorem zm_X12_trace : zj_MS 1 yX12_trace cX12_trace 2 (some .int) zf_X12_trace := zj_met (own := RX12) rfl (by decide +kernel) (Or.inr (Or.inl rfl)) (zs_X12_trace_0)
theorem dX12_as_0 : decode cX12_as 0 = .ok (.aload_n 0, 1) := by decide +kernel
theorem dX12_as_1 : decode cX12_as 1 = .ok (.iload_n 1, 1) := by decide +kernel
theorem dX12_as_2 : decode cX12_as 2 = .ok (.invokevirtual 166, 3) := by decide +kernel
theorem dX12_as_5 : decode cX12_as 5 = .ok (.ifCond .eq 13, 3) := by decide +kernel
theorem dX12_as_8 : decode cX12_as 8 = .ok (.iload_n 2, 1) := by decide +kernel
theorem dX12_as_9 : decode cX12_as 9 = .ok (.iconst 0, 1) := by decide +kernel
theorem dX12_as_10 : decode cX12_as 10 = .ok (.bipush 6, 2) := by decide +kernel
theorem dX12_as_12 : decode cX12_as 12 = .ok (.invokestatic 47, 3) := by decide +kernel
theorem dX12_as_15 : decode cX12_as 15 = .ok (.ifCond .ne 5, 3) := by decide +kernel
theorem dX12_as_18 : decode cX12_as 18 = .ok (.iconst (-1), 1) := by decide +kernel
theorem dX12_as_19 : decode cX12_as 19 = .ok (.ireturn, 1) := by decide +kernel
theorem dX12_as_20 : decode cX12_as 20 = .ok (.aload_n 0, 1) := by decide +kernel
theorem dX12_as_21 : decode cX12_as 21 = .ok (.getfield 9, 3) := by decide +kernel
theorem dX12_as_24 : decode cX12_as 24 = .ok (.bipush 37, 2) := by decide +kernel
theorem dX12_as_26 : decode cX12_as 26 = .ok (.iload_n 1, 1) := by decide +kernel
theorem dX12_as_27 : decode cX12_as 27 = .ok (.iadd, 1) := by decide +kernel
theorem dX12_as_28 : decode cX12_as 28 = .ok (.iaload, 1) := by decide +kernel
theorem dX12_as_29 : decode cX12_as 29 = .ok (.iload_n 2, 1) := by decide +kernel
theorem dX12_as_30 : decode cX12_as 30 = .ok (.invokestatic 240, 3) := by decide +kernel
theorem dX12_as_33 : decode cX12_as 33 = .ok (.ifCond .eq 15, 3) := by decide +kernel
theorem dX12_as_36 : decode cX12_as 36 = .ok (.aload_n 0, 1) := by decide +kernel
theorem dX12_as_37 : decode cX12_as 37 = .ok (.getfield 9, 3) := by decide +kernel
theorem dX12_as_40 : decode cX12_as 40 = .ok (.bipush 43, 2) := by decide +kernel
theorem dX12_as_42 : decode cX12_as 42 = .ok (.iload_n 1, 1) := by decide +kernel
theorem dX12_as_43 : decode cX12_as 43 = .ok (.iadd, 1) := by decide +kernel
theorem dX12_as_44 : decode cX12_as 44 = .ok (.iaload, 1) := by decide +kernel
theorem dX12_as_45 : decode cX12_as 45 = .ok (.goto 5, 3) := by decide +kernel
theorem dX12_as_48 : decode cX12_as 48 = .ok (.bipush (-6), 2) := by decide +kernel
theorem dX12_as_50 : decode cX12_as 50 = .ok (.ireturn, 1) := by decide +kernel
def zb_X12_as_18 (E : zj_E) (st : List Value) (m : zj_M) : zj_R := (zi_push (.int (-1)) (zi_ret (some .int))) E st m
set_option maxRecDepth 20000 in
theorem zs_X12_as_18 : zj_KC cX12_as RX12 3 (2) (some .int) (0, fun _ => 0) 18 (zb_X12_as_18) := (zr_iconst dX12_as_18 rfl (zr_ret dX12_as_19))
def zb_X12_as_50 (E : zj_E) (st : List Value) (m : zj_M) : zj_R := (zi_ret (some .int)) E st m
set_option maxRecDepth 20000 in
theorem zs_X12_as_50 : zj_KC cX12_as RX12 3 (2) (some .int) (0, fun _ => 0) 50 (zb_X12_as_50) := (zr_ret dX12_as_50)
def zb_X12_as_0 (E : zj_E) (st : List Value) (m : zj_M) : zj_R := (zi_ald 0 (zi_ild 1 (zi_vc 12 1 zf_X12_isWalker (zi_eq zb_X12_as_18 (zi_ild 2 (zi_push (.int 0) (zi_push (.int 6) (zi_call 3 zf_X12_in (zi_eq zb_X12_as_18 (zi_ald 0 (zi_gf 12 1 (zi_push (.int 37) (zi_ild 1 (zi_b (fun x y => x + y) (zi_iald (zi_ild 2 (zi_call 2 zf_X12_isUnder (zi_eq (zi_push (.int (-6)) zb_X12_as_50) (zi_ald 0 (zi_gf 12 1 (zi_push (.int 43) (zi_ild 1 (zi_b (fun x y => x + y) (zi_iald zb_X12_as_50))))))))))))))))))))) zi_no))) E st m
set_option maxRecDepth 20000 in
theorem zs_X12_as_0 : zj_KC cX12_as RX12 3 (2) (some .int) (0, fun _ => 0) 0 (zb_X12_as_0) := (zr_aldn dX12_as_0 rfl (zr_ildn dX12_as_1 rfl (zr_callV dX12_as_2 zm_X12_isWalker ⟨⟨zq_1144, zq_77⟩, by decide +kernel, by omega, by decide⟩ rfl rfl zq_1141 zq_1143 zq_33 (zr_ifeq dX12_as_5 (tgt := 18) (by decide) (zs_X12_as_18) (zr_ildn dX12_as_8 rfl (zr_iconst dX12_as_9 rfl (zr_bipush dX12_as_10 rfl (zr_callS dX12_as_12 zm_X12_in ⟨⟨zq_1054, zq_77⟩, by decide +kernel, by omega, by decide⟩ zq_1052 zq_1053 (zr_ifne dX12_as_15 (tgt := 20) (by decide) (zr_aldn dX12_as_20 rfl (zr_gf dX12_as_21 zfl_X12_9_12 (zr_bipush dX12_as_24 rfl (zr_ildn dX12_as_26 rfl (zr_iadd dX12_as_27 (zr_iald dX12_as_28 (zr_ildn dX12_as_29 rfl (zr_callS dX12_as_30 zm_X12_isUnder ⟨⟨zq_1333, zq_77⟩, by decide +kernel, by omega, by decide⟩ zq_1331 zq_1332 (zr_ifeq dX12_as_33 (tgt := 48) (by decide) (zr_bipush dX12_as_48 rfl (zs_X12_as_50)) (zr_aldn dX12_as_36 rfl (zr_gf dX12_as_37 zfl_X12_9_12 (zr_bipush dX12_as_40 rfl (zr_ildn dX12_as_42 rfl (zr_iadd dX12_as_43 (zr_iald dX12_as_44 (zr_goto dX12_as_45 (tgt := 50) (by decide) (zs_X12_as_50))))))))))))))))) (zs_X12_as_18))))))) zr_no)))
def zf_X12_as : zj_F := zj_run 3 zb_X12_as_0
theorem zm_X12_as : zj_MS 2 yX12_as cX12_as 3 (some .int) zf_X12_as := zj_met (own := RX12) rfl (by decide +kernel) (Or.inr (Or.inl rfl)) (zs_X12_as_0)
theorem dX12_image_0 : decode cX12_image 0 = .ok (.iconst 0, 1) := by decide +kernel
theorem dX12_image_1 : decode cX12_image 1 = .ok (.istore_n 1, 1) := by decide +kernel
theorem dX12_image_2 : decode cX12_image 2 = .ok (.iload_n 1, 1) := by decide +kernel
theorem dX12_image_3 : decode cX12_image 3 = .ok (.sipush 933, 3) := by decide +kernel
theorem dX12_image_6 : decode cX12_image 6 = .ok (.if_icmp .ge 21, 3) := by decide +kernel
theorem dX12_image_9 : decode cX12_image 9 = .ok (.aload_n 0, 1) := by decide +kernel
theorem dX12_image_10 : decode cX12_image 10 = .ok (.getfield 15, 3) := by decide +kernel
theorem dX12_image_13 : decode cX12_image 13 = .ok (.iload_n 1, 1) := by decide +kernel
theorem dX12_image_14 : decode cX12_image 14 = .ok (.aload_n 0, 1) := by decide +kernel
theorem dX12_image_15 : decode cX12_image 15 = .ok (.getfield 9, 3) := by decide +kernel
theorem dX12_image_18 : decode cX12_image 18 = .ok (.iload_n 1, 1) := by decide +kernel
theorem dX12_image_19 : decode cX12_image 19 = .ok (.iaload, 1) := by decide +kernel
theorem dX12_image_20 : decode cX12_image 20 = .ok (.iastore, 1) := by decide +kernel
theorem dX12_image_21 : decode cX12_image 21 = .ok (.iinc 1 1, 3) := by decide +kernel
theorem dX12_image_24 : decode cX12_image 24 = .ok (.goto (-22), 3) := by decide +kernel
theorem dX12_image_27 : decode cX12_image 27 = .ok (.aload_n 0, 1) := by decide +kernel
theorem dX12_image_28 : decode cX12_image 28 = .ok (.iconst 1, 1) := by decide +kernel
theorem dX12_image_29 : decode cX12_image 29 = .ok (.putfield 264, 3) := by decide +kernel
theorem dX12_image_32 : decode cX12_image 32 = .ok (.aload_n 0, 1) := by decide +kernel
theorem dX12_image_33 : decode cX12_image 33 = .ok (.getfield 9, 3) := by decide +kernel
theorem dX12_image_36 : decode cX12_image 36 = .ok (.bipush 26, 2) := by decide +kernel
theorem dX12_image_38 : decode cX12_image 38 = .ok (.iaload, 1) := by decide +kernel
theorem dX12_image_39 : decode cX12_image 39 = .ok (.ireturn, 1) := by decide +kernel
def zb_X12_image_2 (r2 : zj_K) (E : zj_E) (st : List Value) (m : zj_M) : zj_R := (zi_ild 1 (zi_push (.int 933) (zi_clt (zi_ald 0 (zi_gf 12 2 (zi_ild 1 (zi_ald 0 (zi_gf 12 1 (zi_ild 1 (zi_iald (zi_iast (zi_inc 1 1 r2))))))))) (zi_ald 0 (zi_push (.int 1) (zi_pz 12 4 (zi_ald 0 (zi_gf 12 1 (zi_push (.int 26) (zi_iald (zi_ret (some .int)))))))))))) E st m
set_option maxRecDepth 20000 in
theorem zs_X12_image_2 {r2 : zj_K} (h2 : zj_KC cX12_image RX12 2 (0) (some .int) (0, fun _ => 0) 2 r2) : zj_KC cX12_image RX12 2 (0) (some .int) (0, fun _ => 0) 2 (zb_X12_image_2 r2) := (zr_ildn dX12_image_2 rfl (zr_sipush dX12_image_3 rfl (zr_icge dX12_image_6 (tgt := 27) (by decide) (zr_aldn dX12_image_27 rfl (zr_iconst dX12_image_28 rfl (zr_pz dX12_image_29 zfl_X12_264_12w (zr_aldn dX12_image_32 rfl (zr_gf dX12_image_33 zfl_X12_9_12 (zr_bipush dX12_image_36 rfl (zr_iald dX12_image_38 (zr_ret dX12_image_39)))))))) (zr_aldn dX12_image_9 rfl (zr_gf dX12_image_10 zfl_X12_15_12 (zr_ildn dX12_image_13 rfl (zr_aldn dX12_image_14 rfl (zr_gf dX12_image_15 zfl_X12_9_12 (zr_ildn dX12_image_18 rfl (zr_iald dX12_image_19 (zr_iast dX12_image_20 (zr_inc dX12_image_21 rfl (zr_goto dX12_image_24 (tgt := 2) (by decide) h2)))))))))))))
def zb_X12_image_0 (E : zj_E) (st : List Value) (m : zj_M) : zj_R := (zi_push (.int 0) (zi_ist 1 (zj_lp (zb_X12_image_2) zj_fu))) E st m
set_option maxRecDepth 20000 in
theorem zs_X12_image_0 : zj_KC cX12_image RX12 2 (0) (some .int) (0, fun _ => 0) 0 (zb_X12_image_0) := (zr_iconst dX12_image_0 rfl (zr_istn dX12_image_1 rfl (zr_lp (fun _ h => zs_X12_image_2 h) zj_fu)))
def zf_X12_image : zj_F := zj_run 2 zb_X12_image_0
theorem zm_X12_image : zj_MS 0 yX12_image cX12_image 2 (some .int) zf_X12_image := zj_met (own := RX12) rfl (by decide +kernel) (Or.inr (Or.inl rfl)) (zs_X12_image_0)
theorem dX12_undo_0 : decode cX12_undo 0 = .ok (.aload_n 0, 1) := by decide +kernel
theorem dX12_undo_1 : decode cX12_undo 1 = .ok (.getfield 264, 3) := by decide +kernel
theorem dX12_undo_4 : decode cX12_undo 4 = .ok (.ifCond .ne 6, 3) := by decide +kernel
theorem dX12_undo_7 : decode cX12_undo 7 = .ok (.bipush (-3), 2) := by decide +kernel
theorem dX12_undo_9 : decode cX12_undo 9 = .ok (.ireturn, 1) := by decide +kernel
theorem dX12_undo_10 : decode cX12_undo 10 = .ok (.iconst 0, 1) := by decide +kernel
theorem dX12_undo_11 : decode cX12_undo 11 = .ok (.istore_n 1, 1) := by decide +kernel
theorem dX12_undo_12 : decode cX12_undo 12 = .ok (.iload_n 1, 1) := by decide +kernel
theorem dX12_undo_13 : decode cX12_undo 13 = .ok (.sipush 933, 3) := by decide +kernel
theorem dX12_undo_16 : decode cX12_undo 16 = .ok (.if_icmp .ge 21, 3) := by decide +kernel
theorem dX12_undo_19 : decode cX12_undo 19 = .ok (.aload_n 0, 1) := by decide +kernel
theorem dX12_undo_20 : decode cX12_undo 20 = .ok (.getfield 9, 3) := by decide +kernel
theorem dX12_undo_23 : decode cX12_undo 23 = .ok (.iload_n 1, 1) := by decide +kernel
theorem dX12_undo_24 : decode cX12_undo 24 = .ok (.aload_n 0, 1) := by decide +kernel
theorem dX12_undo_25 : decode cX12_undo 25 = .ok (.getfield 15, 3) := by decide +kernel
theorem dX12_undo_28 : decode cX12_undo 28 = .ok (.iload_n 1, 1) := by decide +kernel
theorem dX12_undo_29 : decode cX12_undo 29 = .ok (.iaload, 1) := by decide +kernel
theorem dX12_undo_30 : decode cX12_undo 30 = .ok (.iastore, 1) := by decide +kernel
theorem dX12_undo_31 : decode cX12_undo 31 = .ok (.iinc 1 1, 3) := by decide +kernel
theorem dX12_undo_34 : decode cX12_undo 34 = .ok (.goto (-22), 3) := by decide +kernel
theorem dX12_undo_37 : decode cX12_undo 37 = .ok (.aload_n 0, 1) := by decide +kernel
theorem dX12_undo_38 : decode cX12_undo 38 = .ok (.getfield 9, 3) := by decide +kernel
theorem dX12_undo_41 : decode cX12_undo 41 = .ok (.bipush 26, 2) := by decide +kernel
theorem dX12_undo_43 : decode cX12_undo 43 = .ok (.iaload, 1) := by decide +kernel
theorem dX12_undo_44 : decode cX12_undo 44 = .ok (.ireturn, 1) := by decide +kernel
def zb_X12_undo_12 (r12 : zj_K) (E : zj_E) (st : List Value) (m : zj_M) : zj_R := (zi_ild 1 (zi_push (.int 933) (zi_clt (zi_ald 0 (zi_gf 12 1 (zi_ild 1 (zi_ald 0 (zi_gf 12 2 (zi_ild 1 (zi_iald (zi_iast (zi_inc 1 1 r12))))))))) (zi_ald 0 (zi_gf 12 1 (zi_push (.int 26) (zi_iald (zi_ret (some .int))))))))) E st m
set_option maxRecDepth 20000 in
theorem zs_X12_undo_12 {r12 : zj_K} (h12 : zj_KC cX12_undo RX12 2 (0) (some .int) (0, fun _ => 0) 12 r12) : zj_KC cX12_undo RX12 2 (0) (some .int) (0, fun _ => 0) 12 (zb_X12_undo_12 r12) := (zr_ildn dX12_undo_12 rfl (zr_sipush dX12_undo_13 rfl (zr_icge dX12_undo_16 (tgt := 37) (by decide) (zr_aldn dX12_undo_37 rfl (zr_gf dX12_undo_38 zfl_X12_9_12 (zr_bipush dX12_undo_41 rfl (zr_iald dX12_undo_43 (zr_ret dX12_undo_44))))) (zr_aldn dX12_undo_19 rfl (zr_gf dX12_undo_20 zfl_X12_9_12 (zr_ildn dX12_undo_23 rfl (zr_aldn dX12_undo_24 rfl (zr_gf dX12_undo_25 zfl_X12_15_12 (zr_ildn dX12_undo_28 rfl (zr_iald dX12_undo_29 (zr_iast dX12_undo_30 (zr_inc dX12_undo_31 rfl (zr_goto dX12_undo_34 (tgt := 12) (by decide) h12)))))))))))))
def zb_X12_undo_0 (E : zj_E) (st : List Value) (m : zj_M) : zj_R := (zi_ald 0 (zi_gf 12 4 (zi_eq (zi_push (.int (-3)) (zi_ret (some .int))) (zi_push (.int 0) (zi_ist 1 (zj_lp (zb_X12_undo_12) zj_fu)))))) E st m
set_option maxRecDepth 20000 in
theorem zs_X12_undo_0 : zj_KC cX12_undo RX12 2 (0) (some .int) (0, fun _ => 0) 0 (zb_X12_undo_0) := (zr_aldn dX12_undo_0 rfl (zr_gf dX12_undo_1 zfl_X12_264_12 (zr_ifne dX12_undo_4 (tgt := 10) (by decide) (zr_iconst dX12_undo_10 rfl (zr_istn dX12_undo_11 rfl (zr_lp (fun _ h => zs_X12_undo_12 h) zj_fu))) (zr_bipush dX12_undo_7 rfl (zr_ret dX12_undo_9)))))
def zf_X12_undo : zj_F := zj_run 2 zb_X12_undo_0
theorem zm_X12_undo : zj_MS 0 yX12_undo cX12_undo 2 (some .int) zf_X12_undo := zj_met (own := RX12) rfl (by decide +kernel) (Or.inr (Or.inl rfl)) (zs_X12_undo_0)
theorem dX12_count_0 : decode cX12_count 0 = .ok (.iload_n 1, 1) := by decide +kernel
theorem dX12_count_1 : decode cX12_count 1 = .ok (.bipush 6, 2) := by decide +kernel
theorem dX12_count_3 : decode cX12_count 3 = .ok (.if_icmp .ne 10, 3) := by decide +kernel
theorem dX12_count_6 : decode cX12_count 6 = .ok (.aload_n 0, 1) := by decide +kernel
theorem dX12_count_7 : decode cX12_count 7 = .ok (.getfield 228, 3) := by decide +kernel
theorem dX12_count_10 : decode cX12_count 10 = .ok (.goto 25, 3) := by decide +kernel
theorem dX12_count_13 : decode cX12_count 13 = .ok (.iload_n 1, 1) := by decide +kernel
theorem dX12_count_14 : decode cX12_count 14 = .ok (.iconst 0, 1) := by decide +kernel
theorem dX12_count_15 : decode cX12_count 15 = .ok (.iconst 5, 1) := by decide +kernel
theorem dX12_count_16 : decode cX12_count 16 = .ok (.invokestatic 47, 3) := by decide +kernel
theorem dX12_count_19 : decode cX12_count 19 = .ok (.ifCond .eq 15, 3) := by decide +kernel
theorem dX12_count_22 : decode cX12_count 22 = .ok (.aload_n 0, 1) := by decide +kernel
theorem dX12_count_23 : decode cX12_count 23 = .ok (.getfield 9, 3) := by decide +kernel
theorem dX12_count_26 : decode cX12_count 26 = .ok (.bipush 26, 2) := by decide +kernel
theorem dX12_count_28 : decode cX12_count 28 = .ok (.iload_n 1, 1) := by decide +kernel
theorem dX12_count_29 : decode cX12_count 29 = .ok (.iadd, 1) := by decide +kernel
theorem dX12_count_30 : decode cX12_count 30 = .ok (.iaload, 1) := by decide +kernel
theorem dX12_count_31 : decode cX12_count 31 = .ok (.goto 4, 3) := by decide +kernel
theorem dX12_count_34 : decode cX12_count 34 = .ok (.iconst (-1), 1) := by decide +kernel
theorem dX12_count_35 : decode cX12_count 35 = .ok (.ireturn, 1) := by decide +kernel
def zb_X12_count_35 (E : zj_E) (st : List Value) (m : zj_M) : zj_R := (zi_ret (some .int)) E st m
set_option maxRecDepth 20000 in
theorem zs_X12_count_35 : zj_KC cX12_count RX12 2 (1) (some .int) (0, fun _ => 0) 35 (zb_X12_count_35) := (zr_ret dX12_count_35)
def zb_X12_count_0 (E : zj_E) (st : List Value) (m : zj_M) : zj_R := (zi_ild 1 (zi_push (.int 6) (zi_ceq (zi_ald 0 (zi_gf 12 18 zb_X12_count_35)) (zi_ild 1 (zi_push (.int 0) (zi_push (.int 5) (zi_call 3 zf_X12_in (zi_eq (zi_push (.int (-1)) zb_X12_count_35) (zi_ald 0 (zi_gf 12 1 (zi_push (.int 26) (zi_ild 1 (zi_b (fun x y => x + y) (zi_iald zb_X12_count_35)))))))))))))) E st m
set_option maxRecDepth 20000 in
theorem zs_X12_count_0 : zj_KC cX12_count RX12 2 (1) (some .int) (0, fun _ => 0) 0 (zb_X12_count_0) := (zr_ildn dX12_count_0 rfl (zr_bipush dX12_count_1 rfl (zr_icne dX12_count_3 (tgt := 13) (by decide) (zr_ildn dX12_count_13 rfl (zr_iconst dX12_count_14 rfl (zr_iconst dX12_count_15 rfl (zr_callS dX12_count_16 zm_X12_in ⟨⟨zq_1054, zq_77⟩, by decide +kernel, by omega, by decide⟩ zq_1052 zq_1053 (zr_ifeq dX12_count_19 (tgt := 34) (by decide) (zr_iconst dX12_count_34 rfl (zs_X12_count_35)) (zr_aldn dX12_count_22 rfl (zr_gf dX12_count_23 zfl_X12_9_12 (zr_bipush dX12_count_26 rfl (zr_ildn dX12_count_28 rfl (zr_iadd dX12_count_29 (zr_iald dX12_count_30 (zr_goto dX12_count_31 (tgt := 35) (by decide) (zs_X12_count_35))))))))))))) (zr_aldn dX12_count_6 rfl (zr_gf dX12_count_7 zfl_X12_228_12 (zr_goto dX12_count_10 (tgt := 35) (by decide) (zs_X12_count_35)))))))
def zf_X12_count : zj_F := zj_run 2 zb_X12_count_0
theorem zm_X12_count : zj_MS 1 yX12_count cX12_count 2 (some .int) zf_X12_count := zj_met (own := RX12) rfl (by decide +kernel) (Or.inr (Or.inl rfl)) (zs_X12_count_0)
