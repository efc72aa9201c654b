theorem dX12_meet_0 : decode cX12_meet 0 = .ok (.aload_n 0, 1) := by decide +kernel
theorem dX12_meet_1 : decode cX12_meet 1 = .ok (.iload_n 1, 1) := by decide +kernel
theorem dX12_meet_2 : decode cX12_meet 2 = .ok (.invokevirtual 166, 3) := by decide +kernel
theorem dX12_meet_5 : decode cX12_meet 5 = .ok (.ifCond .eq 11, 3) := by decide +kernel
theorem dX12_meet_8 : decode cX12_meet 8 = .ok (.aload_n 0, 1) := by decide +kernel
theorem dX12_meet_9 : decode cX12_meet 9 = .ok (.iload_n 2, 1) := by decide +kernel
theorem dX12_meet_10 : decode cX12_meet 10 = .ok (.invokevirtual 166, 3) := by decide +kernel
theorem dX12_meet_13 : decode cX12_meet 13 = .ok (.ifCond .ne 5, 3) := by decide +kernel
theorem dX12_meet_16 : decode cX12_meet 16 = .ok (.iconst (-1), 1) := by decide +kernel
theorem dX12_meet_17 : decode cX12_meet 17 = .ok (.ireturn, 1) := by decide +kernel
theorem dX12_meet_18 : decode cX12_meet 18 = .ok (.iload_n 1, 1) := by decide +kernel
theorem dX12_meet_19 : decode cX12_meet 19 = .ok (.iload_n 2, 1) := by decide +kernel
theorem dX12_meet_20 : decode cX12_meet 20 = .ok (.if_icmp .ne 6, 3) := by decide +kernel
theorem dX12_meet_23 : decode cX12_meet 23 = .ok (.bipush (-2), 2) := by decide +kernel
theorem dX12_meet_25 : decode cX12_meet 25 = .ok (.ireturn, 1) := by decide +kernel
theorem dX12_meet_26 : decode cX12_meet 26 = .ok (.aload_n 0, 1) := by decide +kernel
theorem dX12_meet_27 : decode cX12_meet 27 = .ok (.invokevirtual 198, 3) := by decide +kernel
theorem dX12_meet_30 : decode cX12_meet 30 = .ok (.bipush (-5), 2) := by decide +kernel
theorem dX12_meet_32 : decode cX12_meet 32 = .ok (.istore_n 3, 1) := by decide +kernel
theorem dX12_meet_33 : decode cX12_meet 33 = .ok (.iconst 0, 1) := by decide +kernel
theorem dX12_meet_34 : decode cX12_meet 34 = .ok (.istore 4, 2) := by decide +kernel
theorem dX12_meet_36 : decode cX12_meet 36 = .ok (.iload 4, 2) := by decide +kernel
theorem dX12_meet_38 : decode cX12_meet 38 = .ok (.bipush 60, 2) := by decide +kernel
theorem dX12_meet_40 : decode cX12_meet 40 = .ok (.if_icmp .gt 67, 3) := by decide +kernel
theorem dX12_meet_43 : decode cX12_meet 43 = .ok (.iload_n 3, 1) := by decide +kernel
theorem dX12_meet_44 : decode cX12_meet 44 = .ok (.bipush (-5), 2) := by decide +kernel
theorem dX12_meet_46 : decode cX12_meet 46 = .ok (.if_icmp .ne 61, 3) := by decide +kernel
theorem dX12_meet_49 : decode cX12_meet 49 = .ok (.aload_n 0, 1) := by decide +kernel
theorem dX12_meet_50 : decode cX12_meet 50 = .ok (.getfield 9, 3) := by decide +kernel
theorem dX12_meet_53 : decode cX12_meet 53 = .ok (.iconst 2, 1) := by decide +kernel
theorem dX12_meet_54 : decode cX12_meet 54 = .ok (.iload_n 1, 1) := by decide +kernel
theorem dX12_meet_55 : decode cX12_meet 55 = .ok (.iadd, 1) := by decide +kernel
theorem dX12_meet_56 : decode cX12_meet 56 = .ok (.iaload, 1) := by decide +kernel
theorem dX12_meet_57 : decode cX12_meet 57 = .ok (.aload_n 0, 1) := by decide +kernel
theorem dX12_meet_58 : decode cX12_meet 58 = .ok (.getfield 9, 3) := by decide +kernel
theorem dX12_meet_61 : decode cX12_meet 61 = .ok (.iconst 2, 1) := by decide +kernel
theorem dX12_meet_62 : decode cX12_meet 62 = .ok (.iload_n 2, 1) := by decide +kernel
theorem dX12_meet_63 : decode cX12_meet 63 = .ok (.iadd, 1) := by decide +kernel
theorem dX12_meet_64 : decode cX12_meet 64 = .ok (.iaload, 1) := by decide +kernel
theorem dX12_meet_65 : decode cX12_meet 65 = .ok (.if_icmp .ne 29, 3) := by decide +kernel
theorem dX12_meet_68 : decode cX12_meet 68 = .ok (.aload_n 0, 1) := by decide +kernel
theorem dX12_meet_69 : decode cX12_meet 69 = .ok (.getfield 9, 3) := by decide +kernel
theorem dX12_meet_72 : decode cX12_meet 72 = .ok (.bipush 8, 2) := by decide +kernel
theorem dX12_meet_74 : decode cX12_meet 74 = .ok (.iload_n 1, 1) := by decide +kernel
theorem dX12_meet_75 : decode cX12_meet 75 = .ok (.iadd, 1) := by decide +kernel
theorem dX12_meet_76 : decode cX12_meet 76 = .ok (.iaload, 1) := by decide +kernel
theorem dX12_meet_77 : decode cX12_meet 77 = .ok (.aload_n 0, 1) := by decide +kernel
theorem dX12_meet_78 : decode cX12_meet 78 = .ok (.getfield 9, 3) := by decide +kernel
theorem dX12_meet_81 : decode cX12_meet 81 = .ok (.bipush 8, 2) := by decide +kernel
theorem dX12_meet_83 : decode cX12_meet 83 = .ok (.iload_n 2, 1) := by decide +kernel
theorem dX12_meet_84 : decode cX12_meet 84 = .ok (.iadd, 1) := by decide +kernel
theorem dX12_meet_85 : decode cX12_meet 85 = .ok (.iaload, 1) := by decide +kernel
theorem dX12_meet_86 : decode cX12_meet 86 = .ok (.if_icmp .ne 8, 3) := by decide +kernel
theorem dX12_meet_89 : decode cX12_meet 89 = .ok (.iload 4, 2) := by decide +kernel
theorem dX12_meet_91 : decode cX12_meet 91 = .ok (.goto 5, 3) := by decide +kernel
theorem dX12_meet_94 : decode cX12_meet 94 = .ok (.bipush (-5), 2) := by decide +kernel
theorem dX12_meet_96 : decode cX12_meet 96 = .ok (.istore_n 3, 1) := by decide +kernel
theorem dX12_meet_97 : decode cX12_meet 97 = .ok (.aload_n 0, 1) := by decide +kernel
theorem dX12_meet_98 : decode cX12_meet 98 = .ok (.invokevirtual 192, 3) := by decide +kernel
theorem dX12_meet_101 : decode cX12_meet 101 = .ok (.iinc 4 1, 3) := by decide +kernel
theorem dX12_meet_104 : decode cX12_meet 104 = .ok (.goto (-68), 3) := by decide +kernel
theorem dX12_meet_107 : decode cX12_meet 107 = .ok (.aload_n 0, 1) := by decide +kernel
theorem dX12_meet_108 : decode cX12_meet 108 = .ok (.invokevirtual 201, 3) := by decide +kernel
theorem dX12_meet_111 : decode cX12_meet 111 = .ok (.iload_n 3, 1) := by decide +kernel
theorem dX12_meet_112 : decode cX12_meet 112 = .ok (.ireturn, 1) := by decide +kernel
def zb_X12_meet_16 (E : zj_E) (st : List Value) (m : zj_M) : zj_R := (zi_push (.int (-1)) (zi_ret (some .int))) E st m
set_option maxRecDepth 20000 in
theorem zs_X12_meet_16 : zj_KC cX12_meet RX12 5 (5) (some .int) (0, fun _ => 0) 16 (zb_X12_meet_16) := (zr_iconst dX12_meet_16 rfl (zr_ret dX12_meet_17))
def zb_X12_meet_107 (E : zj_E) (st : List Value) (m : zj_M) : zj_R := (zi_ald 0 (zi_vc 12 0 zf_X12_goesBack (zi_ild 3 (zi_ret (some .int))) zi_no)) E st m
set_option maxRecDepth 20000 in
theorem zs_X12_meet_107 : zj_KC cX12_meet RX12 5 (5) (some .int) (0, fun _ => 0) 107 (zb_X12_meet_107) := (zr_aldn dX12_meet_107 rfl (zr_callV dX12_meet_108 zm_X12_goesBack ⟨⟨zq_1229, zq_77⟩, by decide +kernel, by omega, by decide⟩ rfl rfl zq_1226 zq_1228 zq_50 (zr_ildn dX12_meet_111 rfl (zr_ret dX12_meet_112)) zr_no))
def zb_X12_meet_96 (r36 : zj_K) (E : zj_E) (st : List Value) (m : zj_M) : zj_R := (zi_ist 3 (zi_ald 0 (zi_vc 12 0 zf_X12_goes (zi_inc 4 1 r36) zi_no))) E st m
set_option maxRecDepth 20000 in
theorem zs_X12_meet_96 {r36 : zj_K} (h36 : zj_KC cX12_meet RX12 5 (5) (some .int) (0, fun _ => 0) 36 r36) : zj_KC cX12_meet RX12 5 (5) (some .int) (0, fun _ => 0) 96 (zb_X12_meet_96 r36) := (zr_istn dX12_meet_96 rfl (zr_aldn dX12_meet_97 rfl (zr_callV dX12_meet_98 zm_X12_goes ⟨⟨zq_1221, zq_77⟩, by decide +kernel, by omega, by decide⟩ rfl rfl zq_1218 zq_1220 zq_48 (zr_inc dX12_meet_101 rfl (zr_goto dX12_meet_104 (tgt := 36) (by decide) h36)) zr_no)))
def zb_X12_meet_94 (r36 : zj_K) (E : zj_E) (st : List Value) (m : zj_M) : zj_R := (zi_push (.int (-5)) (zb_X12_meet_96 r36)) E st m
set_option maxRecDepth 20000 in
theorem zs_X12_meet_94 {r36 : zj_K} (h36 : zj_KC cX12_meet RX12 5 (5) (some .int) (0, fun _ => 0) 36 r36) : zj_KC cX12_meet RX12 5 (5) (some .int) (0, fun _ => 0) 94 (zb_X12_meet_94 r36) := (zr_bipush dX12_meet_94 rfl (zs_X12_meet_96 h36))
def zb_X12_meet_36 (r36 : zj_K) (E : zj_E) (st : List Value) (m : zj_M) : zj_R := (zi_ild 4 (zi_push (.int 60) (zi_cle (zi_ild 3 (zi_push (.int (-5)) (zi_ceq (zi_ald 0 (zi_gf 12 1 (zi_push (.int 2) (zi_ild 1 (zi_b (fun x y => x + y) (zi_iald (zi_ald 0 (zi_gf 12 1 (zi_push (.int 2) (zi_ild 2 (zi_b (fun x y => x + y) (zi_iald (zi_ceq (zi_ald 0 (zi_gf 12 1 (zi_push (.int 8) (zi_ild 1 (zi_b (fun x y => x + y) (zi_iald (zi_ald 0 (zi_gf 12 1 (zi_push (.int 8) (zi_ild 2 (zi_b (fun x y => x + y) (zi_iald (zi_ceq (zi_ild 4 (zb_X12_meet_96 r36)) (zb_X12_meet_94 r36)))))))))))))) (zb_X12_meet_94 r36)))))))))))))) zb_X12_meet_107))) zb_X12_meet_107))) E st m
set_option maxRecDepth 20000 in
theorem zs_X12_meet_36 {r36 : zj_K} (h36 : zj_KC cX12_meet RX12 5 (5) (some .int) (0, fun _ => 0) 36 r36) : zj_KC cX12_meet RX12 5 (5) (some .int) (0, fun _ => 0) 36 (zb_X12_meet_36 r36) := (zr_ild dX12_meet_36 (zr_bipush dX12_meet_38 rfl (zr_icgt dX12_meet_40 (tgt := 107) (by decide) (zs_X12_meet_107) (zr_ildn dX12_meet_43 rfl (zr_bipush dX12_meet_44 rfl (zr_icne dX12_meet_46 (tgt := 107) (by decide) (zs_X12_meet_107) (zr_aldn dX12_meet_49 rfl (zr_gf dX12_meet_50 zfl_X12_9_12 (zr_iconst dX12_meet_53 rfl (zr_ildn dX12_meet_54 rfl (zr_iadd dX12_meet_55 (zr_iald dX12_meet_56 (zr_aldn dX12_meet_57 rfl (zr_gf dX12_meet_58 zfl_X12_9_12 (zr_iconst dX12_meet_61 rfl (zr_ildn dX12_meet_62 rfl (zr_iadd dX12_meet_63 (zr_iald dX12_meet_64 (zr_icne dX12_meet_65 (tgt := 94) (by decide) (zs_X12_meet_94 h36) (zr_aldn dX12_meet_68 rfl (zr_gf dX12_meet_69 zfl_X12_9_12 (zr_bipush dX12_meet_72 rfl (zr_ildn dX12_meet_74 rfl (zr_iadd dX12_meet_75 (zr_iald dX12_meet_76 (zr_aldn dX12_meet_77 rfl (zr_gf dX12_meet_78 zfl_X12_9_12 (zr_bipush dX12_meet_81 rfl (zr_ildn dX12_meet_83 rfl (zr_iadd dX12_meet_84 (zr_iald dX12_meet_85 (zr_icne dX12_meet_86 (tgt := 94) (by decide) (zs_X12_meet_94 h36) (zr_ild dX12_meet_89 (zr_goto dX12_meet_91 (tgt := 96) (by decide) (zs_X12_meet_96 h36)))))))))))))))))))))))))))))))))))
def zb_X12_meet_0 (E : zj_E) (st : List Value) (m : zj_M) : zj_R := (zi_ald 0 (zi_ild 1 (zi_vc 12 1 zf_X12_isWalker (zi_eq zb_X12_meet_16 (zi_ald 0 (zi_ild 2 (zi_vc 12 1 zf_X12_isWalker (zi_eq zb_X12_meet_16 (zi_ild 1 (zi_ild 2 (zi_ceq (zi_push (.int (-2)) (zi_ret (some .int))) (zi_ald 0 (zi_vc 12 0 zf_X12_keeps (zi_push (.int (-5)) (zi_ist 3 (zi_push (.int 0) (zi_ist 4 (zj_lp (zb_X12_meet_36) zj_fu))))) zi_no)))))) zi_no)))) zi_no))) E st m
set_option maxRecDepth 20000 in
theorem zs_X12_meet_0 : zj_KC cX12_meet RX12 5 (5) (some .int) (0, fun _ => 0) 0 (zb_X12_meet_0) := (zr_aldn dX12_meet_0 rfl (zr_ildn dX12_meet_1 rfl (zr_callV dX12_meet_2 zm_X12_isWalker ⟨⟨zq_1144, zq_77⟩, by decide +kernel, by omega, by decide⟩ rfl rfl zq_1141 zq_1143 zq_33 (zr_ifeq dX12_meet_5 (tgt := 16) (by decide) (zs_X12_meet_16) (zr_aldn dX12_meet_8 rfl (zr_ildn dX12_meet_9 rfl (zr_callV dX12_meet_10 zm_X12_isWalker ⟨⟨zq_1144, zq_77⟩, by decide +kernel, by omega, by decide⟩ rfl rfl zq_1141 zq_1143 zq_33 (zr_ifne dX12_meet_13 (tgt := 18) (by decide) (zr_ildn dX12_meet_18 rfl (zr_ildn dX12_meet_19 rfl (zr_icne dX12_meet_20 (tgt := 26) (by decide) (zr_aldn dX12_meet_26 rfl (zr_callV dX12_meet_27 zm_X12_keeps ⟨⟨zq_1213, zq_77⟩, by decide +kernel, by omega, by decide⟩ rfl rfl zq_1210 zq_1212 zq_46 (zr_bipush dX12_meet_30 rfl (zr_istn dX12_meet_32 rfl (zr_iconst dX12_meet_33 rfl (zr_ist dX12_meet_34 (zr_lp (fun _ h => zs_X12_meet_36 h) zj_fu))))) zr_no)) (zr_bipush dX12_meet_23 rfl (zr_ret dX12_meet_25))))) (zs_X12_meet_16)) zr_no)))) zr_no)))
def zf_X12_meet : zj_F := zj_run 5 zb_X12_meet_0
theorem zm_X12_meet : zj_MS 5 yX12_meet cX12_meet 5 (some .int) zf_X12_meet := zj_met (own := RX12) rfl (by decide +kernel) (Or.inr (Or.inl rfl)) (zs_X12_meet_0)
theorem dX12_posts_0 : decode cX12_posts 0 = .ok (.iload_n 2, 1) := by decide +kernel
theorem dX12_posts_1 : decode cX12_posts 1 = .ok (.iconst 0, 1) := by decide +kernel
theorem dX12_posts_2 : decode cX12_posts 2 = .ok (.iconst 1, 1) := by decide +kernel
theorem dX12_posts_3 : decode cX12_posts 3 = .ok (.invokestatic 47, 3) := by decide +kernel
theorem dX12_posts_6 : decode cX12_posts 6 = .ok (.ifCond .ne 5, 3) := by decide +kernel
theorem dX12_posts_9 : decode cX12_posts 9 = .ok (.iconst (-1), 1) := by decide +kernel
theorem dX12_posts_10 : decode cX12_posts 10 = .ok (.ireturn, 1) := by decide +kernel
theorem dX12_posts_11 : decode cX12_posts 11 = .ok (.iload_n 1, 1) := by decide +kernel
theorem dX12_posts_12 : decode cX12_posts 12 = .ok (.iconst 0, 1) := by decide +kernel
theorem dX12_posts_13 : decode cX12_posts 13 = .ok (.iconst 3, 1) := by decide +kernel
theorem dX12_posts_14 : decode cX12_posts 14 = .ok (.invokestatic 47, 3) := by decide +kernel
theorem dX12_posts_17 : decode cX12_posts 17 = .ok (.ifCond .ne 6, 3) := by decide +kernel
theorem dX12_posts_20 : decode cX12_posts 20 = .ok (.bipush (-2), 2) := by decide +kernel
theorem dX12_posts_22 : decode cX12_posts 22 = .ok (.ireturn, 1) := by decide +kernel
theorem dX12_posts_23 : decode cX12_posts 23 = .ok (.iconst 0, 1) := by decide +kernel
theorem dX12_posts_24 : decode cX12_posts 24 = .ok (.istore_n 3, 1) := by decide +kernel
theorem dX12_posts_25 : decode cX12_posts 25 = .ok (.iload_n 3, 1) := by decide +kernel
theorem dX12_posts_26 : decode cX12_posts 26 = .ok (.sipush 3840, 3) := by decide +kernel
theorem dX12_posts_29 : decode cX12_posts 29 = .ok (.if_icmp .ge 16, 3) := by decide +kernel
theorem dX12_posts_32 : decode cX12_posts 32 = .ok (.aload_n 0, 1) := by decide +kernel
theorem dX12_posts_33 : decode cX12_posts 33 = .ok (.getfield 31, 3) := by decide +kernel
theorem dX12_posts_36 : decode cX12_posts 36 = .ok (.iload_n 3, 1) := by decide +kernel
theorem dX12_posts_37 : decode cX12_posts 37 = .ok (.iconst 0, 1) := by decide +kernel
theorem dX12_posts_38 : decode cX12_posts 38 = .ok (.bastore, 1) := by decide +kernel
theorem dX12_posts_39 : decode cX12_posts 39 = .ok (.iinc 3 1, 3) := by decide +kernel
theorem dX12_posts_42 : decode cX12_posts 42 = .ok (.goto (-17), 3) := by decide +kernel
theorem dX12_posts_45 : decode cX12_posts 45 = .ok (.aload_n 0, 1) := by decide +kernel
theorem dX12_posts_46 : decode cX12_posts 46 = .ok (.iconst 1, 1) := by decide +kernel
theorem dX12_posts_47 : decode cX12_posts 47 = .ok (.putfield 127, 3) := by decide +kernel
theorem dX12_posts_50 : decode cX12_posts 50 = .ok (.iconst (-1), 1) := by decide +kernel
theorem dX12_posts_51 : decode cX12_posts 51 = .ok (.istore_n 3, 1) := by decide +kernel
theorem dX12_posts_52 : decode cX12_posts 52 = .ok (.iconst 0, 1) := by decide +kernel
theorem dX12_posts_53 : decode cX12_posts 53 = .ok (.istore 4, 2) := by decide +kernel
theorem dX12_posts_55 : decode cX12_posts 55 = .ok (.iconst 0, 1) := by decide +kernel
theorem dX12_posts_56 : decode cX12_posts 56 = .ok (.istore 5, 2) := by decide +kernel
theorem dX12_posts_58 : decode cX12_posts 58 = .ok (.iload 5, 2) := by decide +kernel
theorem dX12_posts_60 : decode cX12_posts 60 = .ok (.sipush 4096, 3) := by decide +kernel
theorem dX12_posts_63 : decode cX12_posts 63 = .ok (.if_icmp .ge 213, 3) := by decide +kernel
theorem dX12_posts_66 : decode cX12_posts 66 = .ok (.iload 5, 2) := by decide +kernel
theorem dX12_posts_68 : decode cX12_posts 68 = .ok (.sipush 256, 3) := by decide +kernel
theorem dX12_posts_71 : decode cX12_posts 71 = .ok (.idiv, 1) := by decide +kernel
theorem dX12_posts_72 : decode cX12_posts 72 = .ok (.istore 6, 2) := by decide +kernel
theorem dX12_posts_74 : decode cX12_posts 74 = .ok (.iload 5, 2) := by decide +kernel
theorem dX12_posts_76 : decode cX12_posts 76 = .ok (.bipush 16, 2) := by decide +kernel
theorem dX12_posts_78 : decode cX12_posts 78 = .ok (.idiv, 1) := by decide +kernel
theorem dX12_posts_79 : decode cX12_posts 79 = .ok (.bipush 16, 2) := by decide +kernel
theorem dX12_posts_81 : decode cX12_posts 81 = .ok (.irem, 1) := by decide +kernel
theorem dX12_posts_82 : decode cX12_posts 82 = .ok (.istore 7, 2) := by decide +kernel
theorem dX12_posts_84 : decode cX12_posts 84 = .ok (.iload 5, 2) := by decide +kernel
theorem dX12_posts_86 : decode cX12_posts 86 = .ok (.bipush 16, 2) := by decide +kernel
theorem dX12_posts_88 : decode cX12_posts 88 = .ok (.irem, 1) := by decide +kernel
theorem dX12_posts_89 : decode cX12_posts 89 = .ok (.istore 8, 2) := by decide +kernel
theorem dX12_posts_91 : decode cX12_posts 91 = .ok (.iload_n 1, 1) := by decide +kernel
theorem dX12_posts_92 : decode cX12_posts 92 = .ok (.ifCond .le 10, 3) := by decide +kernel
theorem dX12_posts_95 : decode cX12_posts 95 = .ok (.iconst 1, 1) := by decide +kernel
theorem dX12_posts_96 : decode cX12_posts 96 = .ok (.iload 6, 2) := by decide +kernel
theorem dX12_posts_98 : decode cX12_posts 98 = .ok (.ishl, 1) := by decide +kernel
theorem dX12_posts_99 : decode cX12_posts 99 = .ok (.goto 4, 3) := by decide +kernel
theorem dX12_posts_102 : decode cX12_posts 102 = .ok (.iconst 0, 1) := by decide +kernel
theorem dX12_posts_103 : decode cX12_posts 103 = .ok (.iload_n 1, 1) := by decide +kernel
theorem dX12_posts_104 : decode cX12_posts 104 = .ok (.iconst 1, 1) := by decide +kernel
theorem dX12_posts_105 : decode cX12_posts 105 = .ok (.if_icmp .le 10, 3) := by decide +kernel
theorem dX12_posts_108 : decode cX12_posts 108 = .ok (.iconst 1, 1) := by decide +kernel
theorem dX12_posts_109 : decode cX12_posts 109 = .ok (.iload 7, 2) := by decide +kernel
theorem dX12_posts_111 : decode cX12_posts 111 = .ok (.ishl, 1) := by decide +kernel
theorem dX12_posts_112 : decode cX12_posts 112 = .ok (.goto 4, 3) := by decide +kernel
theorem dX12_posts_115 : decode cX12_posts 115 = .ok (.iconst 0, 1) := by decide +kernel
theorem dX12_posts_116 : decode cX12_posts 116 = .ok (.ior, 1) := by decide +kernel
theorem dX12_posts_117 : decode cX12_posts 117 = .ok (.iload_n 1, 1) := by decide +kernel
theorem dX12_posts_118 : decode cX12_posts 118 = .ok (.iconst 2, 1) := by decide +kernel
theorem dX12_posts_119 : decode cX12_posts 119 = .ok (.if_icmp .le 10, 3) := by decide +kernel
theorem dX12_posts_122 : decode cX12_posts 122 = .ok (.iconst 1, 1) := by decide +kernel
theorem dX12_posts_123 : decode cX12_posts 123 = .ok (.iload 8, 2) := by decide +kernel
theorem dX12_posts_125 : decode cX12_posts 125 = .ok (.ishl, 1) := by decide +kernel
theorem dX12_posts_126 : decode cX12_posts 126 = .ok (.goto 4, 3) := by decide +kernel
theorem dX12_posts_129 : decode cX12_posts 129 = .ok (.iconst 0, 1) := by decide +kernel
theorem dX12_posts_130 : decode cX12_posts 130 = .ok (.ior, 1) := by decide +kernel
theorem dX12_posts_131 : decode cX12_posts 131 = .ok (.istore 9, 2) := by decide +kernel
theorem dX12_posts_133 : decode cX12_posts 133 = .ok (.iload_n 1, 1) := by decide +kernel
theorem dX12_posts_134 : decode cX12_posts 134 = .ok (.ifCond .gt 8, 3) := by decide +kernel
theorem dX12_posts_137 : decode cX12_posts 137 = .ok (.iload 6, 2) := by decide +kernel
theorem dX12_posts_139 : decode cX12_posts 139 = .ok (.ifCond .ne 47, 3) := by decide +kernel
theorem dX12_posts_142 : decode cX12_posts 142 = .ok (.iload_n 1, 1) := by decide +kernel
theorem dX12_posts_143 : decode cX12_posts 143 = .ok (.iconst 1, 1) := by decide +kernel
theorem dX12_posts_144 : decode cX12_posts 144 = .ok (.if_icmp .le 13, 3) := by decide +kernel
theorem dX12_posts_147 : decode cX12_posts 147 = .ok (.iload 6, 2) := by decide +kernel
theorem dX12_posts_149 : decode cX12_posts 149 = .ok (.iload 7, 2) := by decide +kernel
theorem dX12_posts_151 : decode cX12_posts 151 = .ok (.if_icmp .ge 35, 3) := by decide +kernel
theorem dX12_posts_154 : decode cX12_posts 154 = .ok (.goto 8, 3) := by decide +kernel
theorem dX12_posts_157 : decode cX12_posts 157 = .ok (.iload 7, 2) := by decide +kernel
theorem dX12_posts_159 : decode cX12_posts 159 = .ok (.ifCond .ne 27, 3) := by decide +kernel
theorem dX12_posts_162 : decode cX12_posts 162 = .ok (.iload_n 1, 1) := by decide +kernel
theorem dX12_posts_163 : decode cX12_posts 163 = .ok (.iconst 2, 1) := by decide +kernel
theorem dX12_posts_164 : decode cX12_posts 164 = .ok (.if_icmp .le 13, 3) := by decide +kernel
theorem dX12_posts_167 : decode cX12_posts 167 = .ok (.iload 7, 2) := by decide +kernel
theorem dX12_posts_169 : decode cX12_posts 169 = .ok (.iload 8, 2) := by decide +kernel
theorem dX12_posts_171 : decode cX12_posts 171 = .ok (.if_icmp .ge 15, 3) := by decide +kernel
theorem dX12_posts_174 : decode cX12_posts 174 = .ok (.goto 8, 3) := by decide +kernel
theorem dX12_posts_177 : decode cX12_posts 177 = .ok (.iload 8, 2) := by decide +kernel
theorem dX12_posts_179 : decode cX12_posts 179 = .ok (.ifCond .ne 7, 3) := by decide +kernel
theorem dX12_posts_182 : decode cX12_posts 182 = .ok (.iconst 1, 1) := by decide +kernel
theorem dX12_posts_183 : decode cX12_posts 183 = .ok (.goto 4, 3) := by decide +kernel
theorem dX12_posts_186 : decode cX12_posts 186 = .ok (.iconst 0, 1) := by decide +kernel
theorem dX12_posts_187 : decode cX12_posts 187 = .ok (.istore 10, 2) := by decide +kernel
theorem dX12_posts_189 : decode cX12_posts 189 = .ok (.iload 10, 2) := by decide +kernel
theorem dX12_posts_191 : decode cX12_posts 191 = .ok (.ifCond .eq 79, 3) := by decide +kernel
theorem dX12_posts_194 : decode cX12_posts 194 = .ok (.aload_n 0, 1) := by decide +kernel
theorem dX12_posts_195 : decode cX12_posts 195 = .ok (.invokevirtual 198, 3) := by decide +kernel
theorem dX12_posts_198 : decode cX12_posts 198 = .ok (.aload_n 0, 1) := by decide +kernel
theorem dX12_posts_199 : decode cX12_posts 199 = .ok (.getfield 9, 3) := by decide +kernel
theorem dX12_posts_202 : decode cX12_posts 202 = .ok (.iconst 1, 1) := by decide +kernel
theorem dX12_posts_203 : decode cX12_posts 203 = .ok (.iload 9, 2) := by decide +kernel
theorem dX12_posts_205 : decode cX12_posts 205 = .ok (.iastore, 1) := by decide +kernel
theorem dX12_posts_206 : decode cX12_posts 206 = .ok (.aload_n 0, 1) := by decide +kernel
theorem dX12_posts_207 : decode cX12_posts 207 = .ok (.invokevirtual 204, 3) := by decide +kernel
theorem dX12_posts_210 : decode cX12_posts 210 = .ok (.istore 11, 2) := by decide +kernel
theorem dX12_posts_212 : decode cX12_posts 212 = .ok (.iload_n 3, 1) := by decide +kernel
theorem dX12_posts_213 : decode cX12_posts 213 = .ok (.iconst (-1), 1) := by decide +kernel
theorem dX12_posts_214 : decode cX12_posts 214 = .ok (.if_icmp .eq 23, 3) := by decide +kernel
theorem dX12_posts_217 : decode cX12_posts 217 = .ok (.iload 11, 2) := by decide +kernel
theorem dX12_posts_219 : decode cX12_posts 219 = .ok (.iload 4, 2) := by decide +kernel
theorem dX12_posts_221 : decode cX12_posts 221 = .ok (.if_icmp .lt 16, 3) := by decide +kernel
theorem dX12_posts_224 : decode cX12_posts 224 = .ok (.iload 11, 2) := by decide +kernel
theorem dX12_posts_226 : decode cX12_posts 226 = .ok (.iload 4, 2) := by decide +kernel
theorem dX12_posts_228 : decode cX12_posts 228 = .ok (.if_icmp .ne 13, 3) := by decide +kernel
theorem dX12_posts_231 : decode cX12_posts 231 = .ok (.iload 9, 2) := by decide +kernel
theorem dX12_posts_233 : decode cX12_posts 233 = .ok (.iload_n 3, 1) := by decide +kernel
theorem dX12_posts_234 : decode cX12_posts 234 = .ok (.if_icmp .ge 7, 3) := by decide +kernel
theorem dX12_posts_237 : decode cX12_posts 237 = .ok (.iconst 1, 1) := by decide +kernel
theorem dX12_posts_238 : decode cX12_posts 238 = .ok (.goto 4, 3) := by decide +kernel
theorem dX12_posts_241 : decode cX12_posts 241 = .ok (.iconst 0, 1) := by decide +kernel
theorem dX12_posts_242 : decode cX12_posts 242 = .ok (.istore 12, 2) := by decide +kernel
theorem dX12_posts_244 : decode cX12_posts 244 = .ok (.iload 12, 2) := by decide +kernel
theorem dX12_posts_246 : decode cX12_posts 246 = .ok (.ifCond .eq 8, 3) := by decide +kernel
theorem dX12_posts_249 : decode cX12_posts 249 = .ok (.iload 9, 2) := by decide +kernel
theorem dX12_posts_251 : decode cX12_posts 251 = .ok (.goto 4, 3) := by decide +kernel
theorem dX12_posts_254 : decode cX12_posts 254 = .ok (.iload_n 3, 1) := by decide +kernel
theorem dX12_posts_255 : decode cX12_posts 255 = .ok (.istore_n 3, 1) := by decide +kernel
theorem dX12_posts_256 : decode cX12_posts 256 = .ok (.iload 12, 2) := by decide +kernel
theorem dX12_posts_258 : decode cX12_posts 258 = .ok (.ifCond .eq 8, 3) := by decide +kernel
theorem dX12_posts_261 : decode cX12_posts 261 = .ok (.iload 11, 2) := by decide +kernel
theorem dX12_posts_263 : decode cX12_posts 263 = .ok (.goto 5, 3) := by decide +kernel
theorem dX12_posts_266 : decode cX12_posts 266 = .ok (.iload 4, 2) := by decide +kernel
theorem dX12_posts_268 : decode cX12_posts 268 = .ok (.istore 4, 2) := by decide +kernel
theorem dX12_posts_270 : decode cX12_posts 270 = .ok (.iinc 5 1, 3) := by decide +kernel
theorem dX12_posts_273 : decode cX12_posts 273 = .ok (.goto (-215), 3) := by decide +kernel
theorem dX12_posts_276 : decode cX12_posts 276 = .ok (.aload_n 0, 1) := by decide +kernel
theorem dX12_posts_277 : decode cX12_posts 277 = .ok (.iconst 0, 1) := by decide +kernel
theorem dX12_posts_278 : decode cX12_posts 278 = .ok (.putfield 127, 3) := by decide +kernel
theorem dX12_posts_281 : decode cX12_posts 281 = .ok (.iload_n 2, 1) := by decide +kernel
theorem dX12_posts_282 : decode cX12_posts 282 = .ok (.ifCond .ne 7, 3) := by decide +kernel
theorem dX12_posts_285 : decode cX12_posts 285 = .ok (.iload_n 3, 1) := by decide +kernel
theorem dX12_posts_286 : decode cX12_posts 286 = .ok (.goto 5, 3) := by decide +kernel
theorem dX12_posts_289 : decode cX12_posts 289 = .ok (.iload 4, 2) := by decide +kernel
theorem dX12_posts_291 : decode cX12_posts 291 = .ok (.ireturn, 1) := by decide +kernel
def zb_X12_posts_291 (E : zj_E) (st : List Value) (m : zj_M) : zj_R := (zi_ret (some .int)) E st m
set_option maxRecDepth 20000 in
theorem zs_X12_posts_291 : zj_KC cX12_posts RX12 13 (6) (some .int) (0, fun _ => 0) 291 (zb_X12_posts_291) := (zr_ret dX12_posts_291)
def zb_X12_posts_270 (r58 : zj_K) (E : zj_E) (st : List Value) (m : zj_M) : zj_R := (zi_inc 5 1 r58) E st m
set_option maxRecDepth 20000 in
theorem zs_X12_posts_270 {r58 : zj_K} (h58 : zj_KC cX12_posts RX12 13 (6) (some .int) (0, fun _ => 0) 58 r58) : zj_KC cX12_posts RX12 13 (6) (some .int) (0, fun _ => 0) 270 (zb_X12_posts_270 r58) := (zr_inc dX12_posts_270 rfl (zr_goto dX12_posts_273 (tgt := 58) (by decide) h58))
def zb_X12_posts_268 (r58 : zj_K) (E : zj_E) (st : List Value) (m : zj_M) : zj_R := (zi_ist 4 (zb_X12_posts_270 r58)) E st m
set_option maxRecDepth 20000 in
theorem zs_X12_posts_268 {r58 : zj_K} (h58 : zj_KC cX12_posts RX12 13 (6) (some .int) (0, fun _ => 0) 58 r58) : zj_KC cX12_posts RX12 13 (6) (some .int) (0, fun _ => 0) 268 (zb_X12_posts_268 r58) := (zr_ist dX12_posts_268 (zs_X12_posts_270 h58))
def zb_X12_posts_255 (r58 : zj_K) (E : zj_E) (st : List Value) (m : zj_M) : zj_R := (zi_ist 3 (zi_ild 12 (zi_eq (zi_ild 4 (zb_X12_posts_268 r58)) (zi_ild 11 (zb_X12_posts_268 r58))))) E st m
set_option maxRecDepth 20000 in
theorem zs_X12_posts_255 {r58 : zj_K} (h58 : zj_KC cX12_posts RX12 13 (6) (some .int) (0, fun _ => 0) 58 r58) : zj_KC cX12_posts RX12 13 (6) (some .int) (0, fun _ => 0) 255 (zb_X12_posts_255 r58) := (zr_istn dX12_posts_255 rfl (zr_ild dX12_posts_256 (zr_ifeq dX12_posts_258 (tgt := 266) (by decide) (zr_ild dX12_posts_266 (zs_X12_posts_268 h58)) (zr_ild dX12_posts_261 (zr_goto dX12_posts_263 (tgt := 268) (by decide) (zs_X12_posts_268 h58))))))
def zb_X12_posts_242 (r58 : zj_K) (E : zj_E) (st : List Value) (m : zj_M) : zj_R := (zi_ist 12 (zi_ild 12 (zi_eq (zi_ild 3 (zb_X12_posts_255 r58)) (zi_ild 9 (zb_X12_posts_255 r58))))) E st m
set_option maxRecDepth 20000 in
theorem zs_X12_posts_242 {r58 : zj_K} (h58 : zj_KC cX12_posts RX12 13 (6) (some .int) (0, fun _ => 0) 58 r58) : zj_KC cX12_posts RX12 13 (6) (some .int) (0, fun _ => 0) 242 (zb_X12_posts_242 r58) := (zr_ist dX12_posts_242 (zr_ild dX12_posts_244 (zr_ifeq dX12_posts_246 (tgt := 254) (by decide) (zr_ildn dX12_posts_254 rfl (zs_X12_posts_255 h58)) (zr_ild dX12_posts_249 (zr_goto dX12_posts_251 (tgt := 255) (by decide) (zs_X12_posts_255 h58))))))
def zb_X12_posts_237 (r58 : zj_K) (E : zj_E) (st : List Value) (m : zj_M) : zj_R := (zi_push (.int 1) (zb_X12_posts_242 r58)) E st m
set_option maxRecDepth 20000 in
theorem zs_X12_posts_237 {r58 : zj_K} (h58 : zj_KC cX12_posts RX12 13 (6) (some .int) (0, fun _ => 0) 58 r58) : zj_KC cX12_posts RX12 13 (6) (some .int) (0, fun _ => 0) 237 (zb_X12_posts_237 r58) := (zr_iconst dX12_posts_237 rfl (zr_goto dX12_posts_238 (tgt := 242) (by decide) (zs_X12_posts_242 h58)))
def zb_X12_posts_241 (r58 : zj_K) (E : zj_E) (st : List Value) (m : zj_M) : zj_R := (zi_push (.int 0) (zb_X12_posts_242 r58)) E st m
set_option maxRecDepth 20000 in
theorem zs_X12_posts_241 {r58 : zj_K} (h58 : zj_KC cX12_posts RX12 13 (6) (some .int) (0, fun _ => 0) 58 r58) : zj_KC cX12_posts RX12 13 (6) (some .int) (0, fun _ => 0) 241 (zb_X12_posts_241 r58) := (zr_iconst dX12_posts_241 rfl (zs_X12_posts_242 h58))
def zb_X12_posts_187 (r58 : zj_K) (E : zj_E) (st : List Value) (m : zj_M) : zj_R := (zi_ist 10 (zi_ild 10 (zi_eq (zb_X12_posts_270 r58) (zi_ald 0 (zi_vc 12 0 zf_X12_keeps (zi_ald 0 (zi_gf 12 1 (zi_push (.int 1) (zi_ild 9 (zi_iast (zi_ald 0 (zi_vc 12 0 zf_X12_troubleOn (zi_ist 11 (zi_ild 3 (zi_push (.int (-1)) (zi_ceq (zb_X12_posts_237 r58) (zi_ild 11 (zi_ild 4 (zi_clt (zb_X12_posts_237 r58) (zi_ild 11 (zi_ild 4 (zi_ceq (zi_ild 9 (zi_ild 3 (zi_clt (zb_X12_posts_237 r58) (zb_X12_posts_241 r58)))) (zb_X12_posts_241 r58))))))))))) zi_no))))))) zi_no))))) E st m
set_option maxRecDepth 20000 in
theorem zs_X12_posts_187 {r58 : zj_K} (h58 : zj_KC cX12_posts RX12 13 (6) (some .int) (0, fun _ => 0) 58 r58) : zj_KC cX12_posts RX12 13 (6) (some .int) (0, fun _ => 0) 187 (zb_X12_posts_187 r58) := (zr_ist dX12_posts_187 (zr_ild dX12_posts_189 (zr_ifeq dX12_posts_191 (tgt := 270) (by decide) (zs_X12_posts_270 h58) (zr_aldn dX12_posts_194 rfl (zr_callV dX12_posts_195 zm_X12_keeps ⟨⟨zq_1213, zq_77⟩, by decide +kernel, by omega, by decide⟩ rfl rfl zq_1210 zq_1212 zq_46 (zr_aldn dX12_posts_198 rfl (zr_gf dX12_posts_199 zfl_X12_9_12 (zr_iconst dX12_posts_202 rfl (zr_ild dX12_posts_203 (zr_iast dX12_posts_205 (zr_aldn dX12_posts_206 rfl (zr_callV dX12_posts_207 zm_X12_troubleOn ⟨⟨zq_1217, zq_77⟩, by decide +kernel, by omega, by decide⟩ rfl rfl zq_1214 zq_1216 zq_47 (zr_ist dX12_posts_210 (zr_ildn dX12_posts_212 rfl (zr_iconst dX12_posts_213 rfl (zr_iceq dX12_posts_214 (tgt := 237) (by decide) (zs_X12_posts_237 h58) (zr_ild dX12_posts_217 (zr_ild dX12_posts_219 (zr_iclt dX12_posts_221 (tgt := 237) (by decide) (zs_X12_posts_237 h58) (zr_ild dX12_posts_224 (zr_ild dX12_posts_226 (zr_icne dX12_posts_228 (tgt := 241) (by decide) (zs_X12_posts_241 h58) (zr_ild dX12_posts_231 (zr_ildn dX12_posts_233 rfl (zr_icge dX12_posts_234 (tgt := 241) (by decide) (zs_X12_posts_241 h58) (zs_X12_posts_237 h58)))))))))))))) zr_no))))))) zr_no)))))
def zb_X12_posts_186 (r58 : zj_K) (E : zj_E) (st : List Value) (m : zj_M) : zj_R := (zi_push (.int 0) (zb_X12_posts_187 r58)) E st m
set_option maxRecDepth 20000 in
theorem zs_X12_posts_186 {r58 : zj_K} (h58 : zj_KC cX12_posts RX12 13 (6) (some .int) (0, fun _ => 0) 58 r58) : zj_KC cX12_posts RX12 13 (6) (some .int) (0, fun _ => 0) 186 (zb_X12_posts_186 r58) := (zr_iconst dX12_posts_186 rfl (zs_X12_posts_187 h58))
def zb_X12_posts_182 (r58 : zj_K) (E : zj_E) (st : List Value) (m : zj_M) : zj_R := (zi_push (.int 1) (zb_X12_posts_187 r58)) E st m
set_option maxRecDepth 20000 in
theorem zs_X12_posts_182 {r58 : zj_K} (h58 : zj_KC cX12_posts RX12 13 (6) (some .int) (0, fun _ => 0) 58 r58) : zj_KC cX12_posts RX12 13 (6) (some .int) (0, fun _ => 0) 182 (zb_X12_posts_182 r58) := (zr_iconst dX12_posts_182 rfl (zr_goto dX12_posts_183 (tgt := 187) (by decide) (zs_X12_posts_187 h58)))
def zb_X12_posts_162 (r58 : zj_K) (E : zj_E) (st : List Value) (m : zj_M) : zj_R := (zi_ild 1 (zi_push (.int 2) (zi_cle (zi_ild 8 (zi_eq (zb_X12_posts_182 r58) (zb_X12_posts_186 r58))) (zi_ild 7 (zi_ild 8 (zi_clt (zb_X12_posts_182 r58) (zb_X12_posts_186 r58))))))) E st m
set_option maxRecDepth 20000 in
theorem zs_X12_posts_162 {r58 : zj_K} (h58 : zj_KC cX12_posts RX12 13 (6) (some .int) (0, fun _ => 0) 58 r58) : zj_KC cX12_posts RX12 13 (6) (some .int) (0, fun _ => 0) 162 (zb_X12_posts_162 r58) := (zr_ildn dX12_posts_162 rfl (zr_iconst dX12_posts_163 rfl (zr_icle dX12_posts_164 (tgt := 177) (by decide) (zr_ild dX12_posts_177 (zr_ifne dX12_posts_179 (tgt := 186) (by decide) (zs_X12_posts_186 h58) (zs_X12_posts_182 h58))) (zr_ild dX12_posts_167 (zr_ild dX12_posts_169 (zr_icge dX12_posts_171 (tgt := 186) (by decide) (zs_X12_posts_186 h58) (zr_goto dX12_posts_174 (tgt := 182) (by decide) (zs_X12_posts_182 h58))))))))
def zb_X12_posts_142 (r58 : zj_K) (E : zj_E) (st : List Value) (m : zj_M) : zj_R := (zi_ild 1 (zi_push (.int 1) (zi_cle (zi_ild 7 (zi_eq (zb_X12_posts_162 r58) (zb_X12_posts_186 r58))) (zi_ild 6 (zi_ild 7 (zi_clt (zb_X12_posts_162 r58) (zb_X12_posts_186 r58))))))) E st m
set_option maxRecDepth 20000 in
theorem zs_X12_posts_142 {r58 : zj_K} (h58 : zj_KC cX12_posts RX12 13 (6) (some .int) (0, fun _ => 0) 58 r58) : zj_KC cX12_posts RX12 13 (6) (some .int) (0, fun _ => 0) 142 (zb_X12_posts_142 r58) := (zr_ildn dX12_posts_142 rfl (zr_iconst dX12_posts_143 rfl (zr_icle dX12_posts_144 (tgt := 157) (by decide) (zr_ild dX12_posts_157 (zr_ifne dX12_posts_159 (tgt := 186) (by decide) (zs_X12_posts_186 h58) (zs_X12_posts_162 h58))) (zr_ild dX12_posts_147 (zr_ild dX12_posts_149 (zr_icge dX12_posts_151 (tgt := 186) (by decide) (zs_X12_posts_186 h58) (zr_goto dX12_posts_154 (tgt := 162) (by decide) (zs_X12_posts_162 h58))))))))
def zb_X12_posts_130 (r58 : zj_K) (E : zj_E) (st : List Value) (m : zj_M) : zj_R := (zi_b (fun x y => x ||| y) (zi_ist 9 (zi_ild 1 (zi_le (zi_ild 6 (zi_eq (zb_X12_posts_142 r58) (zb_X12_posts_186 r58))) (zb_X12_posts_142 r58))))) E st m
set_option maxRecDepth 20000 in
theorem zs_X12_posts_130 {r58 : zj_K} (h58 : zj_KC cX12_posts RX12 13 (6) (some .int) (0, fun _ => 0) 58 r58) : zj_KC cX12_posts RX12 13 (6) (some .int) (0, fun _ => 0) 130 (zb_X12_posts_130 r58) := (zr_ior dX12_posts_130 (zr_ist dX12_posts_131 (zr_ildn dX12_posts_133 rfl (zr_ifgt dX12_posts_134 (tgt := 142) (by decide) (zs_X12_posts_142 h58) (zr_ild dX12_posts_137 (zr_ifne dX12_posts_139 (tgt := 186) (by decide) (zs_X12_posts_186 h58) (zs_X12_posts_142 h58)))))))
def zb_X12_posts_116 (r58 : zj_K) (E : zj_E) (st : List Value) (m : zj_M) : zj_R := (zi_b (fun x y => x ||| y) (zi_ild 1 (zi_push (.int 2) (zi_cle (zi_push (.int 0) (zb_X12_posts_130 r58)) (zi_push (.int 1) (zi_ild 8 (zi_b (fun x y => x <<< (y &&& 31)) (zb_X12_posts_130 r58)))))))) E st m
set_option maxRecDepth 20000 in
theorem zs_X12_posts_116 {r58 : zj_K} (h58 : zj_KC cX12_posts RX12 13 (6) (some .int) (0, fun _ => 0) 58 r58) : zj_KC cX12_posts RX12 13 (6) (some .int) (0, fun _ => 0) 116 (zb_X12_posts_116 r58) := (zr_ior dX12_posts_116 (zr_ildn dX12_posts_117 rfl (zr_iconst dX12_posts_118 rfl (zr_icle dX12_posts_119 (tgt := 129) (by decide) (zr_iconst dX12_posts_129 rfl (zs_X12_posts_130 h58)) (zr_iconst dX12_posts_122 rfl (zr_ild dX12_posts_123 (zr_ishl dX12_posts_125 (zr_goto dX12_posts_126 (tgt := 130) (by decide) (zs_X12_posts_130 h58)))))))))
def zb_X12_posts_103 (r58 : zj_K) (E : zj_E) (st : List Value) (m : zj_M) : zj_R := (zi_ild 1 (zi_push (.int 1) (zi_cle (zi_push (.int 0) (zb_X12_posts_116 r58)) (zi_push (.int 1) (zi_ild 7 (zi_b (fun x y => x <<< (y &&& 31)) (zb_X12_posts_116 r58))))))) E st m
set_option maxRecDepth 20000 in
theorem zs_X12_posts_103 {r58 : zj_K} (h58 : zj_KC cX12_posts RX12 13 (6) (some .int) (0, fun _ => 0) 58 r58) : zj_KC cX12_posts RX12 13 (6) (some .int) (0, fun _ => 0) 103 (zb_X12_posts_103 r58) := (zr_ildn dX12_posts_103 rfl (zr_iconst dX12_posts_104 rfl (zr_icle dX12_posts_105 (tgt := 115) (by decide) (zr_iconst dX12_posts_115 rfl (zs_X12_posts_116 h58)) (zr_iconst dX12_posts_108 rfl (zr_ild dX12_posts_109 (zr_ishl dX12_posts_111 (zr_goto dX12_posts_112 (tgt := 116) (by decide) (zs_X12_posts_116 h58))))))))
def zb_X12_posts_58 (r58 : zj_K) (E : zj_E) (st : List Value) (m : zj_M) : zj_R := (zi_ild 5 (zi_push (.int 4096) (zi_clt (zi_ild 5 (zi_push (.int 256) (zi_bd (fun x y => x / y) (zi_ist 6 (zi_ild 5 (zi_push (.int 16) (zi_bd (fun x y => x / y) (zi_push (.int 16) (zi_bd (fun x y => x - x / y * y) (zi_ist 7 (zi_ild 5 (zi_push (.int 16) (zi_bd (fun x y => x - x / y * y) (zi_ist 8 (zi_ild 1 (zi_le (zi_push (.int 0) (zb_X12_posts_103 r58)) (zi_push (.int 1) (zi_ild 6 (zi_b (fun x y => x <<< (y &&& 31)) (zb_X12_posts_103 r58)))))))))))))))))))) (zi_ald 0 (zi_push (.int 0) (zi_pz 12 14 (zi_ild 2 (zi_eq (zi_ild 3 zb_X12_posts_291) (zi_ild 4 zb_X12_posts_291))))))))) E st m
set_option maxRecDepth 20000 in
theorem zs_X12_posts_58 {r58 : zj_K} (h58 : zj_KC cX12_posts RX12 13 (6) (some .int) (0, fun _ => 0) 58 r58) : zj_KC cX12_posts RX12 13 (6) (some .int) (0, fun _ => 0) 58 (zb_X12_posts_58 r58) := (zr_ild dX12_posts_58 (zr_sipush dX12_posts_60 rfl (zr_icge dX12_posts_63 (tgt := 276) (by decide) (zr_aldn dX12_posts_276 rfl (zr_iconst dX12_posts_277 rfl (zr_pz dX12_posts_278 zfl_X12_127_12w (zr_ildn dX12_posts_281 rfl (zr_ifne dX12_posts_282 (tgt := 289) (by decide) (zr_ild dX12_posts_289 (zs_X12_posts_291)) (zr_ildn dX12_posts_285 rfl (zr_goto dX12_posts_286 (tgt := 291) (by decide) (zs_X12_posts_291)))))))) (zr_ild dX12_posts_66 (zr_sipush dX12_posts_68 rfl (zr_idiv dX12_posts_71 (zr_ist dX12_posts_72 (zr_ild dX12_posts_74 (zr_bipush dX12_posts_76 rfl (zr_idiv dX12_posts_78 (zr_bipush dX12_posts_79 rfl (zr_irem dX12_posts_81 (zr_ist dX12_posts_82 (zr_ild dX12_posts_84 (zr_bipush dX12_posts_86 rfl (zr_irem dX12_posts_88 (zr_ist dX12_posts_89 (zr_ildn dX12_posts_91 rfl (zr_ifle dX12_posts_92 (tgt := 102) (by decide) (zr_iconst dX12_posts_102 rfl (zs_X12_posts_103 h58)) (zr_iconst dX12_posts_95 rfl (zr_ild dX12_posts_96 (zr_ishl dX12_posts_98 (zr_goto dX12_posts_99 (tgt := 103) (by decide) (zs_X12_posts_103 h58))))))))))))))))))))))))
def zb_X12_posts_25 (r25 : zj_K) (E : zj_E) (st : List Value) (m : zj_M) : zj_R := (zi_ild 3 (zi_push (.int 3840) (zi_clt (zi_ald 0 (zi_gf 12 13 (zi_ild 3 (zi_push (.int 0) (zi_zast (zi_inc 3 1 r25)))))) (zi_ald 0 (zi_push (.int 1) (zi_pz 12 14 (zi_push (.int (-1)) (zi_ist 3 (zi_push (.int 0) (zi_ist 4 (zi_push (.int 0) (zi_ist 5 (zj_lp (zb_X12_posts_58) zj_fu))))))))))))) E st m
set_option maxRecDepth 20000 in
theorem zs_X12_posts_25 {r25 : zj_K} (h25 : zj_KC cX12_posts RX12 13 (6) (some .int) (0, fun _ => 0) 25 r25) : zj_KC cX12_posts RX12 13 (6) (some .int) (0, fun _ => 0) 25 (zb_X12_posts_25 r25) := (zr_ildn dX12_posts_25 rfl (zr_sipush dX12_posts_26 rfl (zr_icge dX12_posts_29 (tgt := 45) (by decide) (zr_aldn dX12_posts_45 rfl (zr_iconst dX12_posts_46 rfl (zr_pz dX12_posts_47 zfl_X12_127_12w (zr_iconst dX12_posts_50 rfl (zr_istn dX12_posts_51 rfl (zr_iconst dX12_posts_52 rfl (zr_ist dX12_posts_53 (zr_iconst dX12_posts_55 rfl (zr_ist dX12_posts_56 (zr_lp (fun _ h => zs_X12_posts_58 h) zj_fu)))))))))) (zr_aldn dX12_posts_32 rfl (zr_gf dX12_posts_33 zfl_X12_31_12 (zr_ildn dX12_posts_36 rfl (zr_iconst dX12_posts_37 rfl (zr_zast dX12_posts_38 (zr_inc dX12_posts_39 rfl (zr_goto dX12_posts_42 (tgt := 25) (by decide) h25))))))))))
def zb_X12_posts_0 (E : zj_E) (st : List Value) (m : zj_M) : zj_R := (zi_ild 2 (zi_push (.int 0) (zi_push (.int 1) (zi_call 3 zf_X12_in (zi_eq (zi_push (.int (-1)) (zi_ret (some .int))) (zi_ild 1 (zi_push (.int 0) (zi_push (.int 3) (zi_call 3 zf_X12_in (zi_eq (zi_push (.int (-2)) (zi_ret (some .int))) (zi_push (.int 0) (zi_ist 3 (zj_lp (zb_X12_posts_25) zj_fu))))))))))))) E st m
set_option maxRecDepth 20000 in
theorem zs_X12_posts_0 : zj_KC cX12_posts RX12 13 (6) (some .int) (0, fun _ => 0) 0 (zb_X12_posts_0) := (zr_ildn dX12_posts_0 rfl (zr_iconst dX12_posts_1 rfl (zr_iconst dX12_posts_2 rfl (zr_callS dX12_posts_3 zm_X12_in ⟨⟨zq_1054, zq_77⟩, by decide +kernel, by omega, by decide⟩ zq_1052 zq_1053 (zr_ifne dX12_posts_6 (tgt := 11) (by decide) (zr_ildn dX12_posts_11 rfl (zr_iconst dX12_posts_12 rfl (zr_iconst dX12_posts_13 rfl (zr_callS dX12_posts_14 zm_X12_in ⟨⟨zq_1054, zq_77⟩, by decide +kernel, by omega, by decide⟩ zq_1052 zq_1053 (zr_ifne dX12_posts_17 (tgt := 23) (by decide) (zr_iconst dX12_posts_23 rfl (zr_istn dX12_posts_24 rfl (zr_lp (fun _ h => zs_X12_posts_25 h) zj_fu))) (zr_bipush dX12_posts_20 rfl (zr_ret dX12_posts_22))))))) (zr_iconst dX12_posts_9 rfl (zr_ret dX12_posts_10)))))))
def zf_X12_posts : zj_F := zj_run 13 zb_X12_posts_0
theorem zm_X12_posts : zj_MS 6 yX12_posts cX12_posts 13 (some .int) zf_X12_posts := zj_met (own := RX12) rfl (by decide +kernel) (Or.inr (Or.inl rfl)) (zs_X12_posts_0)
theorem dX12_gravel_0 : decode cX12_gravel 0 = .ok (.aload_n 0, 1) := by decide +kernel
theorem dX12_gravel_1 : decode cX12_gravel 1 = .ok (.invokevirtual 182, 3) := by decide +kernel
theorem dX12_gravel_4 : decode cX12_gravel 4 = .ok (.istore_n 1, 1) := by decide +kernel
theorem dX12_gravel_5 : decode cX12_gravel 5 = .ok (.bipush (-5), 2) := by decide +kernel
theorem dX12_gravel_7 : decode cX12_gravel 7 = .ok (.istore_n 2, 1) := by decide +kernel
theorem dX12_gravel_8 : decode cX12_gravel 8 = .ok (.iconst 0, 1) := by decide +kernel
theorem dX12_gravel_9 : decode cX12_gravel 9 = .ok (.istore_n 3, 1) := by decide +kernel
theorem dX12_gravel_10 : decode cX12_gravel 10 = .ok (.iload_n 3, 1) := by decide +kernel
theorem dX12_gravel_11 : decode cX12_gravel 11 = .ok (.bipush 64, 2) := by decide +kernel
theorem dX12_gravel_13 : decode cX12_gravel 13 = .ok (.if_icmp .ge 93, 3) := by decide +kernel
theorem dX12_gravel_16 : decode cX12_gravel 16 = .ok (.aload_n 0, 1) := by decide +kernel
theorem dX12_gravel_17 : decode cX12_gravel 17 = .ok (.getfield 9, 3) := by decide +kernel
theorem dX12_gravel_20 : decode cX12_gravel 20 = .ok (.bipush 33, 2) := by decide +kernel
theorem dX12_gravel_22 : decode cX12_gravel 22 = .ok (.iload_n 3, 1) := by decide +kernel
theorem dX12_gravel_23 : decode cX12_gravel 23 = .ok (.bipush 16, 2) := by decide +kernel
theorem dX12_gravel_25 : decode cX12_gravel 25 = .ok (.idiv, 1) := by decide +kernel
theorem dX12_gravel_26 : decode cX12_gravel 26 = .ok (.iadd, 1) := by decide +kernel
theorem dX12_gravel_27 : decode cX12_gravel 27 = .ok (.dup2, 1) := by decide +kernel
theorem dX12_gravel_28 : decode cX12_gravel 28 = .ok (.iaload, 1) := by decide +kernel
theorem dX12_gravel_29 : decode cX12_gravel 29 = .ok (.iconst 1, 1) := by decide +kernel
theorem dX12_gravel_30 : decode cX12_gravel 30 = .ok (.iload_n 3, 1) := by decide +kernel
theorem dX12_gravel_31 : decode cX12_gravel 31 = .ok (.bipush 16, 2) := by decide +kernel
theorem dX12_gravel_33 : decode cX12_gravel 33 = .ok (.irem, 1) := by decide +kernel
theorem dX12_gravel_34 : decode cX12_gravel 34 = .ok (.ishl, 1) := by decide +kernel
theorem dX12_gravel_35 : decode cX12_gravel 35 = .ok (.ixor, 1) := by decide +kernel
theorem dX12_gravel_36 : decode cX12_gravel 36 = .ok (.iastore, 1) := by decide +kernel
theorem dX12_gravel_37 : decode cX12_gravel 37 = .ok (.aload_n 0, 1) := by decide +kernel
theorem dX12_gravel_38 : decode cX12_gravel 38 = .ok (.invokevirtual 182, 3) := by decide +kernel
theorem dX12_gravel_41 : decode cX12_gravel 41 = .ok (.istore 4, 2) := by decide +kernel
theorem dX12_gravel_43 : decode cX12_gravel 43 = .ok (.aload_n 0, 1) := by decide +kernel
theorem dX12_gravel_44 : decode cX12_gravel 44 = .ok (.getfield 9, 3) := by decide +kernel
theorem dX12_gravel_47 : decode cX12_gravel 47 = .ok (.bipush 33, 2) := by decide +kernel
theorem dX12_gravel_49 : decode cX12_gravel 49 = .ok (.iload_n 3, 1) := by decide +kernel
theorem dX12_gravel_50 : decode cX12_gravel 50 = .ok (.bipush 16, 2) := by decide +kernel
theorem dX12_gravel_52 : decode cX12_gravel 52 = .ok (.idiv, 1) := by decide +kernel
theorem dX12_gravel_53 : decode cX12_gravel 53 = .ok (.iadd, 1) := by decide +kernel
theorem dX12_gravel_54 : decode cX12_gravel 54 = .ok (.dup2, 1) := by decide +kernel
theorem dX12_gravel_55 : decode cX12_gravel 55 = .ok (.iaload, 1) := by decide +kernel
theorem dX12_gravel_56 : decode cX12_gravel 56 = .ok (.iconst 1, 1) := by decide +kernel
theorem dX12_gravel_57 : decode cX12_gravel 57 = .ok (.iload_n 3, 1) := by decide +kernel
theorem dX12_gravel_58 : decode cX12_gravel 58 = .ok (.bipush 16, 2) := by decide +kernel
theorem dX12_gravel_60 : decode cX12_gravel 60 = .ok (.irem, 1) := by decide +kernel
theorem dX12_gravel_61 : decode cX12_gravel 61 = .ok (.ishl, 1) := by decide +kernel
theorem dX12_gravel_62 : decode cX12_gravel 62 = .ok (.ixor, 1) := by decide +kernel
theorem dX12_gravel_63 : decode cX12_gravel 63 = .ok (.iastore, 1) := by decide +kernel
theorem dX12_gravel_64 : decode cX12_gravel 64 = .ok (.iload 4, 2) := by decide +kernel
theorem dX12_gravel_66 : decode cX12_gravel 66 = .ok (.iload_n 1, 1) := by decide +kernel
theorem dX12_gravel_67 : decode cX12_gravel 67 = .ok (.if_icmp .ge 18, 3) := by decide +kernel
theorem dX12_gravel_70 : decode cX12_gravel 70 = .ok (.bipush 100, 2) := by decide +kernel
theorem dX12_gravel_72 : decode cX12_gravel 72 = .ok (.iload_n 3, 1) := by decide +kernel
theorem dX12_gravel_73 : decode cX12_gravel 73 = .ok (.bipush 16, 2) := by decide +kernel
theorem dX12_gravel_75 : decode cX12_gravel 75 = .ok (.idiv, 1) := by decide +kernel
theorem dX12_gravel_76 : decode cX12_gravel 76 = .ok (.imul, 1) := by decide +kernel
theorem dX12_gravel_77 : decode cX12_gravel 77 = .ok (.iload_n 3, 1) := by decide +kernel
theorem dX12_gravel_78 : decode cX12_gravel 78 = .ok (.bipush 16, 2) := by decide +kernel
theorem dX12_gravel_80 : decode cX12_gravel 80 = .ok (.irem, 1) := by decide +kernel
theorem dX12_gravel_81 : decode cX12_gravel 81 = .ok (.iadd, 1) := by decide +kernel
theorem dX12_gravel_82 : decode cX12_gravel 82 = .ok (.goto 4, 3) := by decide +kernel
theorem dX12_gravel_85 : decode cX12_gravel 85 = .ok (.iload_n 2, 1) := by decide +kernel
theorem dX12_gravel_86 : decode cX12_gravel 86 = .ok (.istore_n 2, 1) := by decide +kernel
theorem dX12_gravel_87 : decode cX12_gravel 87 = .ok (.iload 4, 2) := by decide +kernel
theorem dX12_gravel_89 : decode cX12_gravel 89 = .ok (.iload_n 1, 1) := by decide +kernel
theorem dX12_gravel_90 : decode cX12_gravel 90 = .ok (.if_icmp .ge 8, 3) := by decide +kernel
theorem dX12_gravel_93 : decode cX12_gravel 93 = .ok (.iload 4, 2) := by decide +kernel
theorem dX12_gravel_95 : decode cX12_gravel 95 = .ok (.goto 4, 3) := by decide +kernel
theorem dX12_gravel_98 : decode cX12_gravel 98 = .ok (.iload_n 1, 1) := by decide +kernel
theorem dX12_gravel_99 : decode cX12_gravel 99 = .ok (.istore_n 1, 1) := by decide +kernel
theorem dX12_gravel_100 : decode cX12_gravel 100 = .ok (.iinc 3 1, 3) := by decide +kernel
theorem dX12_gravel_103 : decode cX12_gravel 103 = .ok (.goto (-93), 3) := by decide +kernel
theorem dX12_gravel_106 : decode cX12_gravel 106 = .ok (.iload_n 2, 1) := by decide +kernel
theorem dX12_gravel_107 : decode cX12_gravel 107 = .ok (.ireturn, 1) := by decide +kernel
def zb_X12_gravel_99 (r10 : zj_K) (E : zj_E) (st : List Value) (m : zj_M) : zj_R := (zi_ist 1 (zi_inc 3 1 r10)) E st m
set_option maxRecDepth 20000 in
theorem zs_X12_gravel_99 {r10 : zj_K} (h10 : zj_KC cX12_gravel RX12 5 (7) (some .int) (0, fun _ => 0) 10 r10) : zj_KC cX12_gravel RX12 5 (7) (some .int) (0, fun _ => 0) 99 (zb_X12_gravel_99 r10) := (zr_istn dX12_gravel_99 rfl (zr_inc dX12_gravel_100 rfl (zr_goto dX12_gravel_103 (tgt := 10) (by decide) h10)))
def zb_X12_gravel_86 (r10 : zj_K) (E : zj_E) (st : List Value) (m : zj_M) : zj_R := (zi_ist 2 (zi_ild 4 (zi_ild 1 (zi_clt (zi_ild 4 (zb_X12_gravel_99 r10)) (zi_ild 1 (zb_X12_gravel_99 r10)))))) E st m
set_option maxRecDepth 20000 in
theorem zs_X12_gravel_86 {r10 : zj_K} (h10 : zj_KC cX12_gravel RX12 5 (7) (some .int) (0, fun _ => 0) 10 r10) : zj_KC cX12_gravel RX12 5 (7) (some .int) (0, fun _ => 0) 86 (zb_X12_gravel_86 r10) := (zr_istn dX12_gravel_86 rfl (zr_ild dX12_gravel_87 (zr_ildn dX12_gravel_89 rfl (zr_icge dX12_gravel_90 (tgt := 98) (by decide) (zr_ildn dX12_gravel_98 rfl (zs_X12_gravel_99 h10)) (zr_ild dX12_gravel_93 (zr_goto dX12_gravel_95 (tgt := 99) (by decide) (zs_X12_gravel_99 h10)))))))
def zb_X12_gravel_10 (r10 : zj_K) (E : zj_E) (st : List Value) (m : zj_M) : zj_R := (zi_ild 3 (zi_push (.int 64) (zi_clt (zi_ald 0 (zi_gf 12 1 (zi_push (.int 33) (zi_ild 3 (zi_push (.int 16) (zi_bd (fun x y => x / y) (zi_b (fun x y => x + y) (zi_dup2 (zi_iald (zi_push (.int 1) (zi_ild 3 (zi_push (.int 16) (zi_bd (fun x y => x - x / y * y) (zi_b (fun x y => x <<< (y &&& 31)) (zi_b (fun x y => x ^^^ y) (zi_iast (zi_ald 0 (zi_vc 12 0 zf_X12_trouble (zi_ist 4 (zi_ald 0 (zi_gf 12 1 (zi_push (.int 33) (zi_ild 3 (zi_push (.int 16) (zi_bd (fun x y => x / y) (zi_b (fun x y => x + y) (zi_dup2 (zi_iald (zi_push (.int 1) (zi_ild 3 (zi_push (.int 16) (zi_bd (fun x y => x - x / y * y) (zi_b (fun x y => x <<< (y &&& 31)) (zi_b (fun x y => x ^^^ y) (zi_iast (zi_ild 4 (zi_ild 1 (zi_clt (zi_push (.int 100) (zi_ild 3 (zi_push (.int 16) (zi_bd (fun x y => x / y) (zi_b (fun x y => x * y) (zi_ild 3 (zi_push (.int 16) (zi_bd (fun x y => x - x / y * y) (zi_b (fun x y => x + y) (zb_X12_gravel_86 r10)))))))))) (zi_ild 2 (zb_X12_gravel_86 r10)))))))))))))))))))))) zi_no)))))))))))))))))) (zi_ild 2 (zi_ret (some .int)))))) E st m
set_option maxRecDepth 20000 in
theorem zs_X12_gravel_10 {r10 : zj_K} (h10 : zj_KC cX12_gravel RX12 5 (7) (some .int) (0, fun _ => 0) 10 r10) : zj_KC cX12_gravel RX12 5 (7) (some .int) (0, fun _ => 0) 10 (zb_X12_gravel_10 r10) := (zr_ildn dX12_gravel_10 rfl (zr_bipush dX12_gravel_11 rfl (zr_icge dX12_gravel_13 (tgt := 106) (by decide) (zr_ildn dX12_gravel_106 rfl (zr_ret dX12_gravel_107)) (zr_aldn dX12_gravel_16 rfl (zr_gf dX12_gravel_17 zfl_X12_9_12 (zr_bipush dX12_gravel_20 rfl (zr_ildn dX12_gravel_22 rfl (zr_bipush dX12_gravel_23 rfl (zr_idiv dX12_gravel_25 (zr_iadd dX12_gravel_26 (zr_dup2 dX12_gravel_27 (zr_iald dX12_gravel_28 (zr_iconst dX12_gravel_29 rfl (zr_ildn dX12_gravel_30 rfl (zr_bipush dX12_gravel_31 rfl (zr_irem dX12_gravel_33 (zr_ishl dX12_gravel_34 (zr_ixor dX12_gravel_35 (zr_iast dX12_gravel_36 (zr_aldn dX12_gravel_37 rfl (zr_callV dX12_gravel_38 zm_X12_trouble ⟨⟨zq_1209, zq_77⟩, by decide +kernel, by omega, by decide⟩ rfl rfl zq_1206 zq_1208 zq_45 (zr_ist dX12_gravel_41 (zr_aldn dX12_gravel_43 rfl (zr_gf dX12_gravel_44 zfl_X12_9_12 (zr_bipush dX12_gravel_47 rfl (zr_ildn dX12_gravel_49 rfl (zr_bipush dX12_gravel_50 rfl (zr_idiv dX12_gravel_52 (zr_iadd dX12_gravel_53 (zr_dup2 dX12_gravel_54 (zr_iald dX12_gravel_55 (zr_iconst dX12_gravel_56 rfl (zr_ildn dX12_gravel_57 rfl (zr_bipush dX12_gravel_58 rfl (zr_irem dX12_gravel_60 (zr_ishl dX12_gravel_61 (zr_ixor dX12_gravel_62 (zr_iast dX12_gravel_63 (zr_ild dX12_gravel_64 (zr_ildn dX12_gravel_66 rfl (zr_icge dX12_gravel_67 (tgt := 85) (by decide) (zr_ildn dX12_gravel_85 rfl (zs_X12_gravel_86 h10)) (zr_bipush dX12_gravel_70 rfl (zr_ildn dX12_gravel_72 rfl (zr_bipush dX12_gravel_73 rfl (zr_idiv dX12_gravel_75 (zr_imul dX12_gravel_76 (zr_ildn dX12_gravel_77 rfl (zr_bipush dX12_gravel_78 rfl (zr_irem dX12_gravel_80 (zr_iadd dX12_gravel_81 (zr_goto dX12_gravel_82 (tgt := 86) (by decide) (zs_X12_gravel_86 h10))))))))))))))))))))))))))))))) zr_no)))))))))))))))))))))
def zb_X12_gravel_0 (E : zj_E) (st : List Value) (m : zj_M) : zj_R := (zi_ald 0 (zi_vc 12 0 zf_X12_trouble (zi_ist 1 (zi_push (.int (-5)) (zi_ist 2 (zi_push (.int 0) (zi_ist 3 (zj_lp (zb_X12_gravel_10) zj_fu)))))) zi_no)) E st m
set_option maxRecDepth 20000 in
theorem zs_X12_gravel_0 : zj_KC cX12_gravel RX12 5 (7) (some .int) (0, fun _ => 0) 0 (zb_X12_gravel_0) := (zr_aldn dX12_gravel_0 rfl (zr_callV dX12_gravel_1 zm_X12_trouble ⟨⟨zq_1209, zq_77⟩, by decide +kernel, by omega, by decide⟩ rfl rfl zq_1206 zq_1208 zq_45 (zr_istn dX12_gravel_4 rfl (zr_bipush dX12_gravel_5 rfl (zr_istn dX12_gravel_7 rfl (zr_iconst dX12_gravel_8 rfl (zr_istn dX12_gravel_9 rfl (zr_lp (fun _ h => zs_X12_gravel_10 h) zj_fu)))))) zr_no))
def zf_X12_gravel : zj_F := zj_run 5 zb_X12_gravel_0
theorem zm_X12_gravel : zj_MS 7 yX12_gravel cX12_gravel 5 (some .int) zf_X12_gravel := zj_met (own := RX12) rfl (by decide +kernel) (Or.inr (Or.inl rfl)) (zs_X12_gravel_0)
theorem dX12_see_0 : decode cX12_see 0 = .ok (.iload_n 1, 1) := by decide +kernel
theorem dX12_see_1 : decode cX12_see 1 = .ok (.iconst (-1), 1) := by decide +kernel
theorem dX12_see_2 : decode cX12_see 2 = .ok (.if_icmp .ne 13, 3) := by decide +kernel
theorem dX12_see_5 : decode cX12_see 5 = .ok (.aload_n 0, 1) := by decide +kernel
theorem dX12_see_6 : decode cX12_see 6 = .ok (.getfield 9, 3) := by decide +kernel
theorem dX12_see_9 : decode cX12_see 9 = .ok (.bipush 28, 2) := by decide +kernel
theorem dX12_see_11 : decode cX12_see 11 = .ok (.iconst 0, 1) := by decide +kernel
theorem dX12_see_12 : decode cX12_see 12 = .ok (.iastore, 1) := by decide +kernel
theorem dX12_see_13 : decode cX12_see 13 = .ok (.iconst 0, 1) := by decide +kernel
theorem dX12_see_14 : decode cX12_see 14 = .ok (.ireturn, 1) := by decide +kernel
theorem dX12_see_15 : decode cX12_see 15 = .ok (.aload_n 0, 1) := by decide +kernel
theorem dX12_see_16 : decode cX12_see 16 = .ok (.iload_n 1, 1) := by decide +kernel
theorem dX12_see_17 : decode cX12_see 17 = .ok (.invokevirtual 166, 3) := by decide +kernel
theorem dX12_see_20 : decode cX12_see 20 = .ok (.ifCond .ne 5, 3) := by decide +kernel
theorem dX12_see_23 : decode cX12_see 23 = .ok (.iconst (-1), 1) := by decide +kernel
theorem dX12_see_24 : decode cX12_see 24 = .ok (.ireturn, 1) := by decide +kernel
theorem dX12_see_25 : decode cX12_see 25 = .ok (.iload_n 2, 1) := by decide +kernel
theorem dX12_see_26 : decode cX12_see 26 = .ok (.iconst 0, 1) := by decide +kernel
theorem dX12_see_27 : decode cX12_see 27 = .ok (.bipush 20, 2) := by decide +kernel
theorem dX12_see_29 : decode cX12_see 29 = .ok (.invokestatic 47, 3) := by decide +kernel
theorem dX12_see_32 : decode cX12_see 32 = .ok (.ifCond .ne 6, 3) := by decide +kernel
theorem dX12_see_35 : decode cX12_see 35 = .ok (.bipush (-2), 2) := by decide +kernel
theorem dX12_see_37 : decode cX12_see 37 = .ok (.ireturn, 1) := by decide +kernel
theorem dX12_see_38 : decode cX12_see 38 = .ok (.aload_n 0, 1) := by decide +kernel
theorem dX12_see_39 : decode cX12_see 39 = .ok (.getfield 9, 3) := by decide +kernel
theorem dX12_see_42 : decode cX12_see 42 = .ok (.bipush 28, 2) := by decide +kernel
theorem dX12_see_44 : decode cX12_see 44 = .ok (.iaload, 1) := by decide +kernel
theorem dX12_see_45 : decode cX12_see 45 = .ok (.bipush 6, 2) := by decide +kernel
theorem dX12_see_47 : decode cX12_see 47 = .ok (.if_icmp .ne 6, 3) := by decide +kernel
theorem dX12_see_50 : decode cX12_see 50 = .ok (.bipush (-4), 2) := by decide +kernel
theorem dX12_see_52 : decode cX12_see 52 = .ok (.ireturn, 1) := by decide +kernel
theorem dX12_see_53 : decode cX12_see 53 = .ok (.aload_n 0, 1) := by decide +kernel
theorem dX12_see_54 : decode cX12_see 54 = .ok (.getfield 9, 3) := by decide +kernel
theorem dX12_see_57 : decode cX12_see 57 = .ok (.bipush 73, 2) := by decide +kernel
theorem dX12_see_59 : decode cX12_see 59 = .ok (.aload_n 0, 1) := by decide +kernel
theorem dX12_see_60 : decode cX12_see 60 = .ok (.getfield 9, 3) := by decide +kernel
theorem dX12_see_63 : decode cX12_see 63 = .ok (.bipush 28, 2) := by decide +kernel
theorem dX12_see_65 : decode cX12_see 65 = .ok (.iaload, 1) := by decide +kernel
theorem dX12_see_66 : decode cX12_see 66 = .ok (.iadd, 1) := by decide +kernel
theorem dX12_see_67 : decode cX12_see 67 = .ok (.iload_n 1, 1) := by decide +kernel
theorem dX12_see_68 : decode cX12_see 68 = .ok (.iastore, 1) := by decide +kernel
theorem dX12_see_69 : decode cX12_see 69 = .ok (.aload_n 0, 1) := by decide +kernel
theorem dX12_see_70 : decode cX12_see 70 = .ok (.getfield 9, 3) := by decide +kernel
theorem dX12_see_73 : decode cX12_see 73 = .ok (.bipush 79, 2) := by decide +kernel
theorem dX12_see_75 : decode cX12_see 75 = .ok (.aload_n 0, 1) := by decide +kernel
theorem dX12_see_76 : decode cX12_see 76 = .ok (.getfield 9, 3) := by decide +kernel
theorem dX12_see_79 : decode cX12_see 79 = .ok (.bipush 28, 2) := by decide +kernel
theorem dX12_see_81 : decode cX12_see 81 = .ok (.iaload, 1) := by decide +kernel
theorem dX12_see_82 : decode cX12_see 82 = .ok (.iadd, 1) := by decide +kernel
theorem dX12_see_83 : decode cX12_see 83 = .ok (.iload_n 2, 1) := by decide +kernel
theorem dX12_see_84 : decode cX12_see 84 = .ok (.iastore, 1) := by decide +kernel
theorem dX12_see_85 : decode cX12_see 85 = .ok (.aload_n 0, 1) := by decide +kernel
theorem dX12_see_86 : decode cX12_see 86 = .ok (.getfield 9, 3) := by decide +kernel
theorem dX12_see_89 : decode cX12_see 89 = .ok (.bipush 85, 2) := by decide +kernel
theorem dX12_see_91 : decode cX12_see 91 = .ok (.aload_n 0, 1) := by decide +kernel
theorem dX12_see_92 : decode cX12_see 92 = .ok (.getfield 9, 3) := by decide +kernel
theorem dX12_see_95 : decode cX12_see 95 = .ok (.bipush 28, 2) := by decide +kernel
theorem dX12_see_97 : decode cX12_see 97 = .ok (.iaload, 1) := by decide +kernel
theorem dX12_see_98 : decode cX12_see 98 = .ok (.iadd, 1) := by decide +kernel
theorem dX12_see_99 : decode cX12_see 99 = .ok (.iload_n 3, 1) := by decide +kernel
theorem dX12_see_100 : decode cX12_see 100 = .ok (.ifCond .eq 7, 3) := by decide +kernel
theorem dX12_see_103 : decode cX12_see 103 = .ok (.iconst 1, 1) := by decide +kernel
theorem dX12_see_104 : decode cX12_see 104 = .ok (.goto 4, 3) := by decide +kernel
theorem dX12_see_107 : decode cX12_see 107 = .ok (.iconst 0, 1) := by decide +kernel
theorem dX12_see_108 : decode cX12_see 108 = .ok (.iastore, 1) := by decide +kernel
theorem dX12_see_109 : decode cX12_see 109 = .ok (.aload_n 0, 1) := by decide +kernel
theorem dX12_see_110 : decode cX12_see 110 = .ok (.getfield 9, 3) := by decide +kernel
theorem dX12_see_113 : decode cX12_see 113 = .ok (.bipush 28, 2) := by decide +kernel
theorem dX12_see_115 : decode cX12_see 115 = .ok (.dup2, 1) := by decide +kernel
theorem dX12_see_116 : decode cX12_see 116 = .ok (.iaload, 1) := by decide +kernel
theorem dX12_see_117 : decode cX12_see 117 = .ok (.iconst 1, 1) := by decide +kernel
theorem dX12_see_118 : decode cX12_see 118 = .ok (.iadd, 1) := by decide +kernel
theorem dX12_see_119 : decode cX12_see 119 = .ok (.iastore, 1) := by decide +kernel
theorem dX12_see_120 : decode cX12_see 120 = .ok (.aload_n 0, 1) := by decide +kernel
theorem dX12_see_121 : decode cX12_see 121 = .ok (.getfield 9, 3) := by decide +kernel
theorem dX12_see_124 : decode cX12_see 124 = .ok (.bipush 28, 2) := by decide +kernel
theorem dX12_see_126 : decode cX12_see 126 = .ok (.iaload, 1) := by decide +kernel
theorem dX12_see_127 : decode cX12_see 127 = .ok (.ireturn, 1) := by decide +kernel
def zb_X12_see_108 (E : zj_E) (st : List Value) (m : zj_M) : zj_R := (zi_iast (zi_ald 0 (zi_gf 12 1 (zi_push (.int 28) (zi_dup2 (zi_iald (zi_push (.int 1) (zi_b (fun x y => x + y) (zi_iast (zi_ald 0 (zi_gf 12 1 (zi_push (.int 28) (zi_iald (zi_ret (some .int))))))))))))))) E st m
set_option maxRecDepth 20000 in
theorem zs_X12_see_108 : zj_KC cX12_see RX12 4 (2) (some .int) (0, fun _ => 0) 108 (zb_X12_see_108) := (zr_iast dX12_see_108 (zr_aldn dX12_see_109 rfl (zr_gf dX12_see_110 zfl_X12_9_12 (zr_bipush dX12_see_113 rfl (zr_dup2 dX12_see_115 (zr_iald dX12_see_116 (zr_iconst dX12_see_117 rfl (zr_iadd dX12_see_118 (zr_iast dX12_see_119 (zr_aldn dX12_see_120 rfl (zr_gf dX12_see_121 zfl_X12_9_12 (zr_bipush dX12_see_124 rfl (zr_iald dX12_see_126 (zr_ret dX12_see_127))))))))))))))
def zb_X12_see_0 (E : zj_E) (st : List Value) (m : zj_M) : zj_R := (zi_ild 1 (zi_push (.int (-1)) (zi_ceq (zi_ald 0 (zi_gf 12 1 (zi_push (.int 28) (zi_push (.int 0) (zi_iast (zi_push (.int 0) (zi_ret (some .int)))))))) (zi_ald 0 (zi_ild 1 (zi_vc 12 1 zf_X12_isWalker (zi_eq (zi_push (.int (-1)) (zi_ret (some .int))) (zi_ild 2 (zi_push (.int 0) (zi_push (.int 20) (zi_call 3 zf_X12_in (zi_eq (zi_push (.int (-2)) (zi_ret (some .int))) (zi_ald 0 (zi_gf 12 1 (zi_push (.int 28) (zi_iald (zi_push (.int 6) (zi_ceq (zi_push (.int (-4)) (zi_ret (some .int))) (zi_ald 0 (zi_gf 12 1 (zi_push (.int 73) (zi_ald 0 (zi_gf 12 1 (zi_push (.int 28) (zi_iald (zi_b (fun x y => x + y) (zi_ild 1 (zi_iast (zi_ald 0 (zi_gf 12 1 (zi_push (.int 79) (zi_ald 0 (zi_gf 12 1 (zi_push (.int 28) (zi_iald (zi_b (fun x y => x + y) (zi_ild 2 (zi_iast (zi_ald 0 (zi_gf 12 1 (zi_push (.int 85) (zi_ald 0 (zi_gf 12 1 (zi_push (.int 28) (zi_iald (zi_b (fun x y => x + y) (zi_ild 3 (zi_eq (zi_push (.int 0) zb_X12_see_108) (zi_push (.int 1) zb_X12_see_108))))))))))))))))))))))))))))))))))))))))))) zi_no)))))) E st m
set_option maxRecDepth 20000 in
theorem zs_X12_see_0 : zj_KC cX12_see RX12 4 (2) (some .int) (0, fun _ => 0) 0 (zb_X12_see_0) := (zr_ildn dX12_see_0 rfl (zr_iconst dX12_see_1 rfl (zr_icne dX12_see_2 (tgt := 15) (by decide) (zr_aldn dX12_see_15 rfl (zr_ildn dX12_see_16 rfl (zr_callV dX12_see_17 zm_X12_isWalker ⟨⟨zq_1144, zq_77⟩, by decide +kernel, by omega, by decide⟩ rfl rfl zq_1141 zq_1143 zq_33 (zr_ifne dX12_see_20 (tgt := 25) (by decide) (zr_ildn dX12_see_25 rfl (zr_iconst dX12_see_26 rfl (zr_bipush dX12_see_27 rfl (zr_callS dX12_see_29 zm_X12_in ⟨⟨zq_1054, zq_77⟩, by decide +kernel, by omega, by decide⟩ zq_1052 zq_1053 (zr_ifne dX12_see_32 (tgt := 38) (by decide) (zr_aldn dX12_see_38 rfl (zr_gf dX12_see_39 zfl_X12_9_12 (zr_bipush dX12_see_42 rfl (zr_iald dX12_see_44 (zr_bipush dX12_see_45 rfl (zr_icne dX12_see_47 (tgt := 53) (by decide) (zr_aldn dX12_see_53 rfl (zr_gf dX12_see_54 zfl_X12_9_12 (zr_bipush dX12_see_57 rfl (zr_aldn dX12_see_59 rfl (zr_gf dX12_see_60 zfl_X12_9_12 (zr_bipush dX12_see_63 rfl (zr_iald dX12_see_65 (zr_iadd dX12_see_66 (zr_ildn dX12_see_67 rfl (zr_iast dX12_see_68 (zr_aldn dX12_see_69 rfl (zr_gf dX12_see_70 zfl_X12_9_12 (zr_bipush dX12_see_73 rfl (zr_aldn dX12_see_75 rfl (zr_gf dX12_see_76 zfl_X12_9_12 (zr_bipush dX12_see_79 rfl (zr_iald dX12_see_81 (zr_iadd dX12_see_82 (zr_ildn dX12_see_83 rfl (zr_iast dX12_see_84 (zr_aldn dX12_see_85 rfl (zr_gf dX12_see_86 zfl_X12_9_12 (zr_bipush dX12_see_89 rfl (zr_aldn dX12_see_91 rfl (zr_gf dX12_see_92 zfl_X12_9_12 (zr_bipush dX12_see_95 rfl (zr_iald dX12_see_97 (zr_iadd dX12_see_98 (zr_ildn dX12_see_99 rfl (zr_ifeq dX12_see_100 (tgt := 107) (by decide) (zr_iconst dX12_see_107 rfl (zs_X12_see_108)) (zr_iconst dX12_see_103 rfl (zr_goto dX12_see_104 (tgt := 108) (by decide) (zs_X12_see_108))))))))))))))))))))))))))))))))) (zr_bipush dX12_see_50 rfl (zr_ret dX12_see_52)))))))) (zr_bipush dX12_see_35 rfl (zr_ret dX12_see_37))))))) (zr_iconst dX12_see_23 rfl (zr_ret dX12_see_24))) zr_no))) (zr_aldn dX12_see_5 rfl (zr_gf dX12_see_6 zfl_X12_9_12 (zr_bipush dX12_see_9 rfl (zr_iconst dX12_see_11 rfl (zr_iast dX12_see_12 (zr_iconst dX12_see_13 rfl (zr_ret dX12_see_14))))))))))
def zf_X12_see : zj_F := zj_run 4 zb_X12_see_0
theorem zm_X12_see : zj_MS 2 yX12_see cX12_see 4 (some .int) zf_X12_see := zj_met (own := RX12) rfl (by decide +kernel) (Or.inr (Or.inl rfl)) (zs_X12_see_0)
theorem dX12_isAsSeen_0 : decode cX12_isAsSeen 0 = .ok (.iconst 1, 1) := by decide +kernel
theorem dX12_isAsSeen_1 : decode cX12_isAsSeen 1 = .ok (.istore_n 2, 1) := by decide +kernel
theorem dX12_isAsSeen_2 : decode cX12_isAsSeen 2 = .ok (.iconst 0, 1) := by decide +kernel
theorem dX12_isAsSeen_3 : decode cX12_isAsSeen 3 = .ok (.istore_n 3, 1) := by decide +kernel
theorem dX12_isAsSeen_4 : decode cX12_isAsSeen 4 = .ok (.iload_n 3, 1) := by decide +kernel
theorem dX12_isAsSeen_5 : decode cX12_isAsSeen 5 = .ok (.aload_n 0, 1) := by decide +kernel
theorem dX12_isAsSeen_6 : decode cX12_isAsSeen 6 = .ok (.getfield 9, 3) := by decide +kernel
theorem dX12_isAsSeen_9 : decode cX12_isAsSeen 9 = .ok (.bipush 28, 2) := by decide +kernel
theorem dX12_isAsSeen_11 : decode cX12_isAsSeen 11 = .ok (.iaload, 1) := by decide +kernel
theorem dX12_isAsSeen_12 : decode cX12_isAsSeen 12 = .ok (.if_icmp .ge 66, 3) := by decide +kernel
theorem dX12_isAsSeen_15 : decode cX12_isAsSeen 15 = .ok (.iload_n 2, 1) := by decide +kernel
theorem dX12_isAsSeen_16 : decode cX12_isAsSeen 16 = .ok (.ifCond .eq 54, 3) := by decide +kernel
theorem dX12_isAsSeen_19 : decode cX12_isAsSeen 19 = .ok (.aload_n 0, 1) := by decide +kernel
theorem dX12_isAsSeen_20 : decode cX12_isAsSeen 20 = .ok (.getfield 9, 3) := by decide +kernel
theorem dX12_isAsSeen_23 : decode cX12_isAsSeen 23 = .ok (.bipush 79, 2) := by decide +kernel
theorem dX12_isAsSeen_25 : decode cX12_isAsSeen 25 = .ok (.iload_n 3, 1) := by decide +kernel
theorem dX12_isAsSeen_26 : decode cX12_isAsSeen 26 = .ok (.iadd, 1) := by decide +kernel
theorem dX12_isAsSeen_27 : decode cX12_isAsSeen 27 = .ok (.iaload, 1) := by decide +kernel
theorem dX12_isAsSeen_28 : decode cX12_isAsSeen 28 = .ok (.iload_n 1, 1) := by decide +kernel
theorem dX12_isAsSeen_29 : decode cX12_isAsSeen 29 = .ok (.if_icmp .ne 37, 3) := by decide +kernel
theorem dX12_isAsSeen_32 : decode cX12_isAsSeen 32 = .ok (.aload_n 0, 1) := by decide +kernel
theorem dX12_isAsSeen_33 : decode cX12_isAsSeen 33 = .ok (.aload_n 0, 1) := by decide +kernel
theorem dX12_isAsSeen_34 : decode cX12_isAsSeen 34 = .ok (.getfield 9, 3) := by decide +kernel
theorem dX12_isAsSeen_37 : decode cX12_isAsSeen 37 = .ok (.bipush 73, 2) := by decide +kernel
theorem dX12_isAsSeen_39 : decode cX12_isAsSeen 39 = .ok (.iload_n 3, 1) := by decide +kernel
theorem dX12_isAsSeen_40 : decode cX12_isAsSeen 40 = .ok (.iadd, 1) := by decide +kernel
theorem dX12_isAsSeen_41 : decode cX12_isAsSeen 41 = .ok (.iaload, 1) := by decide +kernel
theorem dX12_isAsSeen_42 : decode cX12_isAsSeen 42 = .ok (.invokevirtual 149, 3) := by decide +kernel
theorem dX12_isAsSeen_45 : decode cX12_isAsSeen 45 = .ok (.aload_n 0, 1) := by decide +kernel
theorem dX12_isAsSeen_46 : decode cX12_isAsSeen 46 = .ok (.getfield 9, 3) := by decide +kernel
theorem dX12_isAsSeen_49 : decode cX12_isAsSeen 49 = .ok (.bipush 85, 2) := by decide +kernel
theorem dX12_isAsSeen_51 : decode cX12_isAsSeen 51 = .ok (.iload_n 3, 1) := by decide +kernel
theorem dX12_isAsSeen_52 : decode cX12_isAsSeen 52 = .ok (.iadd, 1) := by decide +kernel
theorem dX12_isAsSeen_53 : decode cX12_isAsSeen 53 = .ok (.iaload, 1) := by decide +kernel
theorem dX12_isAsSeen_54 : decode cX12_isAsSeen 54 = .ok (.iconst 1, 1) := by decide +kernel
theorem dX12_isAsSeen_55 : decode cX12_isAsSeen 55 = .ok (.if_icmp .ne 7, 3) := by decide +kernel
theorem dX12_isAsSeen_58 : decode cX12_isAsSeen 58 = .ok (.iconst 1, 1) := by decide +kernel
theorem dX12_isAsSeen_59 : decode cX12_isAsSeen 59 = .ok (.goto 4, 3) := by decide +kernel
theorem dX12_isAsSeen_62 : decode cX12_isAsSeen 62 = .ok (.iconst 0, 1) := by decide +kernel
theorem dX12_isAsSeen_63 : decode cX12_isAsSeen 63 = .ok (.if_icmp .ne 7, 3) := by decide +kernel
theorem dX12_isAsSeen_66 : decode cX12_isAsSeen 66 = .ok (.iconst 1, 1) := by decide +kernel
theorem dX12_isAsSeen_67 : decode cX12_isAsSeen 67 = .ok (.goto 4, 3) := by decide +kernel
theorem dX12_isAsSeen_70 : decode cX12_isAsSeen 70 = .ok (.iconst 0, 1) := by decide +kernel
theorem dX12_isAsSeen_71 : decode cX12_isAsSeen 71 = .ok (.istore_n 2, 1) := by decide +kernel
theorem dX12_isAsSeen_72 : decode cX12_isAsSeen 72 = .ok (.iinc 3 1, 3) := by decide +kernel
theorem dX12_isAsSeen_75 : decode cX12_isAsSeen 75 = .ok (.goto (-71), 3) := by decide +kernel
theorem dX12_isAsSeen_78 : decode cX12_isAsSeen 78 = .ok (.iload_n 2, 1) := by decide +kernel
theorem dX12_isAsSeen_79 : decode cX12_isAsSeen 79 = .ok (.ireturn, 1) := by decide +kernel
def zb_X12_isAsSeen_71 (r4 : zj_K) (E : zj_E) (st : List Value) (m : zj_M) : zj_R := (zi_ist 2 (zi_inc 3 1 r4)) E st m
set_option maxRecDepth 20000 in
theorem zs_X12_isAsSeen_71 {r4 : zj_K} (h4 : zj_KC cX12_isAsSeen RX12 4 (2) (some .boolean) (0, fun _ => 0) 4 r4) : zj_KC cX12_isAsSeen RX12 4 (2) (some .boolean) (0, fun _ => 0) 71 (zb_X12_isAsSeen_71 r4) := (zr_istn dX12_isAsSeen_71 rfl (zr_inc dX12_isAsSeen_72 rfl (zr_goto dX12_isAsSeen_75 (tgt := 4) (by decide) h4)))
def zb_X12_isAsSeen_70 (r4 : zj_K) (E : zj_E) (st : List Value) (m : zj_M) : zj_R := (zi_push (.int 0) (zb_X12_isAsSeen_71 r4)) E st m
set_option maxRecDepth 20000 in
theorem zs_X12_isAsSeen_70 {r4 : zj_K} (h4 : zj_KC cX12_isAsSeen RX12 4 (2) (some .boolean) (0, fun _ => 0) 4 r4) : zj_KC cX12_isAsSeen RX12 4 (2) (some .boolean) (0, fun _ => 0) 70 (zb_X12_isAsSeen_70 r4) := (zr_iconst dX12_isAsSeen_70 rfl (zs_X12_isAsSeen_71 h4))
def zb_X12_isAsSeen_66 (r4 : zj_K) (E : zj_E) (st : List Value) (m : zj_M) : zj_R := (zi_push (.int 1) (zb_X12_isAsSeen_71 r4)) E st m
set_option maxRecDepth 20000 in
theorem zs_X12_isAsSeen_66 {r4 : zj_K} (h4 : zj_KC cX12_isAsSeen RX12 4 (2) (some .boolean) (0, fun _ => 0) 4 r4) : zj_KC cX12_isAsSeen RX12 4 (2) (some .boolean) (0, fun _ => 0) 66 (zb_X12_isAsSeen_66 r4) := (zr_iconst dX12_isAsSeen_66 rfl (zr_goto dX12_isAsSeen_67 (tgt := 71) (by decide) (zs_X12_isAsSeen_71 h4)))
def zb_X12_isAsSeen_63 (r4 : zj_K) (E : zj_E) (st : List Value) (m : zj_M) : zj_R := (zi_ceq (zb_X12_isAsSeen_66 r4) (zb_X12_isAsSeen_70 r4)) E st m
set_option maxRecDepth 20000 in
theorem zs_X12_isAsSeen_63 {r4 : zj_K} (h4 : zj_KC cX12_isAsSeen RX12 4 (2) (some .boolean) (0, fun _ => 0) 4 r4) : zj_KC cX12_isAsSeen RX12 4 (2) (some .boolean) (0, fun _ => 0) 63 (zb_X12_isAsSeen_63 r4) := (zr_icne dX12_isAsSeen_63 (tgt := 70) (by decide) (zs_X12_isAsSeen_70 h4) (zs_X12_isAsSeen_66 h4))
def zb_X12_isAsSeen_4 (r4 : zj_K) (E : zj_E) (st : List Value) (m : zj_M) : zj_R := (zi_ild 3 (zi_ald 0 (zi_gf 12 1 (zi_push (.int 28) (zi_iald (zi_clt (zi_ild 2 (zi_eq (zb_X12_isAsSeen_70 r4) (zi_ald 0 (zi_gf 12 1 (zi_push (.int 79) (zi_ild 3 (zi_b (fun x y => x + y) (zi_iald (zi_ild 1 (zi_ceq (zi_ald 0 (zi_ald 0 (zi_gf 12 1 (zi_push (.int 73) (zi_ild 3 (zi_b (fun x y => x + y) (zi_iald (zi_vc 12 1 zf_X12_isStray (zi_ald 0 (zi_gf 12 1 (zi_push (.int 85) (zi_ild 3 (zi_b (fun x y => x + y) (zi_iald (zi_push (.int 1) (zi_ceq (zi_push (.int 1) (zb_X12_isAsSeen_63 r4)) (zi_push (.int 0) (zb_X12_isAsSeen_63 r4)))))))))) zi_no)))))))) (zb_X12_isAsSeen_66 r4))))))))))) (zi_ild 2 (zi_ret (some .boolean))))))))) E st m
set_option maxRecDepth 20000 in
theorem zs_X12_isAsSeen_4 {r4 : zj_K} (h4 : zj_KC cX12_isAsSeen RX12 4 (2) (some .boolean) (0, fun _ => 0) 4 r4) : zj_KC cX12_isAsSeen RX12 4 (2) (some .boolean) (0, fun _ => 0) 4 (zb_X12_isAsSeen_4 r4) := (zr_ildn dX12_isAsSeen_4 rfl (zr_aldn dX12_isAsSeen_5 rfl (zr_gf dX12_isAsSeen_6 zfl_X12_9_12 (zr_bipush dX12_isAsSeen_9 rfl (zr_iald dX12_isAsSeen_11 (zr_icge dX12_isAsSeen_12 (tgt := 78) (by decide) (zr_ildn dX12_isAsSeen_78 rfl (zr_ret dX12_isAsSeen_79)) (zr_ildn dX12_isAsSeen_15 rfl (zr_ifeq dX12_isAsSeen_16 (tgt := 70) (by decide) (zs_X12_isAsSeen_70 h4) (zr_aldn dX12_isAsSeen_19 rfl (zr_gf dX12_isAsSeen_20 zfl_X12_9_12 (zr_bipush dX12_isAsSeen_23 rfl (zr_ildn dX12_isAsSeen_25 rfl (zr_iadd dX12_isAsSeen_26 (zr_iald dX12_isAsSeen_27 (zr_ildn dX12_isAsSeen_28 rfl (zr_icne dX12_isAsSeen_29 (tgt := 66) (by decide) (zs_X12_isAsSeen_66 h4) (zr_aldn dX12_isAsSeen_32 rfl (zr_aldn dX12_isAsSeen_33 rfl (zr_gf dX12_isAsSeen_34 zfl_X12_9_12 (zr_bipush dX12_isAsSeen_37 rfl (zr_ildn dX12_isAsSeen_39 rfl (zr_iadd dX12_isAsSeen_40 (zr_iald dX12_isAsSeen_41 (zr_callV dX12_isAsSeen_42 zm_X12_isStray ⟨⟨zq_1149, zq_77⟩, by decide +kernel, by omega, by decide⟩ rfl rfl zq_1146 zq_1148 zq_34 (zr_aldn dX12_isAsSeen_45 rfl (zr_gf dX12_isAsSeen_46 zfl_X12_9_12 (zr_bipush dX12_isAsSeen_49 rfl (zr_ildn dX12_isAsSeen_51 rfl (zr_iadd dX12_isAsSeen_52 (zr_iald dX12_isAsSeen_53 (zr_iconst dX12_isAsSeen_54 rfl (zr_icne dX12_isAsSeen_55 (tgt := 62) (by decide) (zr_iconst dX12_isAsSeen_62 rfl (zs_X12_isAsSeen_63 h4)) (zr_iconst dX12_isAsSeen_58 rfl (zr_goto dX12_isAsSeen_59 (tgt := 63) (by decide) (zs_X12_isAsSeen_63 h4))))))))))) zr_no))))))))))))))))))))))))
def zb_X12_isAsSeen_0 (E : zj_E) (st : List Value) (m : zj_M) : zj_R := (zi_push (.int 1) (zi_ist 2 (zi_push (.int 0) (zi_ist 3 (zj_lp (zb_X12_isAsSeen_4) zj_fu))))) E st m
set_option maxRecDepth 20000 in
theorem zs_X12_isAsSeen_0 : zj_KC cX12_isAsSeen RX12 4 (2) (some .boolean) (0, fun _ => 0) 0 (zb_X12_isAsSeen_0) := (zr_iconst dX12_isAsSeen_0 rfl (zr_istn dX12_isAsSeen_1 rfl (zr_iconst dX12_isAsSeen_2 rfl (zr_istn dX12_isAsSeen_3 rfl (zr_lp (fun _ h => zs_X12_isAsSeen_4 h) zj_fu)))))
def zf_X12_isAsSeen : zj_F := zj_run 4 zb_X12_isAsSeen_0
theorem zm_X12_isAsSeen : zj_MS 2 yX12_isAsSeen cX12_isAsSeen 4 (some .boolean) zf_X12_isAsSeen := zj_met (own := RX12) rfl (by decide +kernel) (Or.inr (Or.inr (Or.inl rfl))) (zs_X12_isAsSeen_0)
theorem dX12_areAsSeen_0 : decode cX12_areAsSeen 0 = .ok (.iconst 1, 1) := by decide +kernel
theorem dX12_areAsSeen_1 : decode cX12_areAsSeen 1 = .ok (.istore_n 1, 1) := by decide +kernel
theorem dX12_areAsSeen_2 : decode cX12_areAsSeen 2 = .ok (.iconst 0, 1) := by decide +kernel
theorem dX12_areAsSeen_3 : decode cX12_areAsSeen 3 = .ok (.istore_n 2, 1) := by decide +kernel
theorem dX12_areAsSeen_4 : decode cX12_areAsSeen 4 = .ok (.iload_n 2, 1) := by decide +kernel
theorem dX12_areAsSeen_5 : decode cX12_areAsSeen 5 = .ok (.bipush 20, 2) := by decide +kernel
theorem dX12_areAsSeen_7 : decode cX12_areAsSeen 7 = .ok (.if_icmp .gt 23, 3) := by decide +kernel
theorem dX12_areAsSeen_10 : decode cX12_areAsSeen 10 = .ok (.iload_n 1, 1) := by decide +kernel
theorem dX12_areAsSeen_11 : decode cX12_areAsSeen 11 = .ok (.ifCond .eq 19, 3) := by decide +kernel
theorem dX12_areAsSeen_14 : decode cX12_areAsSeen 14 = .ok (.aload_n 0, 1) := by decide +kernel
theorem dX12_areAsSeen_15 : decode cX12_areAsSeen 15 = .ok (.iload_n 2, 1) := by decide +kernel
theorem dX12_areAsSeen_16 : decode cX12_areAsSeen 16 = .ok (.invokevirtual 207, 3) := by decide +kernel
theorem dX12_areAsSeen_19 : decode cX12_areAsSeen 19 = .ok (.istore_n 1, 1) := by decide +kernel
theorem dX12_areAsSeen_20 : decode cX12_areAsSeen 20 = .ok (.aload_n 0, 1) := by decide +kernel
theorem dX12_areAsSeen_21 : decode cX12_areAsSeen 21 = .ok (.invokevirtual 192, 3) := by decide +kernel
theorem dX12_areAsSeen_24 : decode cX12_areAsSeen 24 = .ok (.iinc 2 1, 3) := by decide +kernel
theorem dX12_areAsSeen_27 : decode cX12_areAsSeen 27 = .ok (.goto (-23), 3) := by decide +kernel
theorem dX12_areAsSeen_30 : decode cX12_areAsSeen 30 = .ok (.aload_n 0, 1) := by decide +kernel
theorem dX12_areAsSeen_31 : decode cX12_areAsSeen 31 = .ok (.invokevirtual 201, 3) := by decide +kernel
theorem dX12_areAsSeen_34 : decode cX12_areAsSeen 34 = .ok (.iload_n 1, 1) := by decide +kernel
theorem dX12_areAsSeen_35 : decode cX12_areAsSeen 35 = .ok (.ireturn, 1) := by decide +kernel
def zb_X12_areAsSeen_30 (E : zj_E) (st : List Value) (m : zj_M) : zj_R := (zi_ald 0 (zi_vc 12 0 zf_X12_goesBack (zi_ild 1 (zi_ret (some .boolean))) zi_no)) E st m
set_option maxRecDepth 20000 in
theorem zs_X12_areAsSeen_30 : zj_KC cX12_areAsSeen RX12 3 (5) (some .boolean) (0, fun _ => 0) 30 (zb_X12_areAsSeen_30) := (zr_aldn dX12_areAsSeen_30 rfl (zr_callV dX12_areAsSeen_31 zm_X12_goesBack ⟨⟨zq_1229, zq_77⟩, by decide +kernel, by omega, by decide⟩ rfl rfl zq_1226 zq_1228 zq_50 (zr_ildn dX12_areAsSeen_34 rfl (zr_ret dX12_areAsSeen_35)) zr_no))
def zb_X12_areAsSeen_4 (r4 : zj_K) (E : zj_E) (st : List Value) (m : zj_M) : zj_R := (zi_ild 2 (zi_push (.int 20) (zi_cle (zi_ild 1 (zi_eq zb_X12_areAsSeen_30 (zi_ald 0 (zi_ild 2 (zi_vc 12 1 zf_X12_isAsSeen (zi_ist 1 (zi_ald 0 (zi_vc 12 0 zf_X12_goes (zi_inc 2 1 r4) zi_no))) zi_no))))) zb_X12_areAsSeen_30))) E st m
set_option maxRecDepth 20000 in
theorem zs_X12_areAsSeen_4 {r4 : zj_K} (h4 : zj_KC cX12_areAsSeen RX12 3 (5) (some .boolean) (0, fun _ => 0) 4 r4) : zj_KC cX12_areAsSeen RX12 3 (5) (some .boolean) (0, fun _ => 0) 4 (zb_X12_areAsSeen_4 r4) := (zr_ildn dX12_areAsSeen_4 rfl (zr_bipush dX12_areAsSeen_5 rfl (zr_icgt dX12_areAsSeen_7 (tgt := 30) (by decide) (zs_X12_areAsSeen_30) (zr_ildn dX12_areAsSeen_10 rfl (zr_ifeq dX12_areAsSeen_11 (tgt := 30) (by decide) (zs_X12_areAsSeen_30) (zr_aldn dX12_areAsSeen_14 rfl (zr_ildn dX12_areAsSeen_15 rfl (zr_callV dX12_areAsSeen_16 zm_X12_isAsSeen ⟨⟨zq_1281, zq_77⟩, by decide +kernel, by omega, by decide⟩ rfl rfl zq_1278 zq_1280 zq_55 (zr_istn dX12_areAsSeen_19 rfl (zr_aldn dX12_areAsSeen_20 rfl (zr_callV dX12_areAsSeen_21 zm_X12_goes ⟨⟨zq_1221, zq_77⟩, by decide +kernel, by omega, by decide⟩ rfl rfl zq_1218 zq_1220 zq_48 (zr_inc dX12_areAsSeen_24 rfl (zr_goto dX12_areAsSeen_27 (tgt := 4) (by decide) h4)) zr_no))) zr_no))))))))
def zb_X12_areAsSeen_0 (E : zj_E) (st : List Value) (m : zj_M) : zj_R := (zi_push (.int 1) (zi_ist 1 (zi_push (.int 0) (zi_ist 2 (zj_lp (zb_X12_areAsSeen_4) zj_fu))))) E st m
set_option maxRecDepth 20000 in
theorem zs_X12_areAsSeen_0 : zj_KC cX12_areAsSeen RX12 3 (5) (some .boolean) (0, fun _ => 0) 0 (zb_X12_areAsSeen_0) := (zr_iconst dX12_areAsSeen_0 rfl (zr_istn dX12_areAsSeen_1 rfl (zr_iconst dX12_areAsSeen_2 rfl (zr_istn dX12_areAsSeen_3 rfl (zr_lp (fun _ h => zs_X12_areAsSeen_4 h) zj_fu)))))
def zf_X12_areAsSeen : zj_F := zj_run 3 zb_X12_areAsSeen_0
theorem zm_X12_areAsSeen : zj_MS 5 yX12_areAsSeen cX12_areAsSeen 3 (some .boolean) zf_X12_areAsSeen := zj_met (own := RX12) rfl (by decide +kernel) (Or.inr (Or.inr (Or.inl rfl))) (zs_X12_areAsSeen_0)
theorem dX12_fitting_0 : decode cX12_fitting 0 = .ok (.iconst 0, 1) := by decide +kernel
theorem dX12_fitting_1 : decode cX12_fitting 1 = .ok (.istore_n 3, 1) := by decide +kernel
theorem dX12_fitting_2 : decode cX12_fitting 2 = .ok (.iconst 0, 1) := by decide +kernel
theorem dX12_fitting_3 : decode cX12_fitting 3 = .ok (.istore 4, 2) := by decide +kernel
theorem dX12_fitting_5 : decode cX12_fitting 5 = .ok (.iload 4, 2) := by decide +kernel
theorem dX12_fitting_7 : decode cX12_fitting 7 = .ok (.iload_n 2, 1) := by decide +kernel
theorem dX12_fitting_8 : decode cX12_fitting 8 = .ok (.if_icmp .ge 39, 3) := by decide +kernel
theorem dX12_fitting_11 : decode cX12_fitting 11 = .ok (.aload_n 0, 1) := by decide +kernel
theorem dX12_fitting_12 : decode cX12_fitting 12 = .ok (.invokevirtual 198, 3) := by decide +kernel
theorem dX12_fitting_15 : decode cX12_fitting 15 = .ok (.aload_n 0, 1) := by decide +kernel
theorem dX12_fitting_16 : decode cX12_fitting 16 = .ok (.getfield 9, 3) := by decide +kernel
theorem dX12_fitting_19 : decode cX12_fitting 19 = .ok (.iload_n 1, 1) := by decide +kernel
theorem dX12_fitting_20 : decode cX12_fitting 20 = .ok (.iload 4, 2) := by decide +kernel
theorem dX12_fitting_22 : decode cX12_fitting 22 = .ok (.iastore, 1) := by decide +kernel
theorem dX12_fitting_23 : decode cX12_fitting 23 = .ok (.iload_n 3, 1) := by decide +kernel
theorem dX12_fitting_24 : decode cX12_fitting 24 = .ok (.aload_n 0, 1) := by decide +kernel
theorem dX12_fitting_25 : decode cX12_fitting 25 = .ok (.invokevirtual 210, 3) := by decide +kernel
theorem dX12_fitting_28 : decode cX12_fitting 28 = .ok (.ifCond .eq 10, 3) := by decide +kernel
theorem dX12_fitting_31 : decode cX12_fitting 31 = .ok (.iconst 1, 1) := by decide +kernel
theorem dX12_fitting_32 : decode cX12_fitting 32 = .ok (.iload 4, 2) := by decide +kernel
theorem dX12_fitting_34 : decode cX12_fitting 34 = .ok (.ishl, 1) := by decide +kernel
theorem dX12_fitting_35 : decode cX12_fitting 35 = .ok (.goto 4, 3) := by decide +kernel
theorem dX12_fitting_38 : decode cX12_fitting 38 = .ok (.iconst 0, 1) := by decide +kernel
theorem dX12_fitting_39 : decode cX12_fitting 39 = .ok (.ior, 1) := by decide +kernel
theorem dX12_fitting_40 : decode cX12_fitting 40 = .ok (.istore_n 3, 1) := by decide +kernel
theorem dX12_fitting_41 : decode cX12_fitting 41 = .ok (.iinc 4 1, 3) := by decide +kernel
theorem dX12_fitting_44 : decode cX12_fitting 44 = .ok (.goto (-39), 3) := by decide +kernel
theorem dX12_fitting_47 : decode cX12_fitting 47 = .ok (.iload_n 3, 1) := by decide +kernel
theorem dX12_fitting_48 : decode cX12_fitting 48 = .ok (.ireturn, 1) := by decide +kernel
def zb_X12_fitting_39 (r5 : zj_K) (E : zj_E) (st : List Value) (m : zj_M) : zj_R := (zi_b (fun x y => x ||| y) (zi_ist 3 (zi_inc 4 1 r5))) E st m
set_option maxRecDepth 20000 in
theorem zs_X12_fitting_39 {r5 : zj_K} (h5 : zj_KC cX12_fitting RX12 5 (6) (some .int) (0, fun _ => 0) 5 r5) : zj_KC cX12_fitting RX12 5 (6) (some .int) (0, fun _ => 0) 39 (zb_X12_fitting_39 r5) := (zr_ior dX12_fitting_39 (zr_istn dX12_fitting_40 rfl (zr_inc dX12_fitting_41 rfl (zr_goto dX12_fitting_44 (tgt := 5) (by decide) h5))))
def zb_X12_fitting_5 (r5 : zj_K) (E : zj_E) (st : List Value) (m : zj_M) : zj_R := (zi_ild 4 (zi_ild 2 (zi_clt (zi_ald 0 (zi_vc 12 0 zf_X12_keeps (zi_ald 0 (zi_gf 12 1 (zi_ild 1 (zi_ild 4 (zi_iast (zi_ild 3 (zi_ald 0 (zi_vc 12 0 zf_X12_areAsSeen (zi_eq (zi_push (.int 0) (zb_X12_fitting_39 r5)) (zi_push (.int 1) (zi_ild 4 (zi_b (fun x y => x <<< (y &&& 31)) (zb_X12_fitting_39 r5))))) zi_no)))))))) zi_no)) (zi_ild 3 (zi_ret (some .int)))))) E st m
set_option maxRecDepth 20000 in
theorem zs_X12_fitting_5 {r5 : zj_K} (h5 : zj_KC cX12_fitting RX12 5 (6) (some .int) (0, fun _ => 0) 5 r5) : zj_KC cX12_fitting RX12 5 (6) (some .int) (0, fun _ => 0) 5 (zb_X12_fitting_5 r5) := (zr_ild dX12_fitting_5 (zr_ildn dX12_fitting_7 rfl (zr_icge dX12_fitting_8 (tgt := 47) (by decide) (zr_ildn dX12_fitting_47 rfl (zr_ret dX12_fitting_48)) (zr_aldn dX12_fitting_11 rfl (zr_callV dX12_fitting_12 zm_X12_keeps ⟨⟨zq_1213, zq_77⟩, by decide +kernel, by omega, by decide⟩ rfl rfl zq_1210 zq_1212 zq_46 (zr_aldn dX12_fitting_15 rfl (zr_gf dX12_fitting_16 zfl_X12_9_12 (zr_ildn dX12_fitting_19 rfl (zr_ild dX12_fitting_20 (zr_iast dX12_fitting_22 (zr_ildn dX12_fitting_23 rfl (zr_aldn dX12_fitting_24 rfl (zr_callV dX12_fitting_25 zm_X12_areAsSeen ⟨⟨zq_1277, zq_77⟩, by decide +kernel, by omega, by decide⟩ rfl rfl zq_1274 zq_1276 zq_54 (zr_ifeq dX12_fitting_28 (tgt := 38) (by decide) (zr_iconst dX12_fitting_38 rfl (zs_X12_fitting_39 h5)) (zr_iconst dX12_fitting_31 rfl (zr_ild dX12_fitting_32 (zr_ishl dX12_fitting_34 (zr_goto dX12_fitting_35 (tgt := 39) (by decide) (zs_X12_fitting_39 h5)))))) zr_no)))))))) zr_no)))))
def zb_X12_fitting_0 (E : zj_E) (st : List Value) (m : zj_M) : zj_R := (zi_push (.int 0) (zi_ist 3 (zi_push (.int 0) (zi_ist 4 (zj_lp (zb_X12_fitting_5) zj_fu))))) E st m
set_option maxRecDepth 20000 in
theorem zs_X12_fitting_0 : zj_KC cX12_fitting RX12 5 (6) (some .int) (0, fun _ => 0) 0 (zb_X12_fitting_0) := (zr_iconst dX12_fitting_0 rfl (zr_istn dX12_fitting_1 rfl (zr_iconst dX12_fitting_2 rfl (zr_ist dX12_fitting_3 (zr_lp (fun _ h => zs_X12_fitting_5 h) zj_fu)))))
def zf_X12_fitting : zj_F := zj_run 5 zb_X12_fitting_0
theorem zm_X12_fitting : zj_MS 6 yX12_fitting cX12_fitting 5 (some .int) zf_X12_fitting := zj_met (own := RX12) rfl (by decide +kernel) (Or.inr (Or.inl rfl)) (zs_X12_fitting_0)
theorem dX12_felt_0 : decode cX12_felt 0 = .ok (.aload_n 0, 1) := by decide +kernel
theorem dX12_felt_1 : decode cX12_felt 1 = .ok (.iload_n 1, 1) := by decide +kernel
theorem dX12_felt_2 : decode cX12_felt 2 = .ok (.invokevirtual 166, 3) := by decide +kernel
theorem dX12_felt_5 : decode cX12_felt 5 = .ok (.ifCond .eq 15, 3) := by decide +kernel
theorem dX12_felt_8 : decode cX12_felt 8 = .ok (.aload_n 0, 1) := by decide +kernel
theorem dX12_felt_9 : decode cX12_felt 9 = .ok (.bipush 8, 2) := by decide +kernel
theorem dX12_felt_11 : decode cX12_felt 11 = .ok (.iload_n 1, 1) := by decide +kernel
theorem dX12_felt_12 : decode cX12_felt 12 = .ok (.iadd, 1) := by decide +kernel
theorem dX12_felt_13 : decode cX12_felt 13 = .ok (.iconst 4, 1) := by decide +kernel
theorem dX12_felt_14 : decode cX12_felt 14 = .ok (.invokevirtual 213, 3) := by decide +kernel
theorem dX12_felt_17 : decode cX12_felt 17 = .ok (.goto 4, 3) := by decide +kernel
theorem dX12_felt_20 : decode cX12_felt 20 = .ok (.iconst (-1), 1) := by decide +kernel
theorem dX12_felt_21 : decode cX12_felt 21 = .ok (.ireturn, 1) := by decide +kernel
def zb_X12_felt_21 (E : zj_E) (st : List Value) (m : zj_M) : zj_R := (zi_ret (some .int)) E st m
set_option maxRecDepth 20000 in
theorem zs_X12_felt_21 : zj_KC cX12_felt RX12 2 (7) (some .int) (0, fun _ => 0) 21 (zb_X12_felt_21) := (zr_ret dX12_felt_21)
def zb_X12_felt_0 (E : zj_E) (st : List Value) (m : zj_M) : zj_R := (zi_ald 0 (zi_ild 1 (zi_vc 12 1 zf_X12_isWalker (zi_eq (zi_push (.int (-1)) zb_X12_felt_21) (zi_ald 0 (zi_push (.int 8) (zi_ild 1 (zi_b (fun x y => x + y) (zi_push (.int 4) (zi_vc 12 2 zf_X12_fitting zb_X12_felt_21 zi_no))))))) zi_no))) E st m
set_option maxRecDepth 20000 in
theorem zs_X12_felt_0 : zj_KC cX12_felt RX12 2 (7) (some .int) (0, fun _ => 0) 0 (zb_X12_felt_0) := (zr_aldn dX12_felt_0 rfl (zr_ildn dX12_felt_1 rfl (zr_callV dX12_felt_2 zm_X12_isWalker ⟨⟨zq_1144, zq_77⟩, by decide +kernel, by omega, by decide⟩ rfl rfl zq_1141 zq_1143 zq_33 (zr_ifeq dX12_felt_5 (tgt := 20) (by decide) (zr_iconst dX12_felt_20 rfl (zs_X12_felt_21)) (zr_aldn dX12_felt_8 rfl (zr_bipush dX12_felt_9 rfl (zr_ildn dX12_felt_11 rfl (zr_iadd dX12_felt_12 (zr_iconst dX12_felt_13 rfl (zr_callV dX12_felt_14 zm_X12_fitting ⟨⟨zq_1273, zq_77⟩, by decide +kernel, by omega, by decide⟩ rfl rfl zq_1270 zq_1272 zq_53 (zr_goto dX12_felt_17 (tgt := 21) (by decide) (zs_X12_felt_21)) zr_no))))))) zr_no)))
def zf_X12_felt : zj_F := zj_run 2 zb_X12_felt_0
theorem zm_X12_felt : zj_MS 7 yX12_felt cX12_felt 2 (some .int) zf_X12_felt := zj_met (own := RX12) rfl (by decide +kernel) (Or.inr (Or.inl rfl)) (zs_X12_felt_0)
theorem dX12_where_0 : decode cX12_where 0 = .ok (.aload_n 0, 1) := by decide +kernel
theorem dX12_where_1 : decode cX12_where 1 = .ok (.iload_n 1, 1) := by decide +kernel
theorem dX12_where_2 : decode cX12_where 2 = .ok (.invokevirtual 166, 3) := by decide +kernel
theorem dX12_where_5 : decode cX12_where 5 = .ok (.ifCond .eq 15, 3) := by decide +kernel
theorem dX12_where_8 : decode cX12_where 8 = .ok (.aload_n 0, 1) := by decide +kernel
theorem dX12_where_9 : decode cX12_where 9 = .ok (.iconst 2, 1) := by decide +kernel
theorem dX12_where_10 : decode cX12_where 10 = .ok (.iload_n 1, 1) := by decide +kernel
theorem dX12_where_11 : decode cX12_where 11 = .ok (.iadd, 1) := by decide +kernel
theorem dX12_where_12 : decode cX12_where 12 = .ok (.bipush 16, 2) := by decide +kernel
theorem dX12_where_14 : decode cX12_where 14 = .ok (.invokevirtual 213, 3) := by decide +kernel
theorem dX12_where_17 : decode cX12_where 17 = .ok (.goto 4, 3) := by decide +kernel
theorem dX12_where_20 : decode cX12_where 20 = .ok (.iconst (-1), 1) := by decide +kernel
theorem dX12_where_21 : decode cX12_where 21 = .ok (.ireturn, 1) := by decide +kernel
def zb_X12_where_21 (E : zj_E) (st : List Value) (m : zj_M) : zj_R := (zi_ret (some .int)) E st m
set_option maxRecDepth 20000 in
theorem zs_X12_where_21 : zj_KC cX12_where RX12 2 (7) (some .int) (0, fun _ => 0) 21 (zb_X12_where_21) := (zr_ret dX12_where_21)
def zb_X12_where_0 (E : zj_E) (st : List Value) (m : zj_M) : zj_R := (zi_ald 0 (zi_ild 1 (zi_vc 12 1 zf_X12_isWalker (zi_eq (zi_push (.int (-1)) zb_X12_where_21) (zi_ald 0 (zi_push (.int 2) (zi_ild 1 (zi_b (fun x y => x + y) (zi_push (.int 16) (zi_vc 12 2 zf_X12_fitting zb_X12_where_21 zi_no))))))) zi_no))) E st m
set_option maxRecDepth 20000 in
theorem zs_X12_where_0 : zj_KC cX12_where RX12 2 (7) (some .int) (0, fun _ => 0) 0 (zb_X12_where_0) := (zr_aldn dX12_where_0 rfl (zr_ildn dX12_where_1 rfl (zr_callV dX12_where_2 zm_X12_isWalker ⟨⟨zq_1144, zq_77⟩, by decide +kernel, by omega, by decide⟩ rfl rfl zq_1141 zq_1143 zq_33 (zr_ifeq dX12_where_5 (tgt := 20) (by decide) (zr_iconst dX12_where_20 rfl (zs_X12_where_21)) (zr_aldn dX12_where_8 rfl (zr_iconst dX12_where_9 rfl (zr_ildn dX12_where_10 rfl (zr_iadd dX12_where_11 (zr_bipush dX12_where_12 rfl (zr_callV dX12_where_14 zm_X12_fitting ⟨⟨zq_1273, zq_77⟩, by decide +kernel, by omega, by decide⟩ rfl rfl zq_1270 zq_1272 zq_53 (zr_goto dX12_where_17 (tgt := 21) (by decide) (zs_X12_where_21)) zr_no))))))) zr_no)))
def zf_X12_where : zj_F := zj_run 2 zb_X12_where_0
theorem zm_X12_where : zj_MS 7 yX12_where cX12_where 2 (some .int) zf_X12_where := zj_met (own := RX12) rfl (by decide +kernel) (Or.inr (Or.inl rfl)) (zs_X12_where_0)
