theorem dX11_told_0 : decode cX11_told 0 = .ok (.aload_n 0, 1) := by decide +kernel
theorem dX11_told_1 : decode cX11_told 1 = .ok (.getfield 61, 3) := by decide +kernel
theorem dX11_told_4 : decode cX11_told 4 = .ok (.getfield 124, 3) := by decide +kernel
theorem dX11_told_7 : decode cX11_told 7 = .ok (.astore_n 2, 1) := by decide +kernel
theorem dX11_told_8 : decode cX11_told 8 = .ok (.iload_n 1, 1) := by decide +kernel
theorem dX11_told_9 : decode cX11_told 9 = .ok (.bipush 10, 2) := by decide +kernel
theorem dX11_told_11 : decode cX11_told 11 = .ok (.if_icmp .lt 19, 3) := by decide +kernel
theorem dX11_told_14 : decode cX11_told 14 = .ok (.iload_n 1, 1) := by decide +kernel
theorem dX11_told_15 : decode cX11_told 15 = .ok (.bipush 14, 2) := by decide +kernel
theorem dX11_told_17 : decode cX11_told 17 = .ok (.if_icmp .ge 13, 3) := by decide +kernel
theorem dX11_told_20 : decode cX11_told 20 = .ok (.aload_n 2, 1) := by decide +kernel
theorem dX11_told_21 : decode cX11_told 21 = .ok (.getfield 127, 3) := by decide +kernel
theorem dX11_told_24 : decode cX11_told 24 = .ok (.iload_n 1, 1) := by decide +kernel
theorem dX11_told_25 : decode cX11_told 25 = .ok (.bipush 10, 2) := by decide +kernel
theorem dX11_told_27 : decode cX11_told 27 = .ok (.isub, 1) := by decide +kernel
theorem dX11_told_28 : decode cX11_told 28 = .ok (.iaload, 1) := by decide +kernel
theorem dX11_told_29 : decode cX11_told 29 = .ok (.ireturn, 1) := by decide +kernel
theorem dX11_told_30 : decode cX11_told 30 = .ok (.iload_n 1, 1) := by decide +kernel
theorem dX11_told_31 : decode cX11_told 31 = .ok (.tableswitch 108 0 8 #[49, 54, 65, 73, 78, 83, 88, 98, 103], 49) := by decide +kernel
theorem dX11_told_80 : decode cX11_told 80 = .ok (.aload_n 2, 1) := by decide +kernel
theorem dX11_told_81 : decode cX11_told 81 = .ok (.getfield 193, 3) := by decide +kernel
theorem dX11_told_84 : decode cX11_told 84 = .ok (.ireturn, 1) := by decide +kernel
theorem dX11_told_85 : decode cX11_told 85 = .ok (.aload_n 0, 1) := by decide +kernel
theorem dX11_told_86 : decode cX11_told 86 = .ok (.getfield 61, 3) := by decide +kernel
theorem dX11_told_89 : decode cX11_told 89 = .ok (.getfield 112, 3) := by decide +kernel
theorem dX11_told_92 : decode cX11_told 92 = .ok (.getfield 196, 3) := by decide +kernel
theorem dX11_told_95 : decode cX11_told 95 = .ok (.ireturn, 1) := by decide +kernel
theorem dX11_told_96 : decode cX11_told 96 = .ok (.aload_n 2, 1) := by decide +kernel
theorem dX11_told_97 : decode cX11_told 97 = .ok (.invokevirtual 199, 3) := by decide +kernel
theorem dX11_told_100 : decode cX11_told 100 = .ok (.invokestatic 163, 3) := by decide +kernel
theorem dX11_told_103 : decode cX11_told 103 = .ok (.ireturn, 1) := by decide +kernel
theorem dX11_told_104 : decode cX11_told 104 = .ok (.aload_n 2, 1) := by decide +kernel
theorem dX11_told_105 : decode cX11_told 105 = .ok (.getfield 131, 3) := by decide +kernel
theorem dX11_told_108 : decode cX11_told 108 = .ok (.ireturn, 1) := by decide +kernel
theorem dX11_told_109 : decode cX11_told 109 = .ok (.aload_n 2, 1) := by decide +kernel
theorem dX11_told_110 : decode cX11_told 110 = .ok (.invokevirtual 202, 3) := by decide +kernel
theorem dX11_told_113 : decode cX11_told 113 = .ok (.ireturn, 1) := by decide +kernel
theorem dX11_told_114 : decode cX11_told 114 = .ok (.aload_n 2, 1) := by decide +kernel
theorem dX11_told_115 : decode cX11_told 115 = .ok (.invokevirtual 206, 3) := by decide +kernel
theorem dX11_told_118 : decode cX11_told 118 = .ok (.ireturn, 1) := by decide +kernel
theorem dX11_told_119 : decode cX11_told 119 = .ok (.aload_n 0, 1) := by decide +kernel
theorem dX11_told_120 : decode cX11_told 120 = .ok (.invokevirtual 209, 3) := by decide +kernel
theorem dX11_told_123 : decode cX11_told 123 = .ok (.ldc 70, 2) := by decide +kernel
theorem dX11_told_125 : decode cX11_told 125 = .ok (.invokevirtual 213, 3) := by decide +kernel
theorem dX11_told_128 : decode cX11_told 128 = .ok (.ireturn, 1) := by decide +kernel
theorem dX11_told_129 : decode cX11_told 129 = .ok (.aload_n 2, 1) := by decide +kernel
theorem dX11_told_130 : decode cX11_told 130 = .ok (.invokevirtual 216, 3) := by decide +kernel
theorem dX11_told_133 : decode cX11_told 133 = .ok (.ireturn, 1) := by decide +kernel
theorem dX11_told_134 : decode cX11_told 134 = .ok (.aload_n 2, 1) := by decide +kernel
theorem dX11_told_135 : decode cX11_told 135 = .ok (.invokevirtual 219, 3) := by decide +kernel
theorem dX11_told_138 : decode cX11_told 138 = .ok (.ireturn, 1) := by decide +kernel
theorem dX11_told_139 : decode cX11_told 139 = .ok (.iconst (-1), 1) := by decide +kernel
theorem dX11_told_140 : decode cX11_told 140 = .ok (.ireturn, 1) := by decide +kernel
def zb_X11_told_80 (E : zj_E) (st : List Value) (m : zj_M) : zj_R := (zi_ald 2 (zi_gf 4 8 (zi_ret (some .int)))) E st m
set_option maxRecDepth 20000 in
theorem zs_X11_told_80 : zj_KC cX11_told RX11 3 (7) (some .int) (0, fun _ => 0) 80 (zb_X11_told_80) := (zr_aldn dX11_told_80 rfl (zr_gf dX11_told_81 zfl_X11_193_4 (zr_ret dX11_told_84)))
def zb_X11_told_85 (E : zj_E) (st : List Value) (m : zj_M) : zj_R := (zi_ald 0 (zi_gf 11 3 (zi_gf 10 0 (zi_gf 2 0 (zi_ret (some .int)))))) E st m
set_option maxRecDepth 20000 in
theorem zs_X11_told_85 : zj_KC cX11_told RX11 3 (7) (some .int) (0, fun _ => 0) 85 (zb_X11_told_85) := (zr_aldn dX11_told_85 rfl (zr_gf dX11_told_86 zfl_X11_61_11 (zr_gf dX11_told_89 zfl_X11_112_10 (zr_gf dX11_told_92 zfl_X11_196_2 (zr_ret dX11_told_95)))))
def zb_X11_told_96 (E : zj_E) (st : List Value) (m : zj_M) : zj_R := (zi_ald 2 (zi_vc 4 0 zf_X4_isRaining (zi_call 1 zf_X11_bit (zi_ret (some .int))) zi_no)) E st m
set_option maxRecDepth 20000 in
theorem zs_X11_told_96 : zj_KC cX11_told RX11 3 (7) (some .int) (0, fun _ => 0) 96 (zb_X11_told_96) := (zr_aldn dX11_told_96 rfl (zr_callV dX11_told_97 zm_X4_isRaining ⟨⟨zq_675, zq_76⟩, by decide +kernel, by omega, by decide⟩ rfl rfl zq_720 zq_673 zq_674 (zr_callS dX11_told_100 zm_X11_bit ⟨⟨zq_610, zq_65⟩, by decide +kernel, by omega, by decide⟩ zq_608 zq_609 (zr_ret dX11_told_103)) zr_no))
def zb_X11_told_104 (E : zj_E) (st : List Value) (m : zj_M) : zj_R := (zi_ald 2 (zi_gf 4 9 (zi_ret (some .int)))) E st m
set_option maxRecDepth 20000 in
theorem zs_X11_told_104 : zj_KC cX11_told RX11 3 (7) (some .int) (0, fun _ => 0) 104 (zb_X11_told_104) := (zr_aldn dX11_told_104 rfl (zr_gf dX11_told_105 zfl_X11_131_4 (zr_ret dX11_told_108)))
def zb_X11_told_109 (E : zj_E) (st : List Value) (m : zj_M) : zj_R := (zi_ald 2 (zi_vc 4 0 zf_X4_wrongOnes (zi_ret (some .int)) zi_no)) E st m
set_option maxRecDepth 20000 in
theorem zs_X11_told_109 : zj_KC cX11_told RX11 3 (7) (some .int) (0, fun _ => 0) 109 (zb_X11_told_109) := (zr_aldn dX11_told_109 rfl (zr_callV dX11_told_110 zm_X4_wrongOnes ⟨⟨zq_724, zq_76⟩, by decide +kernel, by omega, by decide⟩ rfl rfl zq_721 zq_722 zq_723 (zr_ret dX11_told_113) zr_no))
def zb_X11_told_114 (E : zj_E) (st : List Value) (m : zj_M) : zj_R := (zi_ald 2 (zi_vc 4 0 zf_X4_movedOfAll (zi_ret (some .int)) zi_no)) E st m
set_option maxRecDepth 20000 in
theorem zs_X11_told_114 : zj_KC cX11_told RX11 3 (7) (some .int) (0, fun _ => 0) 114 (zb_X11_told_114) := (zr_aldn dX11_told_114 rfl (zr_callV dX11_told_115 zm_X4_movedOfAll ⟨⟨zq_729, zq_76⟩, by decide +kernel, by omega, by decide⟩ rfl rfl zq_726 zq_727 zq_728 (zr_ret dX11_told_118) zr_no))
def zb_X11_told_119 (E : zj_E) (st : List Value) (m : zj_M) : zj_R := (zi_ald 0 (zi_vc 11 0 zf_X11_startTrial (zi_push (.int 2147483647) (zi_vc 4 1 zf_X4_trouble (zi_ret (some .int)) zi_no)) zi_no)) E st m
set_option maxRecDepth 20000 in
theorem zs_X11_told_119 : zj_KC cX11_told RX11 3 (7) (some .int) (0, fun _ => 0) 119 (zb_X11_told_119) := (zr_aldn dX11_told_119 rfl (zr_callV dX11_told_120 zm_X11_startTrial ⟨⟨zq_733, zq_65⟩, by decide +kernel, by omega, by decide⟩ rfl rfl zq_730 zq_732 zq_17 (zr_ldc dX11_told_123 zq_339 (zr_callV dX11_told_125 zm_X4_trouble ⟨⟨zq_742, zq_76⟩, by decide +kernel, by omega, by decide⟩ rfl rfl zq_739 zq_740 zq_741 (zr_ret dX11_told_128) zr_no)) zr_no))
def zb_X11_told_129 (E : zj_E) (st : List Value) (m : zj_M) : zj_R := (zi_ald 2 (zi_vc 4 0 zf_X4_onAnyRoad (zi_ret (some .int)) zi_no)) E st m
set_option maxRecDepth 20000 in
theorem zs_X11_told_129 : zj_KC cX11_told RX11 3 (7) (some .int) (0, fun _ => 0) 129 (zb_X11_told_129) := (zr_aldn dX11_told_129 rfl (zr_callV dX11_told_130 zm_X4_onAnyRoad ⟨⟨zq_759, zq_76⟩, by decide +kernel, by omega, by decide⟩ rfl rfl zq_756 zq_757 zq_758 (zr_ret dX11_told_133) zr_no))
def zb_X11_told_134 (E : zj_E) (st : List Value) (m : zj_M) : zj_R := (zi_ald 2 (zi_vc 4 0 zf_X4_onJustOneRoad (zi_ret (some .int)) zi_no)) E st m
set_option maxRecDepth 20000 in
theorem zs_X11_told_134 : zj_KC cX11_told RX11 3 (7) (some .int) (0, fun _ => 0) 134 (zb_X11_told_134) := (zr_aldn dX11_told_134 rfl (zr_callV dX11_told_135 zm_X4_onJustOneRoad ⟨⟨zq_763, zq_76⟩, by decide +kernel, by omega, by decide⟩ rfl rfl zq_760 zq_761 zq_762 (zr_ret dX11_told_138) zr_no))
def zb_X11_told_139 (E : zj_E) (st : List Value) (m : zj_M) : zj_R := (zi_push (.int (-1)) (zi_ret (some .int))) E st m
set_option maxRecDepth 20000 in
theorem zs_X11_told_139 : zj_KC cX11_told RX11 3 (7) (some .int) (0, fun _ => 0) 139 (zb_X11_told_139) := (zr_iconst dX11_told_139 rfl (zr_ret dX11_told_140))
def zb_X11_told_30 (E : zj_E) (st : List Value) (m : zj_M) : zj_R := (zi_ild 1 (zi_tsw 0 [zb_X11_told_80, zb_X11_told_85, zb_X11_told_96, zb_X11_told_104, zb_X11_told_109, zb_X11_told_114, zb_X11_told_119, zb_X11_told_129, zb_X11_told_134] zb_X11_told_139)) E st m
set_option maxRecDepth 20000 in
theorem zs_X11_told_30 : zj_KC cX11_told RX11 3 (7) (some .int) (0, fun _ => 0) 30 (zb_X11_told_30) := (zr_ildn dX11_told_30 rfl (zr_tsw dX11_told_31 (tgt := 139) (by decide) (hkd := (zs_X11_told_139)) (tg := [80, 85, 96, 104, 109, 114, 119, 129, 134] ) (hn := rfl) (hoff := by decide) (hl := rfl) ⟨(zs_X11_told_80), (zs_X11_told_85), (zs_X11_told_96), (zs_X11_told_104), (zs_X11_told_109), (zs_X11_told_114), (zs_X11_told_119), (zs_X11_told_129), (zs_X11_told_134), trivial⟩))
def zb_X11_told_0 (E : zj_E) (st : List Value) (m : zj_M) : zj_R := (zi_ald 0 (zi_gf 11 3 (zi_gf 10 1 (zi_ast 2 (zi_ild 1 (zi_push (.int 10) (zi_clt zb_X11_told_30 (zi_ild 1 (zi_push (.int 14) (zi_clt (zi_ald 2 (zi_gf 4 0 (zi_ild 1 (zi_push (.int 10) (zi_b (fun x y => x - y) (zi_iald (zi_ret (some .int)))))))) zb_X11_told_30)))))))))) E st m
set_option maxRecDepth 20000 in
theorem zs_X11_told_0 : zj_KC cX11_told RX11 3 (7) (some .int) (0, fun _ => 0) 0 (zb_X11_told_0) := (zr_aldn dX11_told_0 rfl (zr_gf dX11_told_1 zfl_X11_61_11 (zr_gf dX11_told_4 zfl_X11_124_10 (zr_astn dX11_told_7 rfl (zr_ildn dX11_told_8 rfl (zr_bipush dX11_told_9 rfl (zr_iclt dX11_told_11 (tgt := 30) (by decide) (zs_X11_told_30) (zr_ildn dX11_told_14 rfl (zr_bipush dX11_told_15 rfl (zr_icge dX11_told_17 (tgt := 30) (by decide) (zs_X11_told_30) (zr_aldn dX11_told_20 rfl (zr_gf dX11_told_21 zfl_X11_127_4 (zr_ildn dX11_told_24 rfl (zr_bipush dX11_told_25 rfl (zr_isub dX11_told_27 (zr_iald dX11_told_28 (zr_ret dX11_told_29)))))))))))))))))
def zf_X11_told : zj_F := zj_run 3 zb_X11_told_0
theorem zm_X11_told : zj_MS 7 yX11_told cX11_told 3 (some .int) zf_X11_told := zj_met (own := RX11) rfl (by decide +kernel) (Or.inr (Or.inl rfl)) (zs_X11_told_0)
theorem dX11_pass_0 : decode cX11_pass 0 = .ok (.iload_n 1, 1) := by decide +kernel
theorem dX11_pass_1 : decode cX11_pass 1 = .ok (.ifCond .lt 9, 3) := by decide +kernel
theorem dX11_pass_4 : decode cX11_pass 4 = .ok (.iload_n 1, 1) := by decide +kernel
theorem dX11_pass_5 : decode cX11_pass 5 = .ok (.bipush 60, 2) := by decide +kernel
theorem dX11_pass_7 : decode cX11_pass 7 = .ok (.if_icmp .le 6, 3) := by decide +kernel
theorem dX11_pass_10 : decode cX11_pass 10 = .ok (.bipush (-2), 2) := by decide +kernel
theorem dX11_pass_12 : decode cX11_pass 12 = .ok (.ireturn, 1) := by decide +kernel
theorem dX11_pass_13 : decode cX11_pass 13 = .ok (.aload_n 0, 1) := by decide +kernel
theorem dX11_pass_14 : decode cX11_pass 14 = .ok (.getfield 61, 3) := by decide +kernel
theorem dX11_pass_17 : decode cX11_pass 17 = .ok (.getfield 124, 3) := by decide +kernel
theorem dX11_pass_20 : decode cX11_pass 20 = .ok (.getfield 193, 3) := by decide +kernel
theorem dX11_pass_23 : decode cX11_pass 23 = .ok (.iload_n 1, 1) := by decide +kernel
theorem dX11_pass_24 : decode cX11_pass 24 = .ok (.iadd, 1) := by decide +kernel
theorem dX11_pass_25 : decode cX11_pass 25 = .ok (.sipush 9999, 3) := by decide +kernel
theorem dX11_pass_28 : decode cX11_pass 28 = .ok (.if_icmp .le 6, 3) := by decide +kernel
theorem dX11_pass_31 : decode cX11_pass 31 = .ok (.bipush (-3), 2) := by decide +kernel
theorem dX11_pass_33 : decode cX11_pass 33 = .ok (.ireturn, 1) := by decide +kernel
theorem dX11_pass_34 : decode cX11_pass 34 = .ok (.aload_n 0, 1) := by decide +kernel
theorem dX11_pass_35 : decode cX11_pass 35 = .ok (.getfield 61, 3) := by decide +kernel
theorem dX11_pass_38 : decode cX11_pass 38 = .ok (.getfield 124, 3) := by decide +kernel
theorem dX11_pass_41 : decode cX11_pass 41 = .ok (.iload_n 1, 1) := by decide +kernel
theorem dX11_pass_42 : decode cX11_pass 42 = .ok (.invokevirtual 222, 3) := by decide +kernel
theorem dX11_pass_45 : decode cX11_pass 45 = .ok (.aload_n 0, 1) := by decide +kernel
theorem dX11_pass_46 : decode cX11_pass 46 = .ok (.getfield 61, 3) := by decide +kernel
theorem dX11_pass_49 : decode cX11_pass 49 = .ok (.getfield 124, 3) := by decide +kernel
theorem dX11_pass_52 : decode cX11_pass 52 = .ok (.getfield 193, 3) := by decide +kernel
theorem dX11_pass_55 : decode cX11_pass 55 = .ok (.ireturn, 1) := by decide +kernel
def zb_X11_pass_10 (E : zj_E) (st : List Value) (m : zj_M) : zj_R := (zi_push (.int (-2)) (zi_ret (some .int))) E st m
set_option maxRecDepth 20000 in
theorem zs_X11_pass_10 : zj_KC cX11_pass RX11 2 (7) (some .int) (0, fun _ => 0) 10 (zb_X11_pass_10) := (zr_bipush dX11_pass_10 rfl (zr_ret dX11_pass_12))
def zb_X11_pass_0 (E : zj_E) (st : List Value) (m : zj_M) : zj_R := (zi_ild 1 (zi_lt zb_X11_pass_10 (zi_ild 1 (zi_push (.int 60) (zi_cle (zi_ald 0 (zi_gf 11 3 (zi_gf 10 1 (zi_gf 4 8 (zi_ild 1 (zi_b (fun x y => x + y) (zi_push (.int 9999) (zi_cle (zi_ald 0 (zi_gf 11 3 (zi_gf 10 1 (zi_ild 1 (zi_vc 4 1 zf_X4_goOn (zi_ald 0 (zi_gf 11 3 (zi_gf 10 1 (zi_gf 4 8 (zi_ret (some .int)))))) zi_no))))) (zi_push (.int (-3)) (zi_ret (some .int))))))))))) zb_X11_pass_10))))) E st m
set_option maxRecDepth 20000 in
theorem zs_X11_pass_0 : zj_KC cX11_pass RX11 2 (7) (some .int) (0, fun _ => 0) 0 (zb_X11_pass_0) := (zr_ildn dX11_pass_0 rfl (zr_iflt dX11_pass_1 (tgt := 10) (by decide) (zs_X11_pass_10) (zr_ildn dX11_pass_4 rfl (zr_bipush dX11_pass_5 rfl (zr_icle dX11_pass_7 (tgt := 13) (by decide) (zr_aldn dX11_pass_13 rfl (zr_gf dX11_pass_14 zfl_X11_61_11 (zr_gf dX11_pass_17 zfl_X11_124_10 (zr_gf dX11_pass_20 zfl_X11_193_4 (zr_ildn dX11_pass_23 rfl (zr_iadd dX11_pass_24 (zr_sipush dX11_pass_25 rfl (zr_icle dX11_pass_28 (tgt := 34) (by decide) (zr_aldn dX11_pass_34 rfl (zr_gf dX11_pass_35 zfl_X11_61_11 (zr_gf dX11_pass_38 zfl_X11_124_10 (zr_ildn dX11_pass_41 rfl (zr_callV dX11_pass_42 zm_X4_goOn ⟨⟨zq_771, zq_76⟩, by decide +kernel, by omega, by decide⟩ rfl rfl zq_768 zq_769 zq_770 (zr_aldn dX11_pass_45 rfl (zr_gf dX11_pass_46 zfl_X11_61_11 (zr_gf dX11_pass_49 zfl_X11_124_10 (zr_gf dX11_pass_52 zfl_X11_193_4 (zr_ret dX11_pass_55))))) zr_no))))) (zr_bipush dX11_pass_31 rfl (zr_ret dX11_pass_33)))))))))) (zs_X11_pass_10))))))
def zf_X11_pass : zj_F := zj_run 2 zb_X11_pass_0
theorem zm_X11_pass : zj_MS 7 yX11_pass cX11_pass 2 (some .int) zf_X11_pass := zj_met (own := RX11) rfl (by decide +kernel) (Or.inr (Or.inl rfl)) (zs_X11_pass_0)
theorem dX11_on_0 : decode cX11_on 0 = .ok (.iload_n 2, 1) := by decide +kernel
theorem dX11_on_1 : decode cX11_on 1 = .ok (.bipush 10, 2) := by decide +kernel
theorem dX11_on_3 : decode cX11_on 3 = .ok (.isub, 1) := by decide +kernel
theorem dX11_on_4 : decode cX11_on 4 = .ok (.istore_n 3, 1) := by decide +kernel
theorem dX11_on_5 : decode cX11_on 5 = .ok (.iload_n 2, 1) := by decide +kernel
theorem dX11_on_6 : decode cX11_on 6 = .ok (.bipush 20, 2) := by decide +kernel
theorem dX11_on_8 : decode cX11_on 8 = .ok (.isub, 1) := by decide +kernel
theorem dX11_on_9 : decode cX11_on 9 = .ok (.istore 4, 2) := by decide +kernel
theorem dX11_on_11 : decode cX11_on 11 = .ok (.iload_n 2, 1) := by decide +kernel
theorem dX11_on_12 : decode cX11_on 12 = .ok (.ifCond .eq 27, 3) := by decide +kernel
theorem dX11_on_15 : decode cX11_on 15 = .ok (.iload_n 2, 1) := by decide +kernel
theorem dX11_on_16 : decode cX11_on 16 = .ok (.iconst 1, 1) := by decide +kernel
theorem dX11_on_17 : decode cX11_on 17 = .ok (.if_icmp .eq 22, 3) := by decide +kernel
theorem dX11_on_20 : decode cX11_on 20 = .ok (.aload_n 0, 1) := by decide +kernel
theorem dX11_on_21 : decode cX11_on 21 = .ok (.iload_n 3, 1) := by decide +kernel
theorem dX11_on_22 : decode cX11_on 22 = .ok (.invokevirtual 140, 3) := by decide +kernel
theorem dX11_on_25 : decode cX11_on 25 = .ok (.ifCond .ne 14, 3) := by decide +kernel
theorem dX11_on_28 : decode cX11_on 28 = .ok (.aload_n 0, 1) := by decide +kernel
theorem dX11_on_29 : decode cX11_on 29 = .ok (.iload 4, 2) := by decide +kernel
theorem dX11_on_31 : decode cX11_on 31 = .ok (.invokevirtual 140, 3) := by decide +kernel
theorem dX11_on_34 : decode cX11_on 34 = .ok (.ifCond .ne 5, 3) := by decide +kernel
theorem dX11_on_37 : decode cX11_on 37 = .ok (.iconst (-1), 1) := by decide +kernel
theorem dX11_on_38 : decode cX11_on 38 = .ok (.ireturn, 1) := by decide +kernel
theorem dX11_on_39 : decode cX11_on 39 = .ok (.iload_n 1, 1) := by decide +kernel
theorem dX11_on_40 : decode cX11_on 40 = .ok (.ifCond .lt 9, 3) := by decide +kernel
theorem dX11_on_43 : decode cX11_on 43 = .ok (.iload_n 1, 1) := by decide +kernel
theorem dX11_on_44 : decode cX11_on 44 = .ok (.bipush 60, 2) := by decide +kernel
theorem dX11_on_46 : decode cX11_on 46 = .ok (.if_icmp .le 6, 3) := by decide +kernel
theorem dX11_on_49 : decode cX11_on 49 = .ok (.bipush (-2), 2) := by decide +kernel
theorem dX11_on_51 : decode cX11_on 51 = .ok (.ireturn, 1) := by decide +kernel
theorem dX11_on_52 : decode cX11_on 52 = .ok (.aload_n 0, 1) := by decide +kernel
theorem dX11_on_53 : decode cX11_on 53 = .ok (.invokevirtual 209, 3) := by decide +kernel
theorem dX11_on_56 : decode cX11_on 56 = .ok (.astore 5, 2) := by decide +kernel
theorem dX11_on_58 : decode cX11_on 58 = .ok (.aload 5, 2) := by decide +kernel
theorem dX11_on_60 : decode cX11_on 60 = .ok (.iload_n 1, 1) := by decide +kernel
theorem dX11_on_61 : decode cX11_on 61 = .ok (.invokevirtual 222, 3) := by decide +kernel
theorem dX11_on_64 : decode cX11_on 64 = .ok (.iload_n 2, 1) := by decide +kernel
theorem dX11_on_65 : decode cX11_on 65 = .ok (.ifCond .ne 9, 3) := by decide +kernel
theorem dX11_on_68 : decode cX11_on 68 = .ok (.aload 5, 2) := by decide +kernel
theorem dX11_on_70 : decode cX11_on 70 = .ok (.invokevirtual 202, 3) := by decide +kernel
theorem dX11_on_73 : decode cX11_on 73 = .ok (.ireturn, 1) := by decide +kernel
theorem dX11_on_74 : decode cX11_on 74 = .ok (.iload_n 2, 1) := by decide +kernel
theorem dX11_on_75 : decode cX11_on 75 = .ok (.iconst 1, 1) := by decide +kernel
theorem dX11_on_76 : decode cX11_on 76 = .ok (.if_icmp .ne 9, 3) := by decide +kernel
theorem dX11_on_79 : decode cX11_on 79 = .ok (.aload 5, 2) := by decide +kernel
theorem dX11_on_81 : decode cX11_on 81 = .ok (.invokevirtual 206, 3) := by decide +kernel
theorem dX11_on_84 : decode cX11_on 84 = .ok (.ireturn, 1) := by decide +kernel
theorem dX11_on_85 : decode cX11_on 85 = .ok (.aload_n 0, 1) := by decide +kernel
theorem dX11_on_86 : decode cX11_on 86 = .ok (.iload_n 3, 1) := by decide +kernel
theorem dX11_on_87 : decode cX11_on 87 = .ok (.invokevirtual 140, 3) := by decide +kernel
theorem dX11_on_90 : decode cX11_on 90 = .ok (.ifCond .eq 13, 3) := by decide +kernel
theorem dX11_on_93 : decode cX11_on 93 = .ok (.aload 5, 2) := by decide +kernel
theorem dX11_on_95 : decode cX11_on 95 = .ok (.getfield 154, 3) := by decide +kernel
theorem dX11_on_98 : decode cX11_on 98 = .ok (.iload_n 3, 1) := by decide +kernel
theorem dX11_on_99 : decode cX11_on 99 = .ok (.iaload, 1) := by decide +kernel
theorem dX11_on_100 : decode cX11_on 100 = .ok (.goto 11, 3) := by decide +kernel
theorem dX11_on_103 : decode cX11_on 103 = .ok (.aload 5, 2) := by decide +kernel
theorem dX11_on_105 : decode cX11_on 105 = .ok (.getfield 157, 3) := by decide +kernel
theorem dX11_on_108 : decode cX11_on 108 = .ok (.iload 4, 2) := by decide +kernel
theorem dX11_on_110 : decode cX11_on 110 = .ok (.iaload, 1) := by decide +kernel
theorem dX11_on_111 : decode cX11_on 111 = .ok (.ireturn, 1) := by decide +kernel
def zb_X11_on_49 (E : zj_E) (st : List Value) (m : zj_M) : zj_R := (zi_push (.int (-2)) (zi_ret (some .int))) E st m
set_option maxRecDepth 20000 in
theorem zs_X11_on_49 : zj_KC cX11_on RX11 6 (7) (some .int) (0, fun _ => 0) 49 (zb_X11_on_49) := (zr_bipush dX11_on_49 rfl (zr_ret dX11_on_51))
def zb_X11_on_111 (E : zj_E) (st : List Value) (m : zj_M) : zj_R := (zi_ret (some .int)) E st m
set_option maxRecDepth 20000 in
theorem zs_X11_on_111 : zj_KC cX11_on RX11 6 (7) (some .int) (0, fun _ => 0) 111 (zb_X11_on_111) := (zr_ret dX11_on_111)
def zb_X11_on_39 (E : zj_E) (st : List Value) (m : zj_M) : zj_R := (zi_ild 1 (zi_lt zb_X11_on_49 (zi_ild 1 (zi_push (.int 60) (zi_cle (zi_ald 0 (zi_vc 11 0 zf_X11_startTrial (zi_ast 5 (zi_ald 5 (zi_ild 1 (zi_vc 4 1 zf_X4_goOn (zi_ild 2 (zi_eq (zi_ald 5 (zi_vc 4 0 zf_X4_wrongOnes (zi_ret (some .int)) zi_no)) (zi_ild 2 (zi_push (.int 1) (zi_ceq (zi_ald 5 (zi_vc 4 0 zf_X4_movedOfAll (zi_ret (some .int)) zi_no)) (zi_ald 0 (zi_ild 3 (zi_vc 11 1 zf_X11_isWalker (zi_eq (zi_ald 5 (zi_gf 4 4 (zi_ild 4 (zi_iald zb_X11_on_111)))) (zi_ald 5 (zi_gf 4 3 (zi_ild 3 (zi_iald zb_X11_on_111))))) zi_no)))))))) zi_no)))) zi_no)) zb_X11_on_49))))) E st m
set_option maxRecDepth 20000 in
theorem zs_X11_on_39 : zj_KC cX11_on RX11 6 (7) (some .int) (0, fun _ => 0) 39 (zb_X11_on_39) := (zr_ildn dX11_on_39 rfl (zr_iflt dX11_on_40 (tgt := 49) (by decide) (zs_X11_on_49) (zr_ildn dX11_on_43 rfl (zr_bipush dX11_on_44 rfl (zr_icle dX11_on_46 (tgt := 52) (by decide) (zr_aldn dX11_on_52 rfl (zr_callV dX11_on_53 zm_X11_startTrial ⟨⟨zq_733, zq_65⟩, by decide +kernel, by omega, by decide⟩ rfl rfl zq_730 zq_732 zq_17 (zr_ast dX11_on_56 (zr_ald dX11_on_58 (zr_ildn dX11_on_60 rfl (zr_callV dX11_on_61 zm_X4_goOn ⟨⟨zq_771, zq_76⟩, by decide +kernel, by omega, by decide⟩ rfl rfl zq_768 zq_769 zq_770 (zr_ildn dX11_on_64 rfl (zr_ifne dX11_on_65 (tgt := 74) (by decide) (zr_ildn dX11_on_74 rfl (zr_iconst dX11_on_75 rfl (zr_icne dX11_on_76 (tgt := 85) (by decide) (zr_aldn dX11_on_85 rfl (zr_ildn dX11_on_86 rfl (zr_callV dX11_on_87 zm_X11_isWalker ⟨⟨zq_597, zq_65⟩, by decide +kernel, by omega, by decide⟩ rfl rfl zq_594 zq_596 zq_13 (zr_ifeq dX11_on_90 (tgt := 103) (by decide) (zr_ald dX11_on_103 (zr_gf dX11_on_105 zfl_X11_157_4 (zr_ild dX11_on_108 (zr_iald dX11_on_110 (zs_X11_on_111))))) (zr_ald dX11_on_93 (zr_gf dX11_on_95 zfl_X11_154_4 (zr_ildn dX11_on_98 rfl (zr_iald dX11_on_99 (zr_goto dX11_on_100 (tgt := 111) (by decide) (zs_X11_on_111))))))) zr_no))) (zr_ald dX11_on_79 (zr_callV dX11_on_81 zm_X4_movedOfAll ⟨⟨zq_729, zq_76⟩, by decide +kernel, by omega, by decide⟩ rfl rfl zq_726 zq_727 zq_728 (zr_ret dX11_on_84) zr_no))))) (zr_ald dX11_on_68 (zr_callV dX11_on_70 zm_X4_wrongOnes ⟨⟨zq_724, zq_76⟩, by decide +kernel, by omega, by decide⟩ rfl rfl zq_721 zq_722 zq_723 (zr_ret dX11_on_73) zr_no)))) zr_no)))) zr_no)) (zs_X11_on_49))))))
def zb_X11_on_0 (E : zj_E) (st : List Value) (m : zj_M) : zj_R := (zi_ild 2 (zi_push (.int 10) (zi_b (fun x y => x - y) (zi_ist 3 (zi_ild 2 (zi_push (.int 20) (zi_b (fun x y => x - y) (zi_ist 4 (zi_ild 2 (zi_eq zb_X11_on_39 (zi_ild 2 (zi_push (.int 1) (zi_ceq zb_X11_on_39 (zi_ald 0 (zi_ild 3 (zi_vc 11 1 zf_X11_isWalker (zi_eq (zi_ald 0 (zi_ild 4 (zi_vc 11 1 zf_X11_isWalker (zi_eq (zi_push (.int (-1)) (zi_ret (some .int))) zb_X11_on_39) zi_no))) zb_X11_on_39) zi_no)))))))))))))))) E st m
set_option maxRecDepth 20000 in
theorem zs_X11_on_0 : zj_KC cX11_on RX11 6 (7) (some .int) (0, fun _ => 0) 0 (zb_X11_on_0) := (zr_ildn dX11_on_0 rfl (zr_bipush dX11_on_1 rfl (zr_isub dX11_on_3 (zr_istn dX11_on_4 rfl (zr_ildn dX11_on_5 rfl (zr_bipush dX11_on_6 rfl (zr_isub dX11_on_8 (zr_ist dX11_on_9 (zr_ildn dX11_on_11 rfl (zr_ifeq dX11_on_12 (tgt := 39) (by decide) (zs_X11_on_39) (zr_ildn dX11_on_15 rfl (zr_iconst dX11_on_16 rfl (zr_iceq dX11_on_17 (tgt := 39) (by decide) (zs_X11_on_39) (zr_aldn dX11_on_20 rfl (zr_ildn dX11_on_21 rfl (zr_callV dX11_on_22 zm_X11_isWalker ⟨⟨zq_597, zq_65⟩, by decide +kernel, by omega, by decide⟩ rfl rfl zq_594 zq_596 zq_13 (zr_ifne dX11_on_25 (tgt := 39) (by decide) (zs_X11_on_39) (zr_aldn dX11_on_28 rfl (zr_ild dX11_on_29 (zr_callV dX11_on_31 zm_X11_isWalker ⟨⟨zq_597, zq_65⟩, by decide +kernel, by omega, by decide⟩ rfl rfl zq_594 zq_596 zq_13 (zr_ifne dX11_on_34 (tgt := 39) (by decide) (zs_X11_on_39) (zr_iconst dX11_on_37 rfl (zr_ret dX11_on_38))) zr_no)))) zr_no))))))))))))))))
def zf_X11_on : zj_F := zj_run 6 zb_X11_on_0
theorem zm_X11_on : zj_MS 7 yX11_on cX11_on 6 (some .int) zf_X11_on := zj_met (own := RX11) rfl (by decide +kernel) (Or.inr (Or.inl rfl)) (zs_X11_on_0)
theorem dX11_strays_0 : decode cX11_strays 0 = .ok (.aload_n 0, 1) := by decide +kernel
theorem dX11_strays_1 : decode cX11_strays 1 = .ok (.iload_n 1, 1) := by decide +kernel
theorem dX11_strays_2 : decode cX11_strays 2 = .ok (.invokevirtual 140, 3) := by decide +kernel
theorem dX11_strays_5 : decode cX11_strays 5 = .ok (.ifCond .ne 5, 3) := by decide +kernel
theorem dX11_strays_8 : decode cX11_strays 8 = .ok (.iconst (-1), 1) := by decide +kernel
theorem dX11_strays_9 : decode cX11_strays 9 = .ok (.ireturn, 1) := by decide +kernel
theorem dX11_strays_10 : decode cX11_strays 10 = .ok (.aload_n 0, 1) := by decide +kernel
theorem dX11_strays_11 : decode cX11_strays 11 = .ok (.invokevirtual 209, 3) := by decide +kernel
theorem dX11_strays_14 : decode cX11_strays 14 = .ok (.astore_n 2, 1) := by decide +kernel
theorem dX11_strays_15 : decode cX11_strays 15 = .ok (.iconst 0, 1) := by decide +kernel
theorem dX11_strays_16 : decode cX11_strays 16 = .ok (.istore_n 3, 1) := by decide +kernel
theorem dX11_strays_17 : decode cX11_strays 17 = .ok (.iload_n 3, 1) := by decide +kernel
theorem dX11_strays_18 : decode cX11_strays 18 = .ok (.bipush 60, 2) := by decide +kernel
theorem dX11_strays_20 : decode cX11_strays 20 = .ok (.if_icmp .gt 24, 3) := by decide +kernel
theorem dX11_strays_23 : decode cX11_strays 23 = .ok (.aload_n 2, 1) := by decide +kernel
theorem dX11_strays_24 : decode cX11_strays 24 = .ok (.iload_n 1, 1) := by decide +kernel
theorem dX11_strays_25 : decode cX11_strays 25 = .ok (.invokevirtual 170, 3) := by decide +kernel
theorem dX11_strays_28 : decode cX11_strays 28 = .ok (.ifCond .eq 5, 3) := by decide +kernel
theorem dX11_strays_31 : decode cX11_strays 31 = .ok (.iload_n 3, 1) := by decide +kernel
theorem dX11_strays_32 : decode cX11_strays 32 = .ok (.ireturn, 1) := by decide +kernel
theorem dX11_strays_33 : decode cX11_strays 33 = .ok (.aload_n 2, 1) := by decide +kernel
theorem dX11_strays_34 : decode cX11_strays 34 = .ok (.iconst 1, 1) := by decide +kernel
theorem dX11_strays_35 : decode cX11_strays 35 = .ok (.invokevirtual 222, 3) := by decide +kernel
theorem dX11_strays_38 : decode cX11_strays 38 = .ok (.iinc 3 1, 3) := by decide +kernel
theorem dX11_strays_41 : decode cX11_strays 41 = .ok (.goto (-24), 3) := by decide +kernel
theorem dX11_strays_44 : decode cX11_strays 44 = .ok (.bipush (-5), 2) := by decide +kernel
theorem dX11_strays_46 : decode cX11_strays 46 = .ok (.ireturn, 1) := by decide +kernel
def zb_X11_strays_17 (r17 : zj_K) (E : zj_E) (st : List Value) (m : zj_M) : zj_R := (zi_ild 3 (zi_push (.int 60) (zi_cle (zi_ald 2 (zi_ild 1 (zi_vc 4 1 zf_X4_isWrong (zi_eq (zi_ald 2 (zi_push (.int 1) (zi_vc 4 1 zf_X4_goOn (zi_inc 3 1 r17) zi_no))) (zi_ild 3 (zi_ret (some .int)))) zi_no))) (zi_push (.int (-5)) (zi_ret (some .int)))))) E st m
set_option maxRecDepth 20000 in
theorem zs_X11_strays_17 {r17 : zj_K} (h17 : zj_KC cX11_strays RX11 4 (7) (some .int) (0, fun _ => 0) 17 r17) : zj_KC cX11_strays RX11 4 (7) (some .int) (0, fun _ => 0) 17 (zb_X11_strays_17 r17) := (zr_ildn dX11_strays_17 rfl (zr_bipush dX11_strays_18 rfl (zr_icgt dX11_strays_20 (tgt := 44) (by decide) (zr_bipush dX11_strays_44 rfl (zr_ret dX11_strays_46)) (zr_aldn dX11_strays_23 rfl (zr_ildn dX11_strays_24 rfl (zr_callV dX11_strays_25 zm_X4_isWrong ⟨⟨zq_614, zq_76⟩, by decide +kernel, by omega, by decide⟩ rfl rfl zq_611 zq_612 zq_613 (zr_ifeq dX11_strays_28 (tgt := 33) (by decide) (zr_aldn dX11_strays_33 rfl (zr_iconst dX11_strays_34 rfl (zr_callV dX11_strays_35 zm_X4_goOn ⟨⟨zq_771, zq_76⟩, by decide +kernel, by omega, by decide⟩ rfl rfl zq_768 zq_769 zq_770 (zr_inc dX11_strays_38 rfl (zr_goto dX11_strays_41 (tgt := 17) (by decide) h17)) zr_no))) (zr_ildn dX11_strays_31 rfl (zr_ret dX11_strays_32))) zr_no))))))
def zb_X11_strays_0 (E : zj_E) (st : List Value) (m : zj_M) : zj_R := (zi_ald 0 (zi_ild 1 (zi_vc 11 1 zf_X11_isWalker (zi_eq (zi_push (.int (-1)) (zi_ret (some .int))) (zi_ald 0 (zi_vc 11 0 zf_X11_startTrial (zi_ast 2 (zi_push (.int 0) (zi_ist 3 (zj_lp (zb_X11_strays_17) zj_fu)))) zi_no))) zi_no))) E st m
set_option maxRecDepth 20000 in
theorem zs_X11_strays_0 : zj_KC cX11_strays RX11 4 (7) (some .int) (0, fun _ => 0) 0 (zb_X11_strays_0) := (zr_aldn dX11_strays_0 rfl (zr_ildn dX11_strays_1 rfl (zr_callV dX11_strays_2 zm_X11_isWalker ⟨⟨zq_597, zq_65⟩, by decide +kernel, by omega, by decide⟩ rfl rfl zq_594 zq_596 zq_13 (zr_ifne dX11_strays_5 (tgt := 10) (by decide) (zr_aldn dX11_strays_10 rfl (zr_callV dX11_strays_11 zm_X11_startTrial ⟨⟨zq_733, zq_65⟩, by decide +kernel, by omega, by decide⟩ rfl rfl zq_730 zq_732 zq_17 (zr_astn dX11_strays_14 rfl (zr_iconst dX11_strays_15 rfl (zr_istn dX11_strays_16 rfl (zr_lp (fun _ h => zs_X11_strays_17 h) zj_fu)))) zr_no)) (zr_iconst dX11_strays_8 rfl (zr_ret dX11_strays_9))) zr_no)))
def zf_X11_strays : zj_F := zj_run 4 zb_X11_strays_0
theorem zm_X11_strays : zj_MS 7 yX11_strays cX11_strays 4 (some .int) zf_X11_strays := zj_met (own := RX11) rfl (by decide +kernel) (Or.inr (Or.inl rfl)) (zs_X11_strays_0)
theorem dX11_meet_0 : decode cX11_meet 0 = .ok (.aload_n 0, 1) := by decide +kernel
theorem dX11_meet_1 : decode cX11_meet 1 = .ok (.iload_n 1, 1) := by decide +kernel
theorem dX11_meet_2 : decode cX11_meet 2 = .ok (.invokevirtual 140, 3) := by decide +kernel
theorem dX11_meet_5 : decode cX11_meet 5 = .ok (.ifCond .eq 11, 3) := by decide +kernel
theorem dX11_meet_8 : decode cX11_meet 8 = .ok (.aload_n 0, 1) := by decide +kernel
theorem dX11_meet_9 : decode cX11_meet 9 = .ok (.iload_n 2, 1) := by decide +kernel
theorem dX11_meet_10 : decode cX11_meet 10 = .ok (.invokevirtual 140, 3) := by decide +kernel
theorem dX11_meet_13 : decode cX11_meet 13 = .ok (.ifCond .ne 5, 3) := by decide +kernel
theorem dX11_meet_16 : decode cX11_meet 16 = .ok (.iconst (-1), 1) := by decide +kernel
theorem dX11_meet_17 : decode cX11_meet 17 = .ok (.ireturn, 1) := by decide +kernel
theorem dX11_meet_18 : decode cX11_meet 18 = .ok (.iload_n 1, 1) := by decide +kernel
theorem dX11_meet_19 : decode cX11_meet 19 = .ok (.iload_n 2, 1) := by decide +kernel
theorem dX11_meet_20 : decode cX11_meet 20 = .ok (.if_icmp .ne 6, 3) := by decide +kernel
theorem dX11_meet_23 : decode cX11_meet 23 = .ok (.bipush (-2), 2) := by decide +kernel
theorem dX11_meet_25 : decode cX11_meet 25 = .ok (.ireturn, 1) := by decide +kernel
theorem dX11_meet_26 : decode cX11_meet 26 = .ok (.aload_n 0, 1) := by decide +kernel
theorem dX11_meet_27 : decode cX11_meet 27 = .ok (.invokevirtual 209, 3) := by decide +kernel
theorem dX11_meet_30 : decode cX11_meet 30 = .ok (.astore_n 3, 1) := by decide +kernel
theorem dX11_meet_31 : decode cX11_meet 31 = .ok (.iconst 0, 1) := by decide +kernel
theorem dX11_meet_32 : decode cX11_meet 32 = .ok (.istore 4, 2) := by decide +kernel
theorem dX11_meet_34 : decode cX11_meet 34 = .ok (.iload 4, 2) := by decide +kernel
theorem dX11_meet_36 : decode cX11_meet 36 = .ok (.bipush 60, 2) := by decide +kernel
theorem dX11_meet_38 : decode cX11_meet 38 = .ok (.if_icmp .gt 47, 3) := by decide +kernel
theorem dX11_meet_41 : decode cX11_meet 41 = .ok (.aload_n 3, 1) := by decide +kernel
theorem dX11_meet_42 : decode cX11_meet 42 = .ok (.getfield 154, 3) := by decide +kernel
theorem dX11_meet_45 : decode cX11_meet 45 = .ok (.iload_n 1, 1) := by decide +kernel
theorem dX11_meet_46 : decode cX11_meet 46 = .ok (.iaload, 1) := by decide +kernel
theorem dX11_meet_47 : decode cX11_meet 47 = .ok (.aload_n 3, 1) := by decide +kernel
theorem dX11_meet_48 : decode cX11_meet 48 = .ok (.getfield 154, 3) := by decide +kernel
theorem dX11_meet_51 : decode cX11_meet 51 = .ok (.iload_n 2, 1) := by decide +kernel
theorem dX11_meet_52 : decode cX11_meet 52 = .ok (.iaload, 1) := by decide +kernel
theorem dX11_meet_53 : decode cX11_meet 53 = .ok (.if_icmp .ne 21, 3) := by decide +kernel
theorem dX11_meet_56 : decode cX11_meet 56 = .ok (.aload_n 3, 1) := by decide +kernel
theorem dX11_meet_57 : decode cX11_meet 57 = .ok (.getfield 157, 3) := by decide +kernel
theorem dX11_meet_60 : decode cX11_meet 60 = .ok (.iload_n 1, 1) := by decide +kernel
theorem dX11_meet_61 : decode cX11_meet 61 = .ok (.iaload, 1) := by decide +kernel
theorem dX11_meet_62 : decode cX11_meet 62 = .ok (.aload_n 3, 1) := by decide +kernel
theorem dX11_meet_63 : decode cX11_meet 63 = .ok (.getfield 157, 3) := by decide +kernel
theorem dX11_meet_66 : decode cX11_meet 66 = .ok (.iload_n 2, 1) := by decide +kernel
theorem dX11_meet_67 : decode cX11_meet 67 = .ok (.iaload, 1) := by decide +kernel
theorem dX11_meet_68 : decode cX11_meet 68 = .ok (.if_icmp .ne 6, 3) := by decide +kernel
theorem dX11_meet_71 : decode cX11_meet 71 = .ok (.iload 4, 2) := by decide +kernel
theorem dX11_meet_73 : decode cX11_meet 73 = .ok (.ireturn, 1) := by decide +kernel
theorem dX11_meet_74 : decode cX11_meet 74 = .ok (.aload_n 3, 1) := by decide +kernel
theorem dX11_meet_75 : decode cX11_meet 75 = .ok (.iconst 1, 1) := by decide +kernel
theorem dX11_meet_76 : decode cX11_meet 76 = .ok (.invokevirtual 222, 3) := by decide +kernel
theorem dX11_meet_79 : decode cX11_meet 79 = .ok (.iinc 4 1, 3) := by decide +kernel
theorem dX11_meet_82 : decode cX11_meet 82 = .ok (.goto (-48), 3) := by decide +kernel
theorem dX11_meet_85 : decode cX11_meet 85 = .ok (.bipush (-5), 2) := by decide +kernel
theorem dX11_meet_87 : decode cX11_meet 87 = .ok (.ireturn, 1) := by decide +kernel
def zb_X11_meet_16 (E : zj_E) (st : List Value) (m : zj_M) : zj_R := (zi_push (.int (-1)) (zi_ret (some .int))) E st m
set_option maxRecDepth 20000 in
theorem zs_X11_meet_16 : zj_KC cX11_meet RX11 5 (7) (some .int) (0, fun _ => 0) 16 (zb_X11_meet_16) := (zr_iconst dX11_meet_16 rfl (zr_ret dX11_meet_17))
def zb_X11_meet_74 (r34 : zj_K) (E : zj_E) (st : List Value) (m : zj_M) : zj_R := (zi_ald 3 (zi_push (.int 1) (zi_vc 4 1 zf_X4_goOn (zi_inc 4 1 r34) zi_no))) E st m
set_option maxRecDepth 20000 in
theorem zs_X11_meet_74 {r34 : zj_K} (h34 : zj_KC cX11_meet RX11 5 (7) (some .int) (0, fun _ => 0) 34 r34) : zj_KC cX11_meet RX11 5 (7) (some .int) (0, fun _ => 0) 74 (zb_X11_meet_74 r34) := (zr_aldn dX11_meet_74 rfl (zr_iconst dX11_meet_75 rfl (zr_callV dX11_meet_76 zm_X4_goOn ⟨⟨zq_771, zq_76⟩, by decide +kernel, by omega, by decide⟩ rfl rfl zq_768 zq_769 zq_770 (zr_inc dX11_meet_79 rfl (zr_goto dX11_meet_82 (tgt := 34) (by decide) h34)) zr_no)))
def zb_X11_meet_34 (r34 : zj_K) (E : zj_E) (st : List Value) (m : zj_M) : zj_R := (zi_ild 4 (zi_push (.int 60) (zi_cle (zi_ald 3 (zi_gf 4 3 (zi_ild 1 (zi_iald (zi_ald 3 (zi_gf 4 3 (zi_ild 2 (zi_iald (zi_ceq (zi_ald 3 (zi_gf 4 4 (zi_ild 1 (zi_iald (zi_ald 3 (zi_gf 4 4 (zi_ild 2 (zi_iald (zi_ceq (zi_ild 4 (zi_ret (some .int))) (zb_X11_meet_74 r34)))))))))) (zb_X11_meet_74 r34)))))))))) (zi_push (.int (-5)) (zi_ret (some .int)))))) E st m
set_option maxRecDepth 20000 in
theorem zs_X11_meet_34 {r34 : zj_K} (h34 : zj_KC cX11_meet RX11 5 (7) (some .int) (0, fun _ => 0) 34 r34) : zj_KC cX11_meet RX11 5 (7) (some .int) (0, fun _ => 0) 34 (zb_X11_meet_34 r34) := (zr_ild dX11_meet_34 (zr_bipush dX11_meet_36 rfl (zr_icgt dX11_meet_38 (tgt := 85) (by decide) (zr_bipush dX11_meet_85 rfl (zr_ret dX11_meet_87)) (zr_aldn dX11_meet_41 rfl (zr_gf dX11_meet_42 zfl_X11_154_4 (zr_ildn dX11_meet_45 rfl (zr_iald dX11_meet_46 (zr_aldn dX11_meet_47 rfl (zr_gf dX11_meet_48 zfl_X11_154_4 (zr_ildn dX11_meet_51 rfl (zr_iald dX11_meet_52 (zr_icne dX11_meet_53 (tgt := 74) (by decide) (zs_X11_meet_74 h34) (zr_aldn dX11_meet_56 rfl (zr_gf dX11_meet_57 zfl_X11_157_4 (zr_ildn dX11_meet_60 rfl (zr_iald dX11_meet_61 (zr_aldn dX11_meet_62 rfl (zr_gf dX11_meet_63 zfl_X11_157_4 (zr_ildn dX11_meet_66 rfl (zr_iald dX11_meet_67 (zr_icne dX11_meet_68 (tgt := 74) (by decide) (zs_X11_meet_74 h34) (zr_ild dX11_meet_71 (zr_ret dX11_meet_73)))))))))))))))))))))))
def zb_X11_meet_0 (E : zj_E) (st : List Value) (m : zj_M) : zj_R := (zi_ald 0 (zi_ild 1 (zi_vc 11 1 zf_X11_isWalker (zi_eq zb_X11_meet_16 (zi_ald 0 (zi_ild 2 (zi_vc 11 1 zf_X11_isWalker (zi_eq zb_X11_meet_16 (zi_ild 1 (zi_ild 2 (zi_ceq (zi_push (.int (-2)) (zi_ret (some .int))) (zi_ald 0 (zi_vc 11 0 zf_X11_startTrial (zi_ast 3 (zi_push (.int 0) (zi_ist 4 (zj_lp (zb_X11_meet_34) zj_fu)))) zi_no)))))) zi_no)))) zi_no))) E st m
set_option maxRecDepth 20000 in
theorem zs_X11_meet_0 : zj_KC cX11_meet RX11 5 (7) (some .int) (0, fun _ => 0) 0 (zb_X11_meet_0) := (zr_aldn dX11_meet_0 rfl (zr_ildn dX11_meet_1 rfl (zr_callV dX11_meet_2 zm_X11_isWalker ⟨⟨zq_597, zq_65⟩, by decide +kernel, by omega, by decide⟩ rfl rfl zq_594 zq_596 zq_13 (zr_ifeq dX11_meet_5 (tgt := 16) (by decide) (zs_X11_meet_16) (zr_aldn dX11_meet_8 rfl (zr_ildn dX11_meet_9 rfl (zr_callV dX11_meet_10 zm_X11_isWalker ⟨⟨zq_597, zq_65⟩, by decide +kernel, by omega, by decide⟩ rfl rfl zq_594 zq_596 zq_13 (zr_ifne dX11_meet_13 (tgt := 18) (by decide) (zr_ildn dX11_meet_18 rfl (zr_ildn dX11_meet_19 rfl (zr_icne dX11_meet_20 (tgt := 26) (by decide) (zr_aldn dX11_meet_26 rfl (zr_callV dX11_meet_27 zm_X11_startTrial ⟨⟨zq_733, zq_65⟩, by decide +kernel, by omega, by decide⟩ rfl rfl zq_730 zq_732 zq_17 (zr_astn dX11_meet_30 rfl (zr_iconst dX11_meet_31 rfl (zr_ist dX11_meet_32 (zr_lp (fun _ h => zs_X11_meet_34 h) zj_fu)))) zr_no)) (zr_bipush dX11_meet_23 rfl (zr_ret dX11_meet_25))))) (zs_X11_meet_16)) zr_no)))) zr_no)))
def zf_X11_meet : zj_F := zj_run 5 zb_X11_meet_0
theorem zm_X11_meet : zj_MS 7 yX11_meet cX11_meet 5 (some .int) zf_X11_meet := zj_met (own := RX11) rfl (by decide +kernel) (Or.inr (Or.inl rfl)) (zs_X11_meet_0)
theorem dJ6_bitCount_0f7a4_0 : decode cJ6_bitCount_0f7a4 0 = .ok (.iload_n 0, 1) := by decide +kernel
theorem dJ6_bitCount_0f7a4_1 : decode cJ6_bitCount_0f7a4 1 = .ok (.iload_n 0, 1) := by decide +kernel
theorem dJ6_bitCount_0f7a4_2 : decode cJ6_bitCount_0f7a4 2 = .ok (.iconst 1, 1) := by decide +kernel
theorem dJ6_bitCount_0f7a4_3 : decode cJ6_bitCount_0f7a4 3 = .ok (.iushr, 1) := by decide +kernel
theorem dJ6_bitCount_0f7a4_4 : decode cJ6_bitCount_0f7a4 4 = .ok (.ldc_w 265, 3) := by decide +kernel
theorem dJ6_bitCount_0f7a4_7 : decode cJ6_bitCount_0f7a4 7 = .ok (.iand, 1) := by decide +kernel
theorem dJ6_bitCount_0f7a4_8 : decode cJ6_bitCount_0f7a4 8 = .ok (.isub, 1) := by decide +kernel
theorem dJ6_bitCount_0f7a4_9 : decode cJ6_bitCount_0f7a4 9 = .ok (.istore_n 0, 1) := by decide +kernel
theorem dJ6_bitCount_0f7a4_10 : decode cJ6_bitCount_0f7a4 10 = .ok (.iload_n 0, 1) := by decide +kernel
theorem dJ6_bitCount_0f7a4_11 : decode cJ6_bitCount_0f7a4 11 = .ok (.ldc_w 266, 3) := by decide +kernel
theorem dJ6_bitCount_0f7a4_14 : decode cJ6_bitCount_0f7a4 14 = .ok (.iand, 1) := by decide +kernel
theorem dJ6_bitCount_0f7a4_15 : decode cJ6_bitCount_0f7a4 15 = .ok (.iload_n 0, 1) := by decide +kernel
theorem dJ6_bitCount_0f7a4_16 : decode cJ6_bitCount_0f7a4 16 = .ok (.iconst 2, 1) := by decide +kernel
theorem dJ6_bitCount_0f7a4_17 : decode cJ6_bitCount_0f7a4 17 = .ok (.iushr, 1) := by decide +kernel
theorem dJ6_bitCount_0f7a4_18 : decode cJ6_bitCount_0f7a4 18 = .ok (.ldc_w 266, 3) := by decide +kernel
theorem dJ6_bitCount_0f7a4_21 : decode cJ6_bitCount_0f7a4 21 = .ok (.iand, 1) := by decide +kernel
theorem dJ6_bitCount_0f7a4_22 : decode cJ6_bitCount_0f7a4 22 = .ok (.iadd, 1) := by decide +kernel
theorem dJ6_bitCount_0f7a4_23 : decode cJ6_bitCount_0f7a4 23 = .ok (.istore_n 0, 1) := by decide +kernel
theorem dJ6_bitCount_0f7a4_24 : decode cJ6_bitCount_0f7a4 24 = .ok (.iload_n 0, 1) := by decide +kernel
theorem dJ6_bitCount_0f7a4_25 : decode cJ6_bitCount_0f7a4 25 = .ok (.iload_n 0, 1) := by decide +kernel
theorem dJ6_bitCount_0f7a4_26 : decode cJ6_bitCount_0f7a4 26 = .ok (.iconst 4, 1) := by decide +kernel
theorem dJ6_bitCount_0f7a4_27 : decode cJ6_bitCount_0f7a4 27 = .ok (.iushr, 1) := by decide +kernel
theorem dJ6_bitCount_0f7a4_28 : decode cJ6_bitCount_0f7a4 28 = .ok (.iadd, 1) := by decide +kernel
theorem dJ6_bitCount_0f7a4_29 : decode cJ6_bitCount_0f7a4 29 = .ok (.ldc_w 267, 3) := by decide +kernel
theorem dJ6_bitCount_0f7a4_32 : decode cJ6_bitCount_0f7a4 32 = .ok (.iand, 1) := by decide +kernel
theorem dJ6_bitCount_0f7a4_33 : decode cJ6_bitCount_0f7a4 33 = .ok (.istore_n 0, 1) := by decide +kernel
theorem dJ6_bitCount_0f7a4_34 : decode cJ6_bitCount_0f7a4 34 = .ok (.iload_n 0, 1) := by decide +kernel
theorem dJ6_bitCount_0f7a4_35 : decode cJ6_bitCount_0f7a4 35 = .ok (.iload_n 0, 1) := by decide +kernel
theorem dJ6_bitCount_0f7a4_36 : decode cJ6_bitCount_0f7a4 36 = .ok (.bipush 8, 2) := by decide +kernel
theorem dJ6_bitCount_0f7a4_38 : decode cJ6_bitCount_0f7a4 38 = .ok (.iushr, 1) := by decide +kernel
theorem dJ6_bitCount_0f7a4_39 : decode cJ6_bitCount_0f7a4 39 = .ok (.iadd, 1) := by decide +kernel
theorem dJ6_bitCount_0f7a4_40 : decode cJ6_bitCount_0f7a4 40 = .ok (.istore_n 0, 1) := by decide +kernel
theorem dJ6_bitCount_0f7a4_41 : decode cJ6_bitCount_0f7a4 41 = .ok (.iload_n 0, 1) := by decide +kernel
theorem dJ6_bitCount_0f7a4_42 : decode cJ6_bitCount_0f7a4 42 = .ok (.iload_n 0, 1) := by decide +kernel
theorem dJ6_bitCount_0f7a4_43 : decode cJ6_bitCount_0f7a4 43 = .ok (.bipush 16, 2) := by decide +kernel
theorem dJ6_bitCount_0f7a4_45 : decode cJ6_bitCount_0f7a4 45 = .ok (.iushr, 1) := by decide +kernel
theorem dJ6_bitCount_0f7a4_46 : decode cJ6_bitCount_0f7a4 46 = .ok (.iadd, 1) := by decide +kernel
theorem dJ6_bitCount_0f7a4_47 : decode cJ6_bitCount_0f7a4 47 = .ok (.istore_n 0, 1) := by decide +kernel
theorem dJ6_bitCount_0f7a4_48 : decode cJ6_bitCount_0f7a4 48 = .ok (.iload_n 0, 1) := by decide +kernel
theorem dJ6_bitCount_0f7a4_49 : decode cJ6_bitCount_0f7a4 49 = .ok (.bipush 63, 2) := by decide +kernel
theorem dJ6_bitCount_0f7a4_51 : decode cJ6_bitCount_0f7a4 51 = .ok (.iand, 1) := by decide +kernel
theorem dJ6_bitCount_0f7a4_52 : decode cJ6_bitCount_0f7a4 52 = .ok (.ireturn, 1) := by decide +kernel
def zb_J6_bitCount_0f7a4_0 (E : zj_E) (st : List Value) (m : zj_M) : zj_R := (zi_ild 0 (zi_ild 0 (zi_push (.int 1) (zi_b (fun x y => (x.toUInt32 >>> (y.toUInt32 &&& Int32.toUInt32 31)).toInt32) (zi_push (.int 1431655765) (zi_b (fun x y => x &&& y) (zi_b (fun x y => x - y) (zi_ist 0 (zi_ild 0 (zi_push (.int 858993459) (zi_b (fun x y => x &&& y) (zi_ild 0 (zi_push (.int 2) (zi_b (fun x y => (x.toUInt32 >>> (y.toUInt32 &&& Int32.toUInt32 31)).toInt32) (zi_push (.int 858993459) (zi_b (fun x y => x &&& y) (zi_b (fun x y => x + y) (zi_ist 0 (zi_ild 0 (zi_ild 0 (zi_push (.int 4) (zi_b (fun x y => (x.toUInt32 >>> (y.toUInt32 &&& Int32.toUInt32 31)).toInt32) (zi_b (fun x y => x + y) (zi_push (.int 252645135) (zi_b (fun x y => x &&& y) (zi_ist 0 (zi_ild 0 (zi_ild 0 (zi_push (.int 8) (zi_b (fun x y => (x.toUInt32 >>> (y.toUInt32 &&& Int32.toUInt32 31)).toInt32) (zi_b (fun x y => x + y) (zi_ist 0 (zi_ild 0 (zi_ild 0 (zi_push (.int 16) (zi_b (fun x y => (x.toUInt32 >>> (y.toUInt32 &&& Int32.toUInt32 31)).toInt32) (zi_b (fun x y => x + y) (zi_ist 0 (zi_ild 0 (zi_push (.int 63) (zi_b (fun x y => x &&& y) (zi_ret (some .int))))))))))))))))))))))))))))))))))))))))))) E st m
set_option maxRecDepth 20000 in
theorem zs_J6_bitCount_0f7a4_0 : zj_KC cJ6_bitCount_0f7a4 RJ6 1 (0) (some .int) (0, fun _ => 0) 0 (zb_J6_bitCount_0f7a4_0) := (zr_ildn dJ6_bitCount_0f7a4_0 rfl (zr_ildn dJ6_bitCount_0f7a4_1 rfl (zr_iconst dJ6_bitCount_0f7a4_2 rfl (zr_iushr dJ6_bitCount_0f7a4_3 (zr_ldcw dJ6_bitCount_0f7a4_4 zq_795 (zr_iand dJ6_bitCount_0f7a4_7 (zr_isub dJ6_bitCount_0f7a4_8 (zr_istn dJ6_bitCount_0f7a4_9 rfl (zr_ildn dJ6_bitCount_0f7a4_10 rfl (zr_ldcw dJ6_bitCount_0f7a4_11 zq_796 (zr_iand dJ6_bitCount_0f7a4_14 (zr_ildn dJ6_bitCount_0f7a4_15 rfl (zr_iconst dJ6_bitCount_0f7a4_16 rfl (zr_iushr dJ6_bitCount_0f7a4_17 (zr_ldcw dJ6_bitCount_0f7a4_18 zq_796 (zr_iand dJ6_bitCount_0f7a4_21 (zr_iadd dJ6_bitCount_0f7a4_22 (zr_istn dJ6_bitCount_0f7a4_23 rfl (zr_ildn dJ6_bitCount_0f7a4_24 rfl (zr_ildn dJ6_bitCount_0f7a4_25 rfl (zr_iconst dJ6_bitCount_0f7a4_26 rfl (zr_iushr dJ6_bitCount_0f7a4_27 (zr_iadd dJ6_bitCount_0f7a4_28 (zr_ldcw dJ6_bitCount_0f7a4_29 zq_797 (zr_iand dJ6_bitCount_0f7a4_32 (zr_istn dJ6_bitCount_0f7a4_33 rfl (zr_ildn dJ6_bitCount_0f7a4_34 rfl (zr_ildn dJ6_bitCount_0f7a4_35 rfl (zr_bipush dJ6_bitCount_0f7a4_36 rfl (zr_iushr dJ6_bitCount_0f7a4_38 (zr_iadd dJ6_bitCount_0f7a4_39 (zr_istn dJ6_bitCount_0f7a4_40 rfl (zr_ildn dJ6_bitCount_0f7a4_41 rfl (zr_ildn dJ6_bitCount_0f7a4_42 rfl (zr_bipush dJ6_bitCount_0f7a4_43 rfl (zr_iushr dJ6_bitCount_0f7a4_45 (zr_iadd dJ6_bitCount_0f7a4_46 (zr_istn dJ6_bitCount_0f7a4_47 rfl (zr_ildn dJ6_bitCount_0f7a4_48 rfl (zr_bipush dJ6_bitCount_0f7a4_49 rfl (zr_iand dJ6_bitCount_0f7a4_51 (zr_ret dJ6_bitCount_0f7a4_52))))))))))))))))))))))))))))))))))))))))))
def zf_J6_bitCount_0f7a4 : zj_F := zj_run 1 zb_J6_bitCount_0f7a4_0
theorem zm_J6_bitCount_0f7a4 : zj_MS 0 yJ6_bitCount_0f7a4 cJ6_bitCount_0f7a4 1 (some .int) zf_J6_bitCount_0f7a4 := zj_met (own := RJ6) rfl (by decide +kernel) (Or.inr (Or.inl rfl)) (zs_J6_bitCount_0f7a4_0)
theorem dX11_nextSet_0 : decode cX11_nextSet 0 = .ok (.iload_n 0, 1) := by decide +kernel
theorem dX11_nextSet_1 : decode cX11_nextSet 1 = .ok (.ifCond .ne 7, 3) := by decide +kernel
theorem dX11_nextSet_4 : decode cX11_nextSet 4 = .ok (.ldc_w 272, 3) := by decide +kernel
theorem dX11_nextSet_7 : decode cX11_nextSet 7 = .ok (.ireturn, 1) := by decide +kernel
theorem dX11_nextSet_8 : decode cX11_nextSet 8 = .ok (.iload_n 0, 1) := by decide +kernel
theorem dX11_nextSet_9 : decode cX11_nextSet 9 = .ok (.iload_n 0, 1) := by decide +kernel
theorem dX11_nextSet_10 : decode cX11_nextSet 10 = .ok (.ineg, 1) := by decide +kernel
theorem dX11_nextSet_11 : decode cX11_nextSet 11 = .ok (.iand, 1) := by decide +kernel
theorem dX11_nextSet_12 : decode cX11_nextSet 12 = .ok (.istore_n 1, 1) := by decide +kernel
theorem dX11_nextSet_13 : decode cX11_nextSet 13 = .ok (.iload_n 0, 1) := by decide +kernel
theorem dX11_nextSet_14 : decode cX11_nextSet 14 = .ok (.iload_n 1, 1) := by decide +kernel
theorem dX11_nextSet_15 : decode cX11_nextSet 15 = .ok (.iadd, 1) := by decide +kernel
theorem dX11_nextSet_16 : decode cX11_nextSet 16 = .ok (.istore_n 2, 1) := by decide +kernel
theorem dX11_nextSet_17 : decode cX11_nextSet 17 = .ok (.iload_n 2, 1) := by decide +kernel
theorem dX11_nextSet_18 : decode cX11_nextSet 18 = .ok (.iload_n 2, 1) := by decide +kernel
theorem dX11_nextSet_19 : decode cX11_nextSet 19 = .ok (.iload_n 0, 1) := by decide +kernel
theorem dX11_nextSet_20 : decode cX11_nextSet 20 = .ok (.ixor, 1) := by decide +kernel
theorem dX11_nextSet_21 : decode cX11_nextSet 21 = .ok (.iconst 2, 1) := by decide +kernel
theorem dX11_nextSet_22 : decode cX11_nextSet 22 = .ok (.iushr, 1) := by decide +kernel
theorem dX11_nextSet_23 : decode cX11_nextSet 23 = .ok (.iload_n 1, 1) := by decide +kernel
theorem dX11_nextSet_24 : decode cX11_nextSet 24 = .ok (.iconst 1, 1) := by decide +kernel
theorem dX11_nextSet_25 : decode cX11_nextSet 25 = .ok (.isub, 1) := by decide +kernel
theorem dX11_nextSet_26 : decode cX11_nextSet 26 = .ok (.invokestatic 273, 3) := by decide +kernel
theorem dX11_nextSet_29 : decode cX11_nextSet 29 = .ok (.iushr, 1) := by decide +kernel
theorem dX11_nextSet_30 : decode cX11_nextSet 30 = .ok (.ior, 1) := by decide +kernel
theorem dX11_nextSet_31 : decode cX11_nextSet 31 = .ok (.ireturn, 1) := by decide +kernel
def zb_X11_nextSet_0 (E : zj_E) (st : List Value) (m : zj_M) : zj_R := (zi_ild 0 (zi_eq (zi_push (.int 65536) (zi_ret (some .int))) (zi_ild 0 (zi_ild 0 (zi_u (fun x => -x) (zi_b (fun x y => x &&& y) (zi_ist 1 (zi_ild 0 (zi_ild 1 (zi_b (fun x y => x + y) (zi_ist 2 (zi_ild 2 (zi_ild 2 (zi_ild 0 (zi_b (fun x y => x ^^^ y) (zi_push (.int 2) (zi_b (fun x y => (x.toUInt32 >>> (y.toUInt32 &&& Int32.toUInt32 31)).toInt32) (zi_ild 1 (zi_push (.int 1) (zi_b (fun x y => x - y) (zi_call 1 zf_J6_bitCount_0f7a4 (zi_b (fun x y => (x.toUInt32 >>> (y.toUInt32 &&& Int32.toUInt32 31)).toInt32) (zi_b (fun x y => x ||| y) (zi_ret (some .int))))))))))))))))))))))))) E st m
set_option maxRecDepth 20000 in
theorem zs_X11_nextSet_0 : zj_KC cX11_nextSet RX11 3 (1) (some .int) (0, fun _ => 0) 0 (zb_X11_nextSet_0) := (zr_ildn dX11_nextSet_0 rfl (zr_ifne dX11_nextSet_1 (tgt := 8) (by decide) (zr_ildn dX11_nextSet_8 rfl (zr_ildn dX11_nextSet_9 rfl (zr_ineg dX11_nextSet_10 (zr_iand dX11_nextSet_11 (zr_istn dX11_nextSet_12 rfl (zr_ildn dX11_nextSet_13 rfl (zr_ildn dX11_nextSet_14 rfl (zr_iadd dX11_nextSet_15 (zr_istn dX11_nextSet_16 rfl (zr_ildn dX11_nextSet_17 rfl (zr_ildn dX11_nextSet_18 rfl (zr_ildn dX11_nextSet_19 rfl (zr_ixor dX11_nextSet_20 (zr_iconst dX11_nextSet_21 rfl (zr_iushr dX11_nextSet_22 (zr_ildn dX11_nextSet_23 rfl (zr_iconst dX11_nextSet_24 rfl (zr_isub dX11_nextSet_25 (zr_callS dX11_nextSet_26 zm_J6_bitCount_0f7a4 ⟨⟨zq_794, zq_85⟩, by decide +kernel, by omega, by decide⟩ zq_792 zq_793 (zr_iushr dX11_nextSet_29 (zr_ior dX11_nextSet_30 (zr_ret dX11_nextSet_31)))))))))))))))))))))) (zr_ldcw dX11_nextSet_4 zq_791 (zr_ret dX11_nextSet_7))))
def zf_X11_nextSet : zj_F := zj_run 3 zb_X11_nextSet_0
theorem zm_X11_nextSet : zj_MS 1 yX11_nextSet cX11_nextSet 3 (some .int) zf_X11_nextSet := zj_met (own := RX11) rfl (by decide +kernel) (Or.inr (Or.inl rfl)) (zs_X11_nextSet_0)
theorem dX11_posts_0 : decode cX11_posts 0 = .ok (.iload_n 2, 1) := by decide +kernel
theorem dX11_posts_1 : decode cX11_posts 1 = .ok (.ifCond .eq 10, 3) := by decide +kernel
theorem dX11_posts_4 : decode cX11_posts 4 = .ok (.iload_n 2, 1) := by decide +kernel
theorem dX11_posts_5 : decode cX11_posts 5 = .ok (.iconst 1, 1) := by decide +kernel
theorem dX11_posts_6 : decode cX11_posts 6 = .ok (.if_icmp .eq 5, 3) := by decide +kernel
theorem dX11_posts_9 : decode cX11_posts 9 = .ok (.iconst (-1), 1) := by decide +kernel
theorem dX11_posts_10 : decode cX11_posts 10 = .ok (.ireturn, 1) := by decide +kernel
theorem dX11_posts_11 : decode cX11_posts 11 = .ok (.iload_n 1, 1) := by decide +kernel
theorem dX11_posts_12 : decode cX11_posts 12 = .ok (.ifCond .lt 8, 3) := by decide +kernel
theorem dX11_posts_15 : decode cX11_posts 15 = .ok (.iload_n 1, 1) := by decide +kernel
theorem dX11_posts_16 : decode cX11_posts 16 = .ok (.iconst 3, 1) := by decide +kernel
theorem dX11_posts_17 : decode cX11_posts 17 = .ok (.if_icmp .le 6, 3) := by decide +kernel
theorem dX11_posts_20 : decode cX11_posts 20 = .ok (.bipush (-2), 2) := by decide +kernel
theorem dX11_posts_22 : decode cX11_posts 22 = .ok (.ireturn, 1) := by decide +kernel
theorem dX11_posts_23 : decode cX11_posts 23 = .ok (.ldc 70, 2) := by decide +kernel
theorem dX11_posts_25 : decode cX11_posts 25 = .ok (.istore_n 3, 1) := by decide +kernel
theorem dX11_posts_26 : decode cX11_posts 26 = .ok (.iconst 0, 1) := by decide +kernel
theorem dX11_posts_27 : decode cX11_posts 27 = .ok (.istore 4, 2) := by decide +kernel
theorem dX11_posts_29 : decode cX11_posts 29 = .ok (.iconst 1, 1) := by decide +kernel
theorem dX11_posts_30 : decode cX11_posts 30 = .ok (.iload_n 1, 1) := by decide +kernel
theorem dX11_posts_31 : decode cX11_posts 31 = .ok (.ishl, 1) := by decide +kernel
theorem dX11_posts_32 : decode cX11_posts 32 = .ok (.iconst 1, 1) := by decide +kernel
theorem dX11_posts_33 : decode cX11_posts 33 = .ok (.isub, 1) := by decide +kernel
theorem dX11_posts_34 : decode cX11_posts 34 = .ok (.istore 5, 2) := by decide +kernel
theorem dX11_posts_36 : decode cX11_posts 36 = .ok (.iconst 0, 1) := by decide +kernel
theorem dX11_posts_37 : decode cX11_posts 37 = .ok (.istore 6, 2) := by decide +kernel
theorem dX11_posts_39 : decode cX11_posts 39 = .ok (.iload 6, 2) := by decide +kernel
theorem dX11_posts_41 : decode cX11_posts 41 = .ok (.sipush 560, 3) := by decide +kernel
theorem dX11_posts_44 : decode cX11_posts 44 = .ok (.if_icmp .ge 61, 3) := by decide +kernel
theorem dX11_posts_47 : decode cX11_posts 47 = .ok (.iload 5, 2) := by decide +kernel
theorem dX11_posts_49 : decode cX11_posts 49 = .ok (.ldc 123, 2) := by decide +kernel
theorem dX11_posts_51 : decode cX11_posts 51 = .ok (.if_icmp .gt 54, 3) := by decide +kernel
theorem dX11_posts_54 : decode cX11_posts 54 = .ok (.iload_n 3, 1) := by decide +kernel
theorem dX11_posts_55 : decode cX11_posts 55 = .ok (.ifCond .le 50, 3) := by decide +kernel
theorem dX11_posts_58 : decode cX11_posts 58 = .ok (.aload_n 0, 1) := by decide +kernel
theorem dX11_posts_59 : decode cX11_posts 59 = .ok (.invokevirtual 209, 3) := by decide +kernel
theorem dX11_posts_62 : decode cX11_posts 62 = .ok (.astore 7, 2) := by decide +kernel
theorem dX11_posts_64 : decode cX11_posts 64 = .ok (.aload 7, 2) := by decide +kernel
theorem dX11_posts_66 : decode cX11_posts 66 = .ok (.iload 5, 2) := by decide +kernel
theorem dX11_posts_68 : decode cX11_posts 68 = .ok (.putfield 131, 3) := by decide +kernel
theorem dX11_posts_71 : decode cX11_posts 71 = .ok (.aload 7, 2) := by decide +kernel
theorem dX11_posts_73 : decode cX11_posts 73 = .ok (.iload_n 3, 1) := by decide +kernel
theorem dX11_posts_74 : decode cX11_posts 74 = .ok (.invokevirtual 213, 3) := by decide +kernel
theorem dX11_posts_77 : decode cX11_posts 77 = .ok (.istore 8, 2) := by decide +kernel
theorem dX11_posts_79 : decode cX11_posts 79 = .ok (.iload 8, 2) := by decide +kernel
theorem dX11_posts_81 : decode cX11_posts 81 = .ok (.iload_n 3, 1) := by decide +kernel
theorem dX11_posts_82 : decode cX11_posts 82 = .ok (.if_icmp .ge 10, 3) := by decide +kernel
theorem dX11_posts_85 : decode cX11_posts 85 = .ok (.iload 8, 2) := by decide +kernel
theorem dX11_posts_87 : decode cX11_posts 87 = .ok (.istore_n 3, 1) := by decide +kernel
theorem dX11_posts_88 : decode cX11_posts 88 = .ok (.iload 5, 2) := by decide +kernel
theorem dX11_posts_90 : decode cX11_posts 90 = .ok (.istore 4, 2) := by decide +kernel
theorem dX11_posts_92 : decode cX11_posts 92 = .ok (.iload 5, 2) := by decide +kernel
theorem dX11_posts_94 : decode cX11_posts 94 = .ok (.invokestatic 225, 3) := by decide +kernel
theorem dX11_posts_97 : decode cX11_posts 97 = .ok (.istore 5, 2) := by decide +kernel
theorem dX11_posts_99 : decode cX11_posts 99 = .ok (.iinc 6 1, 3) := by decide +kernel
theorem dX11_posts_102 : decode cX11_posts 102 = .ok (.goto (-63), 3) := by decide +kernel
theorem dX11_posts_105 : decode cX11_posts 105 = .ok (.iload_n 2, 1) := by decide +kernel
theorem dX11_posts_106 : decode cX11_posts 106 = .ok (.ifCond .ne 8, 3) := by decide +kernel
theorem dX11_posts_109 : decode cX11_posts 109 = .ok (.iload 4, 2) := by decide +kernel
theorem dX11_posts_111 : decode cX11_posts 111 = .ok (.goto 4, 3) := by decide +kernel
theorem dX11_posts_114 : decode cX11_posts 114 = .ok (.iload_n 3, 1) := by decide +kernel
theorem dX11_posts_115 : decode cX11_posts 115 = .ok (.ireturn, 1) := by decide +kernel
def zb_X11_posts_20 (E : zj_E) (st : List Value) (m : zj_M) : zj_R := (zi_push (.int (-2)) (zi_ret (some .int))) E st m
set_option maxRecDepth 20000 in
theorem zs_X11_posts_20 : zj_KC cX11_posts RX11 9 (7) (some .int) (0, fun _ => 0) 20 (zb_X11_posts_20) := (zr_bipush dX11_posts_20 rfl (zr_ret dX11_posts_22))
def zb_X11_posts_115 (E : zj_E) (st : List Value) (m : zj_M) : zj_R := (zi_ret (some .int)) E st m
set_option maxRecDepth 20000 in
theorem zs_X11_posts_115 : zj_KC cX11_posts RX11 9 (7) (some .int) (0, fun _ => 0) 115 (zb_X11_posts_115) := (zr_ret dX11_posts_115)
def zb_X11_posts_105 (E : zj_E) (st : List Value) (m : zj_M) : zj_R := (zi_ild 2 (zi_eq (zi_ild 4 zb_X11_posts_115) (zi_ild 3 zb_X11_posts_115))) E st m
set_option maxRecDepth 20000 in
theorem zs_X11_posts_105 : zj_KC cX11_posts RX11 9 (7) (some .int) (0, fun _ => 0) 105 (zb_X11_posts_105) := (zr_ildn dX11_posts_105 rfl (zr_ifne dX11_posts_106 (tgt := 114) (by decide) (zr_ildn dX11_posts_114 rfl (zs_X11_posts_115)) (zr_ild dX11_posts_109 (zr_goto dX11_posts_111 (tgt := 115) (by decide) (zs_X11_posts_115)))))
def zb_X11_posts_92 (r39 : zj_K) (E : zj_E) (st : List Value) (m : zj_M) : zj_R := (zi_ild 5 (zi_call 1 zf_X11_nextSet (zi_ist 5 (zi_inc 6 1 r39)))) E st m
set_option maxRecDepth 20000 in
theorem zs_X11_posts_92 {r39 : zj_K} (h39 : zj_KC cX11_posts RX11 9 (7) (some .int) (0, fun _ => 0) 39 r39) : zj_KC cX11_posts RX11 9 (7) (some .int) (0, fun _ => 0) 92 (zb_X11_posts_92 r39) := (zr_ild dX11_posts_92 (zr_callS dX11_posts_94 zm_X11_nextSet ⟨⟨zq_790, zq_65⟩, by decide +kernel, by omega, by decide⟩ zq_788 zq_789 (zr_ist dX11_posts_97 (zr_inc dX11_posts_99 rfl (zr_goto dX11_posts_102 (tgt := 39) (by decide) h39)))))
def zb_X11_posts_39 (r39 : zj_K) (E : zj_E) (st : List Value) (m : zj_M) : zj_R := (zi_ild 6 (zi_push (.int 560) (zi_clt (zi_ild 5 (zi_push (.int 65535) (zi_cle (zi_ild 3 (zi_le zb_X11_posts_105 (zi_ald 0 (zi_vc 11 0 zf_X11_startTrial (zi_ast 7 (zi_ald 7 (zi_ild 5 (zi_pf 4 9 (zi_ald 7 (zi_ild 3 (zi_vc 4 1 zf_X4_trouble (zi_ist 8 (zi_ild 8 (zi_ild 3 (zi_clt (zi_ild 8 (zi_ist 3 (zi_ild 5 (zi_ist 4 (zb_X11_posts_92 r39))))) (zb_X11_posts_92 r39))))) zi_no))))))) zi_no)))) zb_X11_posts_105))) zb_X11_posts_105))) E st m
set_option maxRecDepth 20000 in
theorem zs_X11_posts_39 {r39 : zj_K} (h39 : zj_KC cX11_posts RX11 9 (7) (some .int) (0, fun _ => 0) 39 r39) : zj_KC cX11_posts RX11 9 (7) (some .int) (0, fun _ => 0) 39 (zb_X11_posts_39 r39) := (zr_ild dX11_posts_39 (zr_sipush dX11_posts_41 rfl (zr_icge dX11_posts_44 (tgt := 105) (by decide) (zs_X11_posts_105) (zr_ild dX11_posts_47 (zr_ldc dX11_posts_49 zq_573 (zr_icgt dX11_posts_51 (tgt := 105) (by decide) (zs_X11_posts_105) (zr_ildn dX11_posts_54 rfl (zr_ifle dX11_posts_55 (tgt := 105) (by decide) (zs_X11_posts_105) (zr_aldn dX11_posts_58 rfl (zr_callV dX11_posts_59 zm_X11_startTrial ⟨⟨zq_733, zq_65⟩, by decide +kernel, by omega, by decide⟩ rfl rfl zq_730 zq_732 zq_17 (zr_ast dX11_posts_62 (zr_ald dX11_posts_64 (zr_ild dX11_posts_66 (zr_pf dX11_posts_68 zfl_X11_131_4w (zr_ald dX11_posts_71 (zr_ildn dX11_posts_73 rfl (zr_callV dX11_posts_74 zm_X4_trouble ⟨⟨zq_742, zq_76⟩, by decide +kernel, by omega, by decide⟩ rfl rfl zq_739 zq_740 zq_741 (zr_ist dX11_posts_77 (zr_ild dX11_posts_79 (zr_ildn dX11_posts_81 rfl (zr_icge dX11_posts_82 (tgt := 92) (by decide) (zs_X11_posts_92 h39) (zr_ild dX11_posts_85 (zr_istn dX11_posts_87 rfl (zr_ild dX11_posts_88 (zr_ist dX11_posts_90 (zs_X11_posts_92 h39))))))))) zr_no))))))) zr_no))))))))))
def zb_X11_posts_11 (E : zj_E) (st : List Value) (m : zj_M) : zj_R := (zi_ild 1 (zi_lt zb_X11_posts_20 (zi_ild 1 (zi_push (.int 3) (zi_cle (zi_push (.int 2147483647) (zi_ist 3 (zi_push (.int 0) (zi_ist 4 (zi_push (.int 1) (zi_ild 1 (zi_b (fun x y => x <<< (y &&& 31)) (zi_push (.int 1) (zi_b (fun x y => x - y) (zi_ist 5 (zi_push (.int 0) (zi_ist 6 (zj_lp (zb_X11_posts_39) zj_fu))))))))))))) zb_X11_posts_20))))) E st m
set_option maxRecDepth 20000 in
theorem zs_X11_posts_11 : zj_KC cX11_posts RX11 9 (7) (some .int) (0, fun _ => 0) 11 (zb_X11_posts_11) := (zr_ildn dX11_posts_11 rfl (zr_iflt dX11_posts_12 (tgt := 20) (by decide) (zs_X11_posts_20) (zr_ildn dX11_posts_15 rfl (zr_iconst dX11_posts_16 rfl (zr_icle dX11_posts_17 (tgt := 23) (by decide) (zr_ldc dX11_posts_23 zq_339 (zr_istn dX11_posts_25 rfl (zr_iconst dX11_posts_26 rfl (zr_ist dX11_posts_27 (zr_iconst dX11_posts_29 rfl (zr_ildn dX11_posts_30 rfl (zr_ishl dX11_posts_31 (zr_iconst dX11_posts_32 rfl (zr_isub dX11_posts_33 (zr_ist dX11_posts_34 (zr_iconst dX11_posts_36 rfl (zr_ist dX11_posts_37 (zr_lp (fun _ h => zs_X11_posts_39 h) zj_fu))))))))))))) (zs_X11_posts_20))))))
def zb_X11_posts_0 (E : zj_E) (st : List Value) (m : zj_M) : zj_R := (zi_ild 2 (zi_eq zb_X11_posts_11 (zi_ild 2 (zi_push (.int 1) (zi_ceq zb_X11_posts_11 (zi_push (.int (-1)) (zi_ret (some .int)))))))) E st m
set_option maxRecDepth 20000 in
theorem zs_X11_posts_0 : zj_KC cX11_posts RX11 9 (7) (some .int) (0, fun _ => 0) 0 (zb_X11_posts_0) := (zr_ildn dX11_posts_0 rfl (zr_ifeq dX11_posts_1 (tgt := 11) (by decide) (zs_X11_posts_11) (zr_ildn dX11_posts_4 rfl (zr_iconst dX11_posts_5 rfl (zr_iceq dX11_posts_6 (tgt := 11) (by decide) (zs_X11_posts_11) (zr_iconst dX11_posts_9 rfl (zr_ret dX11_posts_10)))))))
def zf_X11_posts : zj_F := zj_run 9 zb_X11_posts_0
theorem zm_X11_posts : zj_MS 7 yX11_posts cX11_posts 9 (some .int) zf_X11_posts := zj_met (own := RX11) rfl (by decide +kernel) (Or.inr (Or.inl rfl)) (zs_X11_posts_0)
theorem dX11_gravel_0 : decode cX11_gravel 0 = .ok (.aload_n 0, 1) := by decide +kernel
theorem dX11_gravel_1 : decode cX11_gravel 1 = .ok (.invokevirtual 209, 3) := by decide +kernel
theorem dX11_gravel_4 : decode cX11_gravel 4 = .ok (.ldc 70, 2) := by decide +kernel
theorem dX11_gravel_6 : decode cX11_gravel 6 = .ok (.invokevirtual 213, 3) := by decide +kernel
theorem dX11_gravel_9 : decode cX11_gravel 9 = .ok (.istore_n 1, 1) := by decide +kernel
theorem dX11_gravel_10 : decode cX11_gravel 10 = .ok (.bipush (-5), 2) := by decide +kernel
theorem dX11_gravel_12 : decode cX11_gravel 12 = .ok (.istore_n 2, 1) := by decide +kernel
theorem dX11_gravel_13 : decode cX11_gravel 13 = .ok (.iconst 0, 1) := by decide +kernel
theorem dX11_gravel_14 : decode cX11_gravel 14 = .ok (.istore_n 3, 1) := by decide +kernel
theorem dX11_gravel_15 : decode cX11_gravel 15 = .ok (.iload_n 3, 1) := by decide +kernel
theorem dX11_gravel_16 : decode cX11_gravel 16 = .ok (.iconst 4, 1) := by decide +kernel
theorem dX11_gravel_17 : decode cX11_gravel 17 = .ok (.if_icmp .ge 74, 3) := by decide +kernel
theorem dX11_gravel_20 : decode cX11_gravel 20 = .ok (.iconst 0, 1) := by decide +kernel
theorem dX11_gravel_21 : decode cX11_gravel 21 = .ok (.istore 4, 2) := by decide +kernel
theorem dX11_gravel_23 : decode cX11_gravel 23 = .ok (.iload 4, 2) := by decide +kernel
theorem dX11_gravel_25 : decode cX11_gravel 25 = .ok (.bipush 16, 2) := by decide +kernel
theorem dX11_gravel_27 : decode cX11_gravel 27 = .ok (.if_icmp .ge 58, 3) := by decide +kernel
theorem dX11_gravel_30 : decode cX11_gravel 30 = .ok (.iload_n 1, 1) := by decide +kernel
theorem dX11_gravel_31 : decode cX11_gravel 31 = .ok (.ifCond .le 54, 3) := by decide +kernel
theorem dX11_gravel_34 : decode cX11_gravel 34 = .ok (.aload_n 0, 1) := by decide +kernel
theorem dX11_gravel_35 : decode cX11_gravel 35 = .ok (.invokevirtual 209, 3) := by decide +kernel
theorem dX11_gravel_38 : decode cX11_gravel 38 = .ok (.astore 5, 2) := by decide +kernel
theorem dX11_gravel_40 : decode cX11_gravel 40 = .ok (.aload 5, 2) := by decide +kernel
theorem dX11_gravel_42 : decode cX11_gravel 42 = .ok (.getfield 127, 3) := by decide +kernel
theorem dX11_gravel_45 : decode cX11_gravel 45 = .ok (.iload_n 3, 1) := by decide +kernel
theorem dX11_gravel_46 : decode cX11_gravel 46 = .ok (.dup2, 1) := by decide +kernel
theorem dX11_gravel_47 : decode cX11_gravel 47 = .ok (.iaload, 1) := by decide +kernel
theorem dX11_gravel_48 : decode cX11_gravel 48 = .ok (.iconst 1, 1) := by decide +kernel
theorem dX11_gravel_49 : decode cX11_gravel 49 = .ok (.iload 4, 2) := by decide +kernel
theorem dX11_gravel_51 : decode cX11_gravel 51 = .ok (.ishl, 1) := by decide +kernel
theorem dX11_gravel_52 : decode cX11_gravel 52 = .ok (.ixor, 1) := by decide +kernel
theorem dX11_gravel_53 : decode cX11_gravel 53 = .ok (.iastore, 1) := by decide +kernel
theorem dX11_gravel_54 : decode cX11_gravel 54 = .ok (.aload 5, 2) := by decide +kernel
theorem dX11_gravel_56 : decode cX11_gravel 56 = .ok (.iload_n 1, 1) := by decide +kernel
theorem dX11_gravel_57 : decode cX11_gravel 57 = .ok (.invokevirtual 213, 3) := by decide +kernel
theorem dX11_gravel_60 : decode cX11_gravel 60 = .ok (.istore 6, 2) := by decide +kernel
theorem dX11_gravel_62 : decode cX11_gravel 62 = .ok (.iload 6, 2) := by decide +kernel
theorem dX11_gravel_64 : decode cX11_gravel 64 = .ok (.iload_n 1, 1) := by decide +kernel
theorem dX11_gravel_65 : decode cX11_gravel 65 = .ok (.if_icmp .ge 14, 3) := by decide +kernel
theorem dX11_gravel_68 : decode cX11_gravel 68 = .ok (.iload 6, 2) := by decide +kernel
theorem dX11_gravel_70 : decode cX11_gravel 70 = .ok (.istore_n 1, 1) := by decide +kernel
theorem dX11_gravel_71 : decode cX11_gravel 71 = .ok (.bipush 100, 2) := by decide +kernel
theorem dX11_gravel_73 : decode cX11_gravel 73 = .ok (.iload_n 3, 1) := by decide +kernel
theorem dX11_gravel_74 : decode cX11_gravel 74 = .ok (.imul, 1) := by decide +kernel
theorem dX11_gravel_75 : decode cX11_gravel 75 = .ok (.iload 4, 2) := by decide +kernel
theorem dX11_gravel_77 : decode cX11_gravel 77 = .ok (.iadd, 1) := by decide +kernel
theorem dX11_gravel_78 : decode cX11_gravel 78 = .ok (.istore_n 2, 1) := by decide +kernel
theorem dX11_gravel_79 : decode cX11_gravel 79 = .ok (.iinc 4 1, 3) := by decide +kernel
theorem dX11_gravel_82 : decode cX11_gravel 82 = .ok (.goto (-59), 3) := by decide +kernel
theorem dX11_gravel_85 : decode cX11_gravel 85 = .ok (.iinc 3 1, 3) := by decide +kernel
theorem dX11_gravel_88 : decode cX11_gravel 88 = .ok (.goto (-73), 3) := by decide +kernel
theorem dX11_gravel_91 : decode cX11_gravel 91 = .ok (.iload_n 2, 1) := by decide +kernel
theorem dX11_gravel_92 : decode cX11_gravel 92 = .ok (.ireturn, 1) := by decide +kernel
def zb_X11_gravel_85 (r15 : zj_K) (E : zj_E) (st : List Value) (m : zj_M) : zj_R := (zi_inc 3 1 r15) E st m
set_option maxRecDepth 20000 in
theorem zs_X11_gravel_85 {r15 : zj_K} (h15 : zj_KC cX11_gravel RX11 7 (7) (some .int) (0, fun _ => 0) 15 r15) : zj_KC cX11_gravel RX11 7 (7) (some .int) (0, fun _ => 0) 85 (zb_X11_gravel_85 r15) := (zr_inc dX11_gravel_85 rfl (zr_goto dX11_gravel_88 (tgt := 15) (by decide) h15))
def zb_X11_gravel_79 (r15 : zj_K) (r23 : zj_K) (E : zj_E) (st : List Value) (m : zj_M) : zj_R := (zi_inc 4 1 r23) E st m
set_option maxRecDepth 20000 in
theorem zs_X11_gravel_79 {r15 : zj_K} (h15 : zj_KC cX11_gravel RX11 7 (7) (some .int) (0, fun _ => 0) 15 r15) {r23 : zj_K} (h23 : zj_KC cX11_gravel RX11 7 (7) (some .int) (0, fun _ => 0) 23 r23) : zj_KC cX11_gravel RX11 7 (7) (some .int) (0, fun _ => 0) 79 (zb_X11_gravel_79 r15 r23) := (zr_inc dX11_gravel_79 rfl (zr_goto dX11_gravel_82 (tgt := 23) (by decide) h23))
def zb_X11_gravel_23 (r15 : zj_K) (r23 : zj_K) (E : zj_E) (st : List Value) (m : zj_M) : zj_R := (zi_ild 4 (zi_push (.int 16) (zi_clt (zi_ild 1 (zi_le (zb_X11_gravel_85 r15) (zi_ald 0 (zi_vc 11 0 zf_X11_startTrial (zi_ast 5 (zi_ald 5 (zi_gf 4 0 (zi_ild 3 (zi_dup2 (zi_iald (zi_push (.int 1) (zi_ild 4 (zi_b (fun x y => x <<< (y &&& 31)) (zi_b (fun x y => x ^^^ y) (zi_iast (zi_ald 5 (zi_ild 1 (zi_vc 4 1 zf_X4_trouble (zi_ist 6 (zi_ild 6 (zi_ild 1 (zi_clt (zi_ild 6 (zi_ist 1 (zi_push (.int 100) (zi_ild 3 (zi_b (fun x y => x * y) (zi_ild 4 (zi_b (fun x y => x + y) (zi_ist 2 (zb_X11_gravel_79 r15 r23))))))))) (zb_X11_gravel_79 r15 r23))))) zi_no)))))))))))))) zi_no)))) (zb_X11_gravel_85 r15)))) E st m
set_option maxRecDepth 20000 in
theorem zs_X11_gravel_23 {r15 : zj_K} (h15 : zj_KC cX11_gravel RX11 7 (7) (some .int) (0, fun _ => 0) 15 r15) {r23 : zj_K} (h23 : zj_KC cX11_gravel RX11 7 (7) (some .int) (0, fun _ => 0) 23 r23) : zj_KC cX11_gravel RX11 7 (7) (some .int) (0, fun _ => 0) 23 (zb_X11_gravel_23 r15 r23) := (zr_ild dX11_gravel_23 (zr_bipush dX11_gravel_25 rfl (zr_icge dX11_gravel_27 (tgt := 85) (by decide) (zs_X11_gravel_85 h15) (zr_ildn dX11_gravel_30 rfl (zr_ifle dX11_gravel_31 (tgt := 85) (by decide) (zs_X11_gravel_85 h15) (zr_aldn dX11_gravel_34 rfl (zr_callV dX11_gravel_35 zm_X11_startTrial ⟨⟨zq_733, zq_65⟩, by decide +kernel, by omega, by decide⟩ rfl rfl zq_730 zq_732 zq_17 (zr_ast dX11_gravel_38 (zr_ald dX11_gravel_40 (zr_gf dX11_gravel_42 zfl_X11_127_4 (zr_ildn dX11_gravel_45 rfl (zr_dup2 dX11_gravel_46 (zr_iald dX11_gravel_47 (zr_iconst dX11_gravel_48 rfl (zr_ild dX11_gravel_49 (zr_ishl dX11_gravel_51 (zr_ixor dX11_gravel_52 (zr_iast dX11_gravel_53 (zr_ald dX11_gravel_54 (zr_ildn dX11_gravel_56 rfl (zr_callV dX11_gravel_57 zm_X4_trouble ⟨⟨zq_742, zq_76⟩, by decide +kernel, by omega, by decide⟩ rfl rfl zq_739 zq_740 zq_741 (zr_ist dX11_gravel_60 (zr_ild dX11_gravel_62 (zr_ildn dX11_gravel_64 rfl (zr_icge dX11_gravel_65 (tgt := 79) (by decide) (zs_X11_gravel_79 h15 h23) (zr_ild dX11_gravel_68 (zr_istn dX11_gravel_70 rfl (zr_bipush dX11_gravel_71 rfl (zr_ildn dX11_gravel_73 rfl (zr_imul dX11_gravel_74 (zr_ild dX11_gravel_75 (zr_iadd dX11_gravel_77 (zr_istn dX11_gravel_78 rfl (zs_X11_gravel_79 h15 h23))))))))))))) zr_no)))))))))))))) zr_no)))))))
def zb_X11_gravel_15 (r15 : zj_K) (E : zj_E) (st : List Value) (m : zj_M) : zj_R := (zi_ild 3 (zi_push (.int 4) (zi_clt (zi_push (.int 0) (zi_ist 4 (zj_lp (zb_X11_gravel_23 r15) zj_fu))) (zi_ild 2 (zi_ret (some .int)))))) E st m
set_option maxRecDepth 20000 in
theorem zs_X11_gravel_15 {r15 : zj_K} (h15 : zj_KC cX11_gravel RX11 7 (7) (some .int) (0, fun _ => 0) 15 r15) : zj_KC cX11_gravel RX11 7 (7) (some .int) (0, fun _ => 0) 15 (zb_X11_gravel_15 r15) := (zr_ildn dX11_gravel_15 rfl (zr_iconst dX11_gravel_16 rfl (zr_icge dX11_gravel_17 (tgt := 91) (by decide) (zr_ildn dX11_gravel_91 rfl (zr_ret dX11_gravel_92)) (zr_iconst dX11_gravel_20 rfl (zr_ist dX11_gravel_21 (zr_lp (fun _ h => zs_X11_gravel_23 h15 h) zj_fu))))))
def zb_X11_gravel_0 (E : zj_E) (st : List Value) (m : zj_M) : zj_R := (zi_ald 0 (zi_vc 11 0 zf_X11_startTrial (zi_push (.int 2147483647) (zi_vc 4 1 zf_X4_trouble (zi_ist 1 (zi_push (.int (-5)) (zi_ist 2 (zi_push (.int 0) (zi_ist 3 (zj_lp (zb_X11_gravel_15) zj_fu)))))) zi_no)) zi_no)) E st m
set_option maxRecDepth 20000 in
theorem zs_X11_gravel_0 : zj_KC cX11_gravel RX11 7 (7) (some .int) (0, fun _ => 0) 0 (zb_X11_gravel_0) := (zr_aldn dX11_gravel_0 rfl (zr_callV dX11_gravel_1 zm_X11_startTrial ⟨⟨zq_733, zq_65⟩, by decide +kernel, by omega, by decide⟩ rfl rfl zq_730 zq_732 zq_17 (zr_ldc dX11_gravel_4 zq_339 (zr_callV dX11_gravel_6 zm_X4_trouble ⟨⟨zq_742, zq_76⟩, by decide +kernel, by omega, by decide⟩ rfl rfl zq_739 zq_740 zq_741 (zr_istn dX11_gravel_9 rfl (zr_bipush dX11_gravel_10 rfl (zr_istn dX11_gravel_12 rfl (zr_iconst dX11_gravel_13 rfl (zr_istn dX11_gravel_14 rfl (zr_lp (fun _ h => zs_X11_gravel_15 h) zj_fu)))))) zr_no)) zr_no))
def zf_X11_gravel : zj_F := zj_run 7 zb_X11_gravel_0
theorem zm_X11_gravel : zj_MS 7 yX11_gravel cX11_gravel 7 (some .int) zf_X11_gravel := zj_met (own := RX11) rfl (by decide +kernel) (Or.inr (Or.inl rfl)) (zs_X11_gravel_0)
theorem dX11_see_0 : decode cX11_see 0 = .ok (.iload_n 1, 1) := by decide +kernel
theorem dX11_see_1 : decode cX11_see 1 = .ok (.iconst (-1), 1) := by decide +kernel
theorem dX11_see_2 : decode cX11_see 2 = .ok (.if_icmp .ne 15, 3) := by decide +kernel
theorem dX11_see_5 : decode cX11_see 5 = .ok (.aload_n 0, 1) := by decide +kernel
theorem dX11_see_6 : decode cX11_see 6 = .ok (.getfield 61, 3) := by decide +kernel
theorem dX11_see_9 : decode cX11_see 9 = .ok (.getfield 228, 3) := by decide +kernel
theorem dX11_see_12 : decode cX11_see 12 = .ok (.invokevirtual 100, 3) := by decide +kernel
theorem dX11_see_15 : decode cX11_see 15 = .ok (.iconst 0, 1) := by decide +kernel
theorem dX11_see_16 : decode cX11_see 16 = .ok (.ireturn, 1) := by decide +kernel
theorem dX11_see_17 : decode cX11_see 17 = .ok (.aload_n 0, 1) := by decide +kernel
theorem dX11_see_18 : decode cX11_see 18 = .ok (.iload_n 1, 1) := by decide +kernel
theorem dX11_see_19 : decode cX11_see 19 = .ok (.invokevirtual 140, 3) := by decide +kernel
theorem dX11_see_22 : decode cX11_see 22 = .ok (.ifCond .ne 5, 3) := by decide +kernel
theorem dX11_see_25 : decode cX11_see 25 = .ok (.iconst (-1), 1) := by decide +kernel
theorem dX11_see_26 : decode cX11_see 26 = .ok (.ireturn, 1) := by decide +kernel
theorem dX11_see_27 : decode cX11_see 27 = .ok (.iload_n 2, 1) := by decide +kernel
theorem dX11_see_28 : decode cX11_see 28 = .ok (.ifCond .lt 9, 3) := by decide +kernel
theorem dX11_see_31 : decode cX11_see 31 = .ok (.iload_n 2, 1) := by decide +kernel
theorem dX11_see_32 : decode cX11_see 32 = .ok (.bipush 20, 2) := by decide +kernel
theorem dX11_see_34 : decode cX11_see 34 = .ok (.if_icmp .le 6, 3) := by decide +kernel
theorem dX11_see_37 : decode cX11_see 37 = .ok (.bipush (-2), 2) := by decide +kernel
theorem dX11_see_39 : decode cX11_see 39 = .ok (.ireturn, 1) := by decide +kernel
theorem dX11_see_40 : decode cX11_see 40 = .ok (.aload_n 0, 1) := by decide +kernel
theorem dX11_see_41 : decode cX11_see 41 = .ok (.getfield 61, 3) := by decide +kernel
theorem dX11_see_44 : decode cX11_see 44 = .ok (.getfield 228, 3) := by decide +kernel
theorem dX11_see_47 : decode cX11_see 47 = .ok (.invokevirtual 81, 3) := by decide +kernel
theorem dX11_see_50 : decode cX11_see 50 = .ok (.ifCond .eq 6, 3) := by decide +kernel
theorem dX11_see_53 : decode cX11_see 53 = .ok (.bipush (-4), 2) := by decide +kernel
theorem dX11_see_55 : decode cX11_see 55 = .ok (.ireturn, 1) := by decide +kernel
theorem dX11_see_56 : decode cX11_see 56 = .ok (.aload_n 0, 1) := by decide +kernel
theorem dX11_see_57 : decode cX11_see 57 = .ok (.getfield 61, 3) := by decide +kernel
theorem dX11_see_60 : decode cX11_see 60 = .ok (.getfield 228, 3) := by decide +kernel
theorem dX11_see_63 : decode cX11_see 63 = .ok (.iload_n 1, 1) := by decide +kernel
theorem dX11_see_64 : decode cX11_see 64 = .ok (.iload_n 2, 1) := by decide +kernel
theorem dX11_see_65 : decode cX11_see 65 = .ok (.iload_n 3, 1) := by decide +kernel
theorem dX11_see_66 : decode cX11_see 66 = .ok (.invokestatic 163, 3) := by decide +kernel
theorem dX11_see_69 : decode cX11_see 69 = .ok (.invokevirtual 85, 3) := by decide +kernel
theorem dX11_see_72 : decode cX11_see 72 = .ok (.aload_n 0, 1) := by decide +kernel
theorem dX11_see_73 : decode cX11_see 73 = .ok (.getfield 61, 3) := by decide +kernel
theorem dX11_see_76 : decode cX11_see 76 = .ok (.getfield 228, 3) := by decide +kernel
theorem dX11_see_79 : decode cX11_see 79 = .ok (.getfield 89, 3) := by decide +kernel
theorem dX11_see_82 : decode cX11_see 82 = .ok (.ireturn, 1) := by decide +kernel
def zb_X11_see_37 (E : zj_E) (st : List Value) (m : zj_M) : zj_R := (zi_push (.int (-2)) (zi_ret (some .int))) E st m
set_option maxRecDepth 20000 in
theorem zs_X11_see_37 : zj_KC cX11_see RX11 4 (2) (some .int) (0, fun _ => 0) 37 (zb_X11_see_37) := (zr_bipush dX11_see_37 rfl (zr_ret dX11_see_39))
def zb_X11_see_0 (E : zj_E) (st : List Value) (m : zj_M) : zj_R := (zi_ild 1 (zi_push (.int (-1)) (zi_ceq (zi_ald 0 (zi_gf 11 3 (zi_gf 10 3 (zi_vc 5 0 zf_X5_clear (zi_push (.int 0) (zi_ret (some .int))) zi_no)))) (zi_ald 0 (zi_ild 1 (zi_vc 11 1 zf_X11_isWalker (zi_eq (zi_push (.int (-1)) (zi_ret (some .int))) (zi_ild 2 (zi_lt zb_X11_see_37 (zi_ild 2 (zi_push (.int 20) (zi_cle (zi_ald 0 (zi_gf 11 3 (zi_gf 10 3 (zi_vc 5 0 zf_X5_isFull (zi_eq (zi_ald 0 (zi_gf 11 3 (zi_gf 10 3 (zi_ild 1 (zi_ild 2 (zi_ild 3 (zi_call 1 zf_X11_bit (zi_vc 5 3 zf_X5_add (zi_ald 0 (zi_gf 11 3 (zi_gf 10 3 (zi_gf 5 3 (zi_ret (some .int)))))) zi_no)))))))) (zi_push (.int (-4)) (zi_ret (some .int)))) zi_no)))) zb_X11_see_37)))))) zi_no)))))) E st m
set_option maxRecDepth 20000 in
theorem zs_X11_see_0 : zj_KC cX11_see RX11 4 (2) (some .int) (0, fun _ => 0) 0 (zb_X11_see_0) := (zr_ildn dX11_see_0 rfl (zr_iconst dX11_see_1 rfl (zr_icne dX11_see_2 (tgt := 17) (by decide) (zr_aldn dX11_see_17 rfl (zr_ildn dX11_see_18 rfl (zr_callV dX11_see_19 zm_X11_isWalker ⟨⟨zq_597, zq_65⟩, by decide +kernel, by omega, by decide⟩ rfl rfl zq_594 zq_596 zq_13 (zr_ifne dX11_see_22 (tgt := 27) (by decide) (zr_ildn dX11_see_27 rfl (zr_iflt dX11_see_28 (tgt := 37) (by decide) (zs_X11_see_37) (zr_ildn dX11_see_31 rfl (zr_bipush dX11_see_32 rfl (zr_icle dX11_see_34 (tgt := 40) (by decide) (zr_aldn dX11_see_40 rfl (zr_gf dX11_see_41 zfl_X11_61_11 (zr_gf dX11_see_44 zfl_X11_228_10 (zr_callV dX11_see_47 zm_X5_isFull ⟨⟨zq_373, zq_66⟩, by decide +kernel, by omega, by decide⟩ rfl rfl zq_370 zq_371 zq_372 (zr_ifeq dX11_see_50 (tgt := 56) (by decide) (zr_aldn dX11_see_56 rfl (zr_gf dX11_see_57 zfl_X11_61_11 (zr_gf dX11_see_60 zfl_X11_228_10 (zr_ildn dX11_see_63 rfl (zr_ildn dX11_see_64 rfl (zr_ildn dX11_see_65 rfl (zr_callS dX11_see_66 zm_X11_bit ⟨⟨zq_610, zq_65⟩, by decide +kernel, by omega, by decide⟩ zq_608 zq_609 (zr_callV dX11_see_69 zm_X5_add ⟨⟨zq_377, zq_66⟩, by decide +kernel, by omega, by decide⟩ rfl rfl zq_374 zq_375 zq_376 (zr_aldn dX11_see_72 rfl (zr_gf dX11_see_73 zfl_X11_61_11 (zr_gf dX11_see_76 zfl_X11_228_10 (zr_gf dX11_see_79 zfl_X11_89_5 (zr_ret dX11_see_82))))) zr_no)))))))) (zr_bipush dX11_see_53 rfl (zr_ret dX11_see_55))) zr_no)))) (zs_X11_see_37)))))) (zr_iconst dX11_see_25 rfl (zr_ret dX11_see_26))) zr_no))) (zr_aldn dX11_see_5 rfl (zr_gf dX11_see_6 zfl_X11_61_11 (zr_gf dX11_see_9 zfl_X11_228_10 (zr_callV dX11_see_12 zm_X5_clear ⟨⟨zq_553, zq_66⟩, by decide +kernel, by omega, by decide⟩ rfl rfl zq_550 zq_551 zq_552 (zr_iconst dX11_see_15 rfl (zr_ret dX11_see_16)) zr_no)))))))
def zf_X11_see : zj_F := zj_run 4 zb_X11_see_0
theorem zm_X11_see : zj_MS 2 yX11_see cX11_see 4 (some .int) zf_X11_see := zj_met (own := RX11) rfl (by decide +kernel) (Or.inr (Or.inl rfl)) (zs_X11_see_0)
theorem dX11_felt_0 : decode cX11_felt 0 = .ok (.aload_n 0, 1) := by decide +kernel
theorem dX11_felt_1 : decode cX11_felt 1 = .ok (.iload_n 1, 1) := by decide +kernel
theorem dX11_felt_2 : decode cX11_felt 2 = .ok (.invokevirtual 140, 3) := by decide +kernel
theorem dX11_felt_5 : decode cX11_felt 5 = .ok (.ifCond .ne 5, 3) := by decide +kernel
theorem dX11_felt_8 : decode cX11_felt 8 = .ok (.iconst (-1), 1) := by decide +kernel
theorem dX11_felt_9 : decode cX11_felt 9 = .ok (.ireturn, 1) := by decide +kernel
theorem dX11_felt_10 : decode cX11_felt 10 = .ok (.iconst 0, 1) := by decide +kernel
theorem dX11_felt_11 : decode cX11_felt 11 = .ok (.istore_n 2, 1) := by decide +kernel
theorem dX11_felt_12 : decode cX11_felt 12 = .ok (.iconst 0, 1) := by decide +kernel
theorem dX11_felt_13 : decode cX11_felt 13 = .ok (.istore_n 3, 1) := by decide +kernel
theorem dX11_felt_14 : decode cX11_felt 14 = .ok (.iload_n 3, 1) := by decide +kernel
theorem dX11_felt_15 : decode cX11_felt 15 = .ok (.iconst 4, 1) := by decide +kernel
theorem dX11_felt_16 : decode cX11_felt 16 = .ok (.if_icmp .ge 43, 3) := by decide +kernel
theorem dX11_felt_19 : decode cX11_felt 19 = .ok (.aload_n 0, 1) := by decide +kernel
theorem dX11_felt_20 : decode cX11_felt 20 = .ok (.invokevirtual 209, 3) := by decide +kernel
theorem dX11_felt_23 : decode cX11_felt 23 = .ok (.astore 4, 2) := by decide +kernel
theorem dX11_felt_25 : decode cX11_felt 25 = .ok (.aload 4, 2) := by decide +kernel
theorem dX11_felt_27 : decode cX11_felt 27 = .ok (.getfield 157, 3) := by decide +kernel
theorem dX11_felt_30 : decode cX11_felt 30 = .ok (.iload_n 1, 1) := by decide +kernel
theorem dX11_felt_31 : decode cX11_felt 31 = .ok (.iload_n 3, 1) := by decide +kernel
theorem dX11_felt_32 : decode cX11_felt 32 = .ok (.iastore, 1) := by decide +kernel
theorem dX11_felt_33 : decode cX11_felt 33 = .ok (.iload_n 2, 1) := by decide +kernel
theorem dX11_felt_34 : decode cX11_felt 34 = .ok (.aload 4, 2) := by decide +kernel
theorem dX11_felt_36 : decode cX11_felt 36 = .ok (.aload_n 0, 1) := by decide +kernel
theorem dX11_felt_37 : decode cX11_felt 37 = .ok (.getfield 61, 3) := by decide +kernel
theorem dX11_felt_40 : decode cX11_felt 40 = .ok (.getfield 228, 3) := by decide +kernel
theorem dX11_felt_43 : decode cX11_felt 43 = .ok (.invokevirtual 231, 3) := by decide +kernel
theorem dX11_felt_46 : decode cX11_felt 46 = .ok (.invokestatic 163, 3) := by decide +kernel
theorem dX11_felt_49 : decode cX11_felt 49 = .ok (.iload_n 3, 1) := by decide +kernel
theorem dX11_felt_50 : decode cX11_felt 50 = .ok (.ishl, 1) := by decide +kernel
theorem dX11_felt_51 : decode cX11_felt 51 = .ok (.ior, 1) := by decide +kernel
theorem dX11_felt_52 : decode cX11_felt 52 = .ok (.istore_n 2, 1) := by decide +kernel
theorem dX11_felt_53 : decode cX11_felt 53 = .ok (.iinc 3 1, 3) := by decide +kernel
theorem dX11_felt_56 : decode cX11_felt 56 = .ok (.goto (-42), 3) := by decide +kernel
theorem dX11_felt_59 : decode cX11_felt 59 = .ok (.iload_n 2, 1) := by decide +kernel
theorem dX11_felt_60 : decode cX11_felt 60 = .ok (.ireturn, 1) := by decide +kernel
def zb_X11_felt_14 (r14 : zj_K) (E : zj_E) (st : List Value) (m : zj_M) : zj_R := (zi_ild 3 (zi_push (.int 4) (zi_clt (zi_ald 0 (zi_vc 11 0 zf_X11_startTrial (zi_ast 4 (zi_ald 4 (zi_gf 4 4 (zi_ild 1 (zi_ild 3 (zi_iast (zi_ild 2 (zi_ald 4 (zi_ald 0 (zi_gf 11 3 (zi_gf 10 3 (zi_vc 4 1 zf_X4_isAsSeen (zi_call 1 zf_X11_bit (zi_ild 3 (zi_b (fun x y => x <<< (y &&& 31)) (zi_b (fun x y => x ||| y) (zi_ist 2 (zi_inc 3 1 r14)))))) zi_no)))))))))))) zi_no)) (zi_ild 2 (zi_ret (some .int)))))) E st m
set_option maxRecDepth 20000 in
theorem zs_X11_felt_14 {r14 : zj_K} (h14 : zj_KC cX11_felt RX11 5 (7) (some .int) (0, fun _ => 0) 14 r14) : zj_KC cX11_felt RX11 5 (7) (some .int) (0, fun _ => 0) 14 (zb_X11_felt_14 r14) := (zr_ildn dX11_felt_14 rfl (zr_iconst dX11_felt_15 rfl (zr_icge dX11_felt_16 (tgt := 59) (by decide) (zr_ildn dX11_felt_59 rfl (zr_ret dX11_felt_60)) (zr_aldn dX11_felt_19 rfl (zr_callV dX11_felt_20 zm_X11_startTrial ⟨⟨zq_733, zq_65⟩, by decide +kernel, by omega, by decide⟩ rfl rfl zq_730 zq_732 zq_17 (zr_ast dX11_felt_23 (zr_ald dX11_felt_25 (zr_gf dX11_felt_27 zfl_X11_157_4 (zr_ildn dX11_felt_30 rfl (zr_ildn dX11_felt_31 rfl (zr_iast dX11_felt_32 (zr_ildn dX11_felt_33 rfl (zr_ald dX11_felt_34 (zr_aldn dX11_felt_36 rfl (zr_gf dX11_felt_37 zfl_X11_61_11 (zr_gf dX11_felt_40 zfl_X11_228_10 (zr_callV dX11_felt_43 zm_X4_isAsSeen ⟨⟨zq_813, zq_76⟩, by decide +kernel, by omega, by decide⟩ rfl rfl zq_810 zq_811 zq_812 (zr_callS dX11_felt_46 zm_X11_bit ⟨⟨zq_610, zq_65⟩, by decide +kernel, by omega, by decide⟩ zq_608 zq_609 (zr_ildn dX11_felt_49 rfl (zr_ishl dX11_felt_50 (zr_ior dX11_felt_51 (zr_istn dX11_felt_52 rfl (zr_inc dX11_felt_53 rfl (zr_goto dX11_felt_56 (tgt := 14) (by decide) h14))))))) zr_no)))))))))))) zr_no)))))
def zb_X11_felt_0 (E : zj_E) (st : List Value) (m : zj_M) : zj_R := (zi_ald 0 (zi_ild 1 (zi_vc 11 1 zf_X11_isWalker (zi_eq (zi_push (.int (-1)) (zi_ret (some .int))) (zi_push (.int 0) (zi_ist 2 (zi_push (.int 0) (zi_ist 3 (zj_lp (zb_X11_felt_14) zj_fu)))))) zi_no))) E st m
set_option maxRecDepth 20000 in
theorem zs_X11_felt_0 : zj_KC cX11_felt RX11 5 (7) (some .int) (0, fun _ => 0) 0 (zb_X11_felt_0) := (zr_aldn dX11_felt_0 rfl (zr_ildn dX11_felt_1 rfl (zr_callV dX11_felt_2 zm_X11_isWalker ⟨⟨zq_597, zq_65⟩, by decide +kernel, by omega, by decide⟩ rfl rfl zq_594 zq_596 zq_13 (zr_ifne dX11_felt_5 (tgt := 10) (by decide) (zr_iconst dX11_felt_10 rfl (zr_istn dX11_felt_11 rfl (zr_iconst dX11_felt_12 rfl (zr_istn dX11_felt_13 rfl (zr_lp (fun _ h => zs_X11_felt_14 h) zj_fu))))) (zr_iconst dX11_felt_8 rfl (zr_ret dX11_felt_9))) zr_no)))
def zf_X11_felt : zj_F := zj_run 5 zb_X11_felt_0
theorem zm_X11_felt : zj_MS 7 yX11_felt cX11_felt 5 (some .int) zf_X11_felt := zj_met (own := RX11) rfl (by decide +kernel) (Or.inr (Or.inl rfl)) (zs_X11_felt_0)
theorem dX11_where_0 : decode cX11_where 0 = .ok (.aload_n 0, 1) := by decide +kernel
theorem dX11_where_1 : decode cX11_where 1 = .ok (.iload_n 1, 1) := by decide +kernel
theorem dX11_where_2 : decode cX11_where 2 = .ok (.invokevirtual 140, 3) := by decide +kernel
theorem dX11_where_5 : decode cX11_where 5 = .ok (.ifCond .ne 5, 3) := by decide +kernel
theorem dX11_where_8 : decode cX11_where 8 = .ok (.iconst (-1), 1) := by decide +kernel
theorem dX11_where_9 : decode cX11_where 9 = .ok (.ireturn, 1) := by decide +kernel
theorem dX11_where_10 : decode cX11_where 10 = .ok (.iconst 0, 1) := by decide +kernel
theorem dX11_where_11 : decode cX11_where 11 = .ok (.istore_n 2, 1) := by decide +kernel
theorem dX11_where_12 : decode cX11_where 12 = .ok (.iconst 0, 1) := by decide +kernel
theorem dX11_where_13 : decode cX11_where 13 = .ok (.istore_n 3, 1) := by decide +kernel
theorem dX11_where_14 : decode cX11_where 14 = .ok (.iload_n 3, 1) := by decide +kernel
theorem dX11_where_15 : decode cX11_where 15 = .ok (.bipush 16, 2) := by decide +kernel
theorem dX11_where_17 : decode cX11_where 17 = .ok (.if_icmp .ge 43, 3) := by decide +kernel
theorem dX11_where_20 : decode cX11_where 20 = .ok (.aload_n 0, 1) := by decide +kernel
theorem dX11_where_21 : decode cX11_where 21 = .ok (.invokevirtual 209, 3) := by decide +kernel
theorem dX11_where_24 : decode cX11_where 24 = .ok (.astore 4, 2) := by decide +kernel
theorem dX11_where_26 : decode cX11_where 26 = .ok (.aload 4, 2) := by decide +kernel
theorem dX11_where_28 : decode cX11_where 28 = .ok (.getfield 154, 3) := by decide +kernel
theorem dX11_where_31 : decode cX11_where 31 = .ok (.iload_n 1, 1) := by decide +kernel
theorem dX11_where_32 : decode cX11_where 32 = .ok (.iload_n 3, 1) := by decide +kernel
theorem dX11_where_33 : decode cX11_where 33 = .ok (.iastore, 1) := by decide +kernel
theorem dX11_where_34 : decode cX11_where 34 = .ok (.iload_n 2, 1) := by decide +kernel
theorem dX11_where_35 : decode cX11_where 35 = .ok (.aload 4, 2) := by decide +kernel
theorem dX11_where_37 : decode cX11_where 37 = .ok (.aload_n 0, 1) := by decide +kernel
theorem dX11_where_38 : decode cX11_where 38 = .ok (.getfield 61, 3) := by decide +kernel
theorem dX11_where_41 : decode cX11_where 41 = .ok (.getfield 228, 3) := by decide +kernel
theorem dX11_where_44 : decode cX11_where 44 = .ok (.invokevirtual 231, 3) := by decide +kernel
theorem dX11_where_47 : decode cX11_where 47 = .ok (.invokestatic 163, 3) := by decide +kernel
theorem dX11_where_50 : decode cX11_where 50 = .ok (.iload_n 3, 1) := by decide +kernel
theorem dX11_where_51 : decode cX11_where 51 = .ok (.ishl, 1) := by decide +kernel
theorem dX11_where_52 : decode cX11_where 52 = .ok (.ior, 1) := by decide +kernel
theorem dX11_where_53 : decode cX11_where 53 = .ok (.istore_n 2, 1) := by decide +kernel
theorem dX11_where_54 : decode cX11_where 54 = .ok (.iinc 3 1, 3) := by decide +kernel
theorem dX11_where_57 : decode cX11_where 57 = .ok (.goto (-43), 3) := by decide +kernel
theorem dX11_where_60 : decode cX11_where 60 = .ok (.iload_n 2, 1) := by decide +kernel
theorem dX11_where_61 : decode cX11_where 61 = .ok (.ireturn, 1) := by decide +kernel
def zb_X11_where_14 (r14 : zj_K) (E : zj_E) (st : List Value) (m : zj_M) : zj_R := (zi_ild 3 (zi_push (.int 16) (zi_clt (zi_ald 0 (zi_vc 11 0 zf_X11_startTrial (zi_ast 4 (zi_ald 4 (zi_gf 4 3 (zi_ild 1 (zi_ild 3 (zi_iast (zi_ild 2 (zi_ald 4 (zi_ald 0 (zi_gf 11 3 (zi_gf 10 3 (zi_vc 4 1 zf_X4_isAsSeen (zi_call 1 zf_X11_bit (zi_ild 3 (zi_b (fun x y => x <<< (y &&& 31)) (zi_b (fun x y => x ||| y) (zi_ist 2 (zi_inc 3 1 r14)))))) zi_no)))))))))))) zi_no)) (zi_ild 2 (zi_ret (some .int)))))) E st m
set_option maxRecDepth 20000 in
theorem zs_X11_where_14 {r14 : zj_K} (h14 : zj_KC cX11_where RX11 5 (7) (some .int) (0, fun _ => 0) 14 r14) : zj_KC cX11_where RX11 5 (7) (some .int) (0, fun _ => 0) 14 (zb_X11_where_14 r14) := (zr_ildn dX11_where_14 rfl (zr_bipush dX11_where_15 rfl (zr_icge dX11_where_17 (tgt := 60) (by decide) (zr_ildn dX11_where_60 rfl (zr_ret dX11_where_61)) (zr_aldn dX11_where_20 rfl (zr_callV dX11_where_21 zm_X11_startTrial ⟨⟨zq_733, zq_65⟩, by decide +kernel, by omega, by decide⟩ rfl rfl zq_730 zq_732 zq_17 (zr_ast dX11_where_24 (zr_ald dX11_where_26 (zr_gf dX11_where_28 zfl_X11_154_4 (zr_ildn dX11_where_31 rfl (zr_ildn dX11_where_32 rfl (zr_iast dX11_where_33 (zr_ildn dX11_where_34 rfl (zr_ald dX11_where_35 (zr_aldn dX11_where_37 rfl (zr_gf dX11_where_38 zfl_X11_61_11 (zr_gf dX11_where_41 zfl_X11_228_10 (zr_callV dX11_where_44 zm_X4_isAsSeen ⟨⟨zq_813, zq_76⟩, by decide +kernel, by omega, by decide⟩ rfl rfl zq_810 zq_811 zq_812 (zr_callS dX11_where_47 zm_X11_bit ⟨⟨zq_610, zq_65⟩, by decide +kernel, by omega, by decide⟩ zq_608 zq_609 (zr_ildn dX11_where_50 rfl (zr_ishl dX11_where_51 (zr_ior dX11_where_52 (zr_istn dX11_where_53 rfl (zr_inc dX11_where_54 rfl (zr_goto dX11_where_57 (tgt := 14) (by decide) h14))))))) zr_no)))))))))))) zr_no)))))
def zb_X11_where_0 (E : zj_E) (st : List Value) (m : zj_M) : zj_R := (zi_ald 0 (zi_ild 1 (zi_vc 11 1 zf_X11_isWalker (zi_eq (zi_push (.int (-1)) (zi_ret (some .int))) (zi_push (.int 0) (zi_ist 2 (zi_push (.int 0) (zi_ist 3 (zj_lp (zb_X11_where_14) zj_fu)))))) zi_no))) E st m
set_option maxRecDepth 20000 in
theorem zs_X11_where_0 : zj_KC cX11_where RX11 5 (7) (some .int) (0, fun _ => 0) 0 (zb_X11_where_0) := (zr_aldn dX11_where_0 rfl (zr_ildn dX11_where_1 rfl (zr_callV dX11_where_2 zm_X11_isWalker ⟨⟨zq_597, zq_65⟩, by decide +kernel, by omega, by decide⟩ rfl rfl zq_594 zq_596 zq_13 (zr_ifne dX11_where_5 (tgt := 10) (by decide) (zr_iconst dX11_where_10 rfl (zr_istn dX11_where_11 rfl (zr_iconst dX11_where_12 rfl (zr_istn dX11_where_13 rfl (zr_lp (fun _ h => zs_X11_where_14 h) zj_fu))))) (zr_iconst dX11_where_8 rfl (zr_ret dX11_where_9))) zr_no)))
def zf_X11_where : zj_F := zj_run 5 zb_X11_where_0
theorem zm_X11_where : zj_MS 7 yX11_where cX11_where 5 (some .int) zf_X11_where := zj_met (own := RX11) rfl (by decide +kernel) (Or.inr (Or.inl rfl)) (zs_X11_where_0)
