theorem dX12_swayOf_0 : decode cX12_swayOf 0 = .ok (.aload_n 0, 1) := by decide +kernel
theorem dX12_swayOf_1 : decode cX12_swayOf 1 = .ok (.iload_n 1, 1) := by decide +kernel
theorem dX12_swayOf_2 : decode cX12_swayOf 2 = .ok (.invokevirtual 142, 3) := by decide +kernel
theorem dX12_swayOf_5 : decode cX12_swayOf 5 = .ok (.istore_n 2, 1) := by decide +kernel
theorem dX12_swayOf_6 : decode cX12_swayOf 6 = .ok (.aload_n 0, 1) := by decide +kernel
theorem dX12_swayOf_7 : decode cX12_swayOf 7 = .ok (.getfield 9, 3) := by decide +kernel
theorem dX12_swayOf_10 : decode cX12_swayOf 10 = .ok (.bipush 37, 2) := by decide +kernel
theorem dX12_swayOf_12 : decode cX12_swayOf 12 = .ok (.iload_n 1, 1) := by decide +kernel
theorem dX12_swayOf_13 : decode cX12_swayOf 13 = .ok (.iadd, 1) := by decide +kernel
theorem dX12_swayOf_14 : decode cX12_swayOf 14 = .ok (.iaload, 1) := by decide +kernel
theorem dX12_swayOf_15 : decode cX12_swayOf 15 = .ok (.tableswitch 114 1 6 #[37, 51, 55, 59, 73, 89], 37) := by decide +kernel
theorem dX12_swayOf_52 : decode cX12_swayOf 52 = .ok (.aload_n 0, 1) := by decide +kernel
theorem dX12_swayOf_53 : decode cX12_swayOf 53 = .ok (.iload_n 1, 1) := by decide +kernel
theorem dX12_swayOf_54 : decode cX12_swayOf 54 = .ok (.invokevirtual 145, 3) := by decide +kernel
theorem dX12_swayOf_57 : decode cX12_swayOf 57 = .ok (.ifCond .eq 7, 3) := by decide +kernel
theorem dX12_swayOf_60 : decode cX12_swayOf 60 = .ok (.iconst 0, 1) := by decide +kernel
theorem dX12_swayOf_61 : decode cX12_swayOf 61 = .ok (.goto 4, 3) := by decide +kernel
theorem dX12_swayOf_64 : decode cX12_swayOf 64 = .ok (.iload_n 2, 1) := by decide +kernel
theorem dX12_swayOf_65 : decode cX12_swayOf 65 = .ok (.ireturn, 1) := by decide +kernel
theorem dX12_swayOf_66 : decode cX12_swayOf 66 = .ok (.iconst 2, 1) := by decide +kernel
theorem dX12_swayOf_67 : decode cX12_swayOf 67 = .ok (.iload_n 2, 1) := by decide +kernel
theorem dX12_swayOf_68 : decode cX12_swayOf 68 = .ok (.imul, 1) := by decide +kernel
theorem dX12_swayOf_69 : decode cX12_swayOf 69 = .ok (.ireturn, 1) := by decide +kernel
theorem dX12_swayOf_70 : decode cX12_swayOf 70 = .ok (.iload_n 2, 1) := by decide +kernel
theorem dX12_swayOf_71 : decode cX12_swayOf 71 = .ok (.iconst 1, 1) := by decide +kernel
theorem dX12_swayOf_72 : decode cX12_swayOf 72 = .ok (.iadd, 1) := by decide +kernel
theorem dX12_swayOf_73 : decode cX12_swayOf 73 = .ok (.ireturn, 1) := by decide +kernel
theorem dX12_swayOf_74 : decode cX12_swayOf 74 = .ok (.aload_n 0, 1) := by decide +kernel
theorem dX12_swayOf_75 : decode cX12_swayOf 75 = .ok (.iload_n 1, 1) := by decide +kernel
theorem dX12_swayOf_76 : decode cX12_swayOf 76 = .ok (.invokevirtual 145, 3) := by decide +kernel
theorem dX12_swayOf_79 : decode cX12_swayOf 79 = .ok (.ifCond .eq 7, 3) := by decide +kernel
theorem dX12_swayOf_82 : decode cX12_swayOf 82 = .ok (.iconst 2, 1) := by decide +kernel
theorem dX12_swayOf_83 : decode cX12_swayOf 83 = .ok (.goto 4, 3) := by decide +kernel
theorem dX12_swayOf_86 : decode cX12_swayOf 86 = .ok (.iload_n 2, 1) := by decide +kernel
theorem dX12_swayOf_87 : decode cX12_swayOf 87 = .ok (.ireturn, 1) := by decide +kernel
theorem dX12_swayOf_88 : decode cX12_swayOf 88 = .ok (.aload_n 0, 1) := by decide +kernel
theorem dX12_swayOf_89 : decode cX12_swayOf 89 = .ok (.iload_n 1, 1) := by decide +kernel
theorem dX12_swayOf_90 : decode cX12_swayOf 90 = .ok (.invokevirtual 149, 3) := by decide +kernel
theorem dX12_swayOf_93 : decode cX12_swayOf 93 = .ok (.ifCond .eq 9, 3) := by decide +kernel
theorem dX12_swayOf_96 : decode cX12_swayOf 96 = .ok (.iconst 2, 1) := by decide +kernel
theorem dX12_swayOf_97 : decode cX12_swayOf 97 = .ok (.iload_n 2, 1) := by decide +kernel
theorem dX12_swayOf_98 : decode cX12_swayOf 98 = .ok (.imul, 1) := by decide +kernel
theorem dX12_swayOf_99 : decode cX12_swayOf 99 = .ok (.goto 4, 3) := by decide +kernel
theorem dX12_swayOf_102 : decode cX12_swayOf 102 = .ok (.iconst 0, 1) := by decide +kernel
theorem dX12_swayOf_103 : decode cX12_swayOf 103 = .ok (.ireturn, 1) := by decide +kernel
theorem dX12_swayOf_104 : decode cX12_swayOf 104 = .ok (.iload_n 2, 1) := by decide +kernel
theorem dX12_swayOf_105 : decode cX12_swayOf 105 = .ok (.iconst 1, 1) := by decide +kernel
theorem dX12_swayOf_106 : decode cX12_swayOf 106 = .ok (.iadd, 1) := by decide +kernel
theorem dX12_swayOf_107 : decode cX12_swayOf 107 = .ok (.aload_n 0, 1) := by decide +kernel
theorem dX12_swayOf_108 : decode cX12_swayOf 108 = .ok (.getfield 9, 3) := by decide +kernel
theorem dX12_swayOf_111 : decode cX12_swayOf 111 = .ok (.bipush 49, 2) := by decide +kernel
theorem dX12_swayOf_113 : decode cX12_swayOf 113 = .ok (.iconst 4, 1) := by decide +kernel
theorem dX12_swayOf_114 : decode cX12_swayOf 114 = .ok (.iload_n 1, 1) := by decide +kernel
theorem dX12_swayOf_115 : decode cX12_swayOf 115 = .ok (.imul, 1) := by decide +kernel
theorem dX12_swayOf_116 : decode cX12_swayOf 116 = .ok (.iadd, 1) := by decide +kernel
theorem dX12_swayOf_117 : decode cX12_swayOf 117 = .ok (.aload_n 0, 1) := by decide +kernel
theorem dX12_swayOf_118 : decode cX12_swayOf 118 = .ok (.getfield 9, 3) := by decide +kernel
theorem dX12_swayOf_121 : decode cX12_swayOf 121 = .ok (.iconst 0, 1) := by decide +kernel
theorem dX12_swayOf_122 : decode cX12_swayOf 122 = .ok (.iaload, 1) := by decide +kernel
theorem dX12_swayOf_123 : decode cX12_swayOf 123 = .ok (.iconst 4, 1) := by decide +kernel
theorem dX12_swayOf_124 : decode cX12_swayOf 124 = .ok (.irem, 1) := by decide +kernel
theorem dX12_swayOf_125 : decode cX12_swayOf 125 = .ok (.iadd, 1) := by decide +kernel
theorem dX12_swayOf_126 : decode cX12_swayOf 126 = .ok (.iaload, 1) := by decide +kernel
theorem dX12_swayOf_127 : decode cX12_swayOf 127 = .ok (.iadd, 1) := by decide +kernel
theorem dX12_swayOf_128 : decode cX12_swayOf 128 = .ok (.ireturn, 1) := by decide +kernel
theorem dX12_swayOf_129 : decode cX12_swayOf 129 = .ok (.iload_n 2, 1) := by decide +kernel
theorem dX12_swayOf_130 : decode cX12_swayOf 130 = .ok (.ireturn, 1) := by decide +kernel
def zb_X12_swayOf_65 (E : zj_E) (st : List Value) (m : zj_M) : zj_R := (zi_ret (some .int)) E st m
set_option maxRecDepth 20000 in
theorem zs_X12_swayOf_65 : zj_KC cX12_swayOf RX12 3 (3) (some .int) (0, fun _ => 0) 65 (zb_X12_swayOf_65) := (zr_ret dX12_swayOf_65)
def zb_X12_swayOf_52 (E : zj_E) (st : List Value) (m : zj_M) : zj_R := (zi_ald 0 (zi_ild 1 (zi_vc 12 1 zf_X12_hasCompany (zi_eq (zi_ild 2 zb_X12_swayOf_65) (zi_push (.int 0) zb_X12_swayOf_65)) zi_no))) E st m
set_option maxRecDepth 20000 in
theorem zs_X12_swayOf_52 : zj_KC cX12_swayOf RX12 3 (3) (some .int) (0, fun _ => 0) 52 (zb_X12_swayOf_52) := (zr_aldn dX12_swayOf_52 rfl (zr_ildn dX12_swayOf_53 rfl (zr_callV dX12_swayOf_54 zm_X12_hasCompany ⟨⟨zq_1157, zq_77⟩, by decide +kernel, by omega, by decide⟩ rfl rfl zq_1154 zq_1156 zq_36 (zr_ifeq dX12_swayOf_57 (tgt := 64) (by decide) (zr_ildn dX12_swayOf_64 rfl (zs_X12_swayOf_65)) (zr_iconst dX12_swayOf_60 rfl (zr_goto dX12_swayOf_61 (tgt := 65) (by decide) (zs_X12_swayOf_65)))) zr_no)))
def zb_X12_swayOf_66 (E : zj_E) (st : List Value) (m : zj_M) : zj_R := (zi_push (.int 2) (zi_ild 2 (zi_b (fun x y => x * y) (zi_ret (some .int))))) E st m
set_option maxRecDepth 20000 in
theorem zs_X12_swayOf_66 : zj_KC cX12_swayOf RX12 3 (3) (some .int) (0, fun _ => 0) 66 (zb_X12_swayOf_66) := (zr_iconst dX12_swayOf_66 rfl (zr_ildn dX12_swayOf_67 rfl (zr_imul dX12_swayOf_68 (zr_ret dX12_swayOf_69))))
def zb_X12_swayOf_70 (E : zj_E) (st : List Value) (m : zj_M) : zj_R := (zi_ild 2 (zi_push (.int 1) (zi_b (fun x y => x + y) (zi_ret (some .int))))) E st m
set_option maxRecDepth 20000 in
theorem zs_X12_swayOf_70 : zj_KC cX12_swayOf RX12 3 (3) (some .int) (0, fun _ => 0) 70 (zb_X12_swayOf_70) := (zr_ildn dX12_swayOf_70 rfl (zr_iconst dX12_swayOf_71 rfl (zr_iadd dX12_swayOf_72 (zr_ret dX12_swayOf_73))))
def zb_X12_swayOf_87 (E : zj_E) (st : List Value) (m : zj_M) : zj_R := (zi_ret (some .int)) E st m
set_option maxRecDepth 20000 in
theorem zs_X12_swayOf_87 : zj_KC cX12_swayOf RX12 3 (3) (some .int) (0, fun _ => 0) 87 (zb_X12_swayOf_87) := (zr_ret dX12_swayOf_87)
def zb_X12_swayOf_74 (E : zj_E) (st : List Value) (m : zj_M) : zj_R := (zi_ald 0 (zi_ild 1 (zi_vc 12 1 zf_X12_hasCompany (zi_eq (zi_ild 2 zb_X12_swayOf_87) (zi_push (.int 2) zb_X12_swayOf_87)) zi_no))) E st m
set_option maxRecDepth 20000 in
theorem zs_X12_swayOf_74 : zj_KC cX12_swayOf RX12 3 (3) (some .int) (0, fun _ => 0) 74 (zb_X12_swayOf_74) := (zr_aldn dX12_swayOf_74 rfl (zr_ildn dX12_swayOf_75 rfl (zr_callV dX12_swayOf_76 zm_X12_hasCompany ⟨⟨zq_1157, zq_77⟩, by decide +kernel, by omega, by decide⟩ rfl rfl zq_1154 zq_1156 zq_36 (zr_ifeq dX12_swayOf_79 (tgt := 86) (by decide) (zr_ildn dX12_swayOf_86 rfl (zs_X12_swayOf_87)) (zr_iconst dX12_swayOf_82 rfl (zr_goto dX12_swayOf_83 (tgt := 87) (by decide) (zs_X12_swayOf_87)))) zr_no)))
def zb_X12_swayOf_103 (E : zj_E) (st : List Value) (m : zj_M) : zj_R := (zi_ret (some .int)) E st m
set_option maxRecDepth 20000 in
theorem zs_X12_swayOf_103 : zj_KC cX12_swayOf RX12 3 (3) (some .int) (0, fun _ => 0) 103 (zb_X12_swayOf_103) := (zr_ret dX12_swayOf_103)
def zb_X12_swayOf_88 (E : zj_E) (st : List Value) (m : zj_M) : zj_R := (zi_ald 0 (zi_ild 1 (zi_vc 12 1 zf_X12_isStray (zi_eq (zi_push (.int 0) zb_X12_swayOf_103) (zi_push (.int 2) (zi_ild 2 (zi_b (fun x y => x * y) zb_X12_swayOf_103)))) zi_no))) E st m
set_option maxRecDepth 20000 in
theorem zs_X12_swayOf_88 : zj_KC cX12_swayOf RX12 3 (3) (some .int) (0, fun _ => 0) 88 (zb_X12_swayOf_88) := (zr_aldn dX12_swayOf_88 rfl (zr_ildn dX12_swayOf_89 rfl (zr_callV dX12_swayOf_90 zm_X12_isStray ⟨⟨zq_1149, zq_77⟩, by decide +kernel, by omega, by decide⟩ rfl rfl zq_1146 zq_1148 zq_34 (zr_ifeq dX12_swayOf_93 (tgt := 102) (by decide) (zr_iconst dX12_swayOf_102 rfl (zs_X12_swayOf_103)) (zr_iconst dX12_swayOf_96 rfl (zr_ildn dX12_swayOf_97 rfl (zr_imul dX12_swayOf_98 (zr_goto dX12_swayOf_99 (tgt := 103) (by decide) (zs_X12_swayOf_103)))))) zr_no)))
def zb_X12_swayOf_104 (E : zj_E) (st : List Value) (m : zj_M) : zj_R := (zi_ild 2 (zi_push (.int 1) (zi_b (fun x y => x + y) (zi_ald 0 (zi_gf 12 1 (zi_push (.int 49) (zi_push (.int 4) (zi_ild 1 (zi_b (fun x y => x * y) (zi_b (fun x y => x + y) (zi_ald 0 (zi_gf 12 1 (zi_push (.int 0) (zi_iald (zi_push (.int 4) (zi_bd (fun x y => x - x / y * y) (zi_b (fun x y => x + y) (zi_iald (zi_b (fun x y => x + y) (zi_ret (some .int))))))))))))))))))))) E st m
set_option maxRecDepth 20000 in
theorem zs_X12_swayOf_104 : zj_KC cX12_swayOf RX12 3 (3) (some .int) (0, fun _ => 0) 104 (zb_X12_swayOf_104) := (zr_ildn dX12_swayOf_104 rfl (zr_iconst dX12_swayOf_105 rfl (zr_iadd dX12_swayOf_106 (zr_aldn dX12_swayOf_107 rfl (zr_gf dX12_swayOf_108 zfl_X12_9_12 (zr_bipush dX12_swayOf_111 rfl (zr_iconst dX12_swayOf_113 rfl (zr_ildn dX12_swayOf_114 rfl (zr_imul dX12_swayOf_115 (zr_iadd dX12_swayOf_116 (zr_aldn dX12_swayOf_117 rfl (zr_gf dX12_swayOf_118 zfl_X12_9_12 (zr_iconst dX12_swayOf_121 rfl (zr_iald dX12_swayOf_122 (zr_iconst dX12_swayOf_123 rfl (zr_irem dX12_swayOf_124 (zr_iadd dX12_swayOf_125 (zr_iald dX12_swayOf_126 (zr_iadd dX12_swayOf_127 (zr_ret dX12_swayOf_128))))))))))))))))))))
def zb_X12_swayOf_129 (E : zj_E) (st : List Value) (m : zj_M) : zj_R := (zi_ild 2 (zi_ret (some .int))) E st m
set_option maxRecDepth 20000 in
theorem zs_X12_swayOf_129 : zj_KC cX12_swayOf RX12 3 (3) (some .int) (0, fun _ => 0) 129 (zb_X12_swayOf_129) := (zr_ildn dX12_swayOf_129 rfl (zr_ret dX12_swayOf_130))
def zb_X12_swayOf_0 (E : zj_E) (st : List Value) (m : zj_M) : zj_R := (zi_ald 0 (zi_ild 1 (zi_vc 12 1 zf_X12_sumOf (zi_ist 2 (zi_ald 0 (zi_gf 12 1 (zi_push (.int 37) (zi_ild 1 (zi_b (fun x y => x + y) (zi_iald (zi_tsw 1 [zb_X12_swayOf_52, zb_X12_swayOf_66, zb_X12_swayOf_70, zb_X12_swayOf_74, zb_X12_swayOf_88, zb_X12_swayOf_104] zb_X12_swayOf_129)))))))) zi_no))) E st m
set_option maxRecDepth 20000 in
theorem zs_X12_swayOf_0 : zj_KC cX12_swayOf RX12 3 (3) (some .int) (0, fun _ => 0) 0 (zb_X12_swayOf_0) := (zr_aldn dX12_swayOf_0 rfl (zr_ildn dX12_swayOf_1 rfl (zr_callV dX12_swayOf_2 zm_X12_sumOf ⟨⟨zq_1165, zq_77⟩, by decide +kernel, by omega, by decide⟩ rfl rfl zq_1162 zq_1164 zq_38 (zr_istn dX12_swayOf_5 rfl (zr_aldn dX12_swayOf_6 rfl (zr_gf dX12_swayOf_7 zfl_X12_9_12 (zr_bipush dX12_swayOf_10 rfl (zr_ildn dX12_swayOf_12 rfl (zr_iadd dX12_swayOf_13 (zr_iald dX12_swayOf_14 (zr_tsw dX12_swayOf_15 (tgt := 129) (by decide) (hkd := (zs_X12_swayOf_129)) (tg := [52, 66, 70, 74, 88, 104] ) (hn := rfl) (hoff := by decide) (hl := rfl) ⟨(zs_X12_swayOf_52), (zs_X12_swayOf_66), (zs_X12_swayOf_70), (zs_X12_swayOf_74), (zs_X12_swayOf_88), (zs_X12_swayOf_104), trivial⟩)))))))) zr_no)))
def zf_X12_swayOf : zj_F := zj_run 3 zb_X12_swayOf_0
theorem zm_X12_swayOf : zj_MS 3 yX12_swayOf cX12_swayOf 3 (some .int) zf_X12_swayOf := zj_met (own := RX12) rfl (by decide +kernel) (Or.inr (Or.inl rfl)) (zs_X12_swayOf_0)
theorem dX12_paceOf_0 : decode cX12_paceOf 0 = .ok (.aload_n 0, 1) := by decide +kernel
theorem dX12_paceOf_1 : decode cX12_paceOf 1 = .ok (.invokevirtual 152, 3) := by decide +kernel
theorem dX12_paceOf_4 : decode cX12_paceOf 4 = .ok (.ifCond .eq 5, 3) := by decide +kernel
theorem dX12_paceOf_7 : decode cX12_paceOf 7 = .ok (.iconst 0, 1) := by decide +kernel
theorem dX12_paceOf_8 : decode cX12_paceOf 8 = .ok (.ireturn, 1) := by decide +kernel
theorem dX12_paceOf_9 : decode cX12_paceOf 9 = .ok (.aload_n 0, 1) := by decide +kernel
theorem dX12_paceOf_10 : decode cX12_paceOf 10 = .ok (.getfield 9, 3) := by decide +kernel
theorem dX12_paceOf_13 : decode cX12_paceOf 13 = .ok (.iconst 0, 1) := by decide +kernel
theorem dX12_paceOf_14 : decode cX12_paceOf 14 = .ok (.iaload, 1) := by decide +kernel
theorem dX12_paceOf_15 : decode cX12_paceOf 15 = .ok (.iconst 2, 1) := by decide +kernel
theorem dX12_paceOf_16 : decode cX12_paceOf 16 = .ok (.irem, 1) := by decide +kernel
theorem dX12_paceOf_17 : decode cX12_paceOf 17 = .ok (.ifCond .ne 7, 3) := by decide +kernel
theorem dX12_paceOf_20 : decode cX12_paceOf 20 = .ok (.iconst 1, 1) := by decide +kernel
theorem dX12_paceOf_21 : decode cX12_paceOf 21 = .ok (.goto 4, 3) := by decide +kernel
theorem dX12_paceOf_24 : decode cX12_paceOf 24 = .ok (.iconst 0, 1) := by decide +kernel
theorem dX12_paceOf_25 : decode cX12_paceOf 25 = .ok (.istore_n 2, 1) := by decide +kernel
theorem dX12_paceOf_26 : decode cX12_paceOf 26 = .ok (.aload_n 0, 1) := by decide +kernel
theorem dX12_paceOf_27 : decode cX12_paceOf 27 = .ok (.getfield 9, 3) := by decide +kernel
theorem dX12_paceOf_30 : decode cX12_paceOf 30 = .ok (.bipush 37, 2) := by decide +kernel
theorem dX12_paceOf_32 : decode cX12_paceOf 32 = .ok (.iload_n 1, 1) := by decide +kernel
theorem dX12_paceOf_33 : decode cX12_paceOf 33 = .ok (.iadd, 1) := by decide +kernel
theorem dX12_paceOf_34 : decode cX12_paceOf 34 = .ok (.iaload, 1) := by decide +kernel
theorem dX12_paceOf_35 : decode cX12_paceOf 35 = .ok (.tableswitch 66 2 6 #[33, 35, 47, 62, 35], 33) := by decide +kernel
theorem dX12_paceOf_68 : decode cX12_paceOf 68 = .ok (.iload_n 2, 1) := by decide +kernel
theorem dX12_paceOf_69 : decode cX12_paceOf 69 = .ok (.ireturn, 1) := by decide +kernel
theorem dX12_paceOf_70 : decode cX12_paceOf 70 = .ok (.aload_n 0, 1) := by decide +kernel
theorem dX12_paceOf_71 : decode cX12_paceOf 71 = .ok (.getfield 9, 3) := by decide +kernel
theorem dX12_paceOf_74 : decode cX12_paceOf 74 = .ok (.bipush 43, 2) := by decide +kernel
theorem dX12_paceOf_76 : decode cX12_paceOf 76 = .ok (.iload_n 1, 1) := by decide +kernel
theorem dX12_paceOf_77 : decode cX12_paceOf 77 = .ok (.iadd, 1) := by decide +kernel
theorem dX12_paceOf_78 : decode cX12_paceOf 78 = .ok (.iaload, 1) := by decide +kernel
theorem dX12_paceOf_79 : decode cX12_paceOf 79 = .ok (.iconst 3, 1) := by decide +kernel
theorem dX12_paceOf_80 : decode cX12_paceOf 80 = .ok (.irem, 1) := by decide +kernel
theorem dX12_paceOf_81 : decode cX12_paceOf 81 = .ok (.ireturn, 1) := by decide +kernel
theorem dX12_paceOf_82 : decode cX12_paceOf 82 = .ok (.aload_n 0, 1) := by decide +kernel
theorem dX12_paceOf_83 : decode cX12_paceOf 83 = .ok (.iload_n 1, 1) := by decide +kernel
theorem dX12_paceOf_84 : decode cX12_paceOf 84 = .ok (.invokevirtual 145, 3) := by decide +kernel
theorem dX12_paceOf_87 : decode cX12_paceOf 87 = .ok (.ifCond .eq 8, 3) := by decide +kernel
theorem dX12_paceOf_90 : decode cX12_paceOf 90 = .ok (.bipush 15, 2) := by decide +kernel
theorem dX12_paceOf_92 : decode cX12_paceOf 92 = .ok (.goto 4, 3) := by decide +kernel
theorem dX12_paceOf_95 : decode cX12_paceOf 95 = .ok (.iconst 1, 1) := by decide +kernel
theorem dX12_paceOf_96 : decode cX12_paceOf 96 = .ok (.ireturn, 1) := by decide +kernel
theorem dX12_paceOf_97 : decode cX12_paceOf 97 = .ok (.iload_n 2, 1) := by decide +kernel
theorem dX12_paceOf_98 : decode cX12_paceOf 98 = .ok (.iconst 1, 1) := by decide +kernel
theorem dX12_paceOf_99 : decode cX12_paceOf 99 = .ok (.iadd, 1) := by decide +kernel
theorem dX12_paceOf_100 : decode cX12_paceOf 100 = .ok (.ireturn, 1) := by decide +kernel
theorem dX12_paceOf_101 : decode cX12_paceOf 101 = .ok (.iconst 1, 1) := by decide +kernel
theorem dX12_paceOf_102 : decode cX12_paceOf 102 = .ok (.ireturn, 1) := by decide +kernel
def zb_X12_paceOf_68 (E : zj_E) (st : List Value) (m : zj_M) : zj_R := (zi_ild 2 (zi_ret (some .int))) E st m
set_option maxRecDepth 20000 in
theorem zs_X12_paceOf_68 : zj_KC cX12_paceOf RX12 3 (2) (some .int) (0, fun _ => 0) 68 (zb_X12_paceOf_68) := (zr_ildn dX12_paceOf_68 rfl (zr_ret dX12_paceOf_69))
def zb_X12_paceOf_70 (E : zj_E) (st : List Value) (m : zj_M) : zj_R := (zi_ald 0 (zi_gf 12 1 (zi_push (.int 43) (zi_ild 1 (zi_b (fun x y => x + y) (zi_iald (zi_push (.int 3) (zi_bd (fun x y => x - x / y * y) (zi_ret (some .int)))))))))) E st m
set_option maxRecDepth 20000 in
theorem zs_X12_paceOf_70 : zj_KC cX12_paceOf RX12 3 (2) (some .int) (0, fun _ => 0) 70 (zb_X12_paceOf_70) := (zr_aldn dX12_paceOf_70 rfl (zr_gf dX12_paceOf_71 zfl_X12_9_12 (zr_bipush dX12_paceOf_74 rfl (zr_ildn dX12_paceOf_76 rfl (zr_iadd dX12_paceOf_77 (zr_iald dX12_paceOf_78 (zr_iconst dX12_paceOf_79 rfl (zr_irem dX12_paceOf_80 (zr_ret dX12_paceOf_81)))))))))
def zb_X12_paceOf_96 (E : zj_E) (st : List Value) (m : zj_M) : zj_R := (zi_ret (some .int)) E st m
set_option maxRecDepth 20000 in
theorem zs_X12_paceOf_96 : zj_KC cX12_paceOf RX12 3 (2) (some .int) (0, fun _ => 0) 96 (zb_X12_paceOf_96) := (zr_ret dX12_paceOf_96)
def zb_X12_paceOf_82 (E : zj_E) (st : List Value) (m : zj_M) : zj_R := (zi_ald 0 (zi_ild 1 (zi_vc 12 1 zf_X12_hasCompany (zi_eq (zi_push (.int 1) zb_X12_paceOf_96) (zi_push (.int 15) zb_X12_paceOf_96)) zi_no))) E st m
set_option maxRecDepth 20000 in
theorem zs_X12_paceOf_82 : zj_KC cX12_paceOf RX12 3 (2) (some .int) (0, fun _ => 0) 82 (zb_X12_paceOf_82) := (zr_aldn dX12_paceOf_82 rfl (zr_ildn dX12_paceOf_83 rfl (zr_callV dX12_paceOf_84 zm_X12_hasCompany ⟨⟨zq_1157, zq_77⟩, by decide +kernel, by omega, by decide⟩ rfl rfl zq_1154 zq_1156 zq_36 (zr_ifeq dX12_paceOf_87 (tgt := 95) (by decide) (zr_iconst dX12_paceOf_95 rfl (zs_X12_paceOf_96)) (zr_bipush dX12_paceOf_90 rfl (zr_goto dX12_paceOf_92 (tgt := 96) (by decide) (zs_X12_paceOf_96)))) zr_no)))
def zb_X12_paceOf_97 (E : zj_E) (st : List Value) (m : zj_M) : zj_R := (zi_ild 2 (zi_push (.int 1) (zi_b (fun x y => x + y) (zi_ret (some .int))))) E st m
set_option maxRecDepth 20000 in
theorem zs_X12_paceOf_97 : zj_KC cX12_paceOf RX12 3 (2) (some .int) (0, fun _ => 0) 97 (zb_X12_paceOf_97) := (zr_ildn dX12_paceOf_97 rfl (zr_iconst dX12_paceOf_98 rfl (zr_iadd dX12_paceOf_99 (zr_ret dX12_paceOf_100))))
def zb_X12_paceOf_101 (E : zj_E) (st : List Value) (m : zj_M) : zj_R := (zi_push (.int 1) (zi_ret (some .int))) E st m
set_option maxRecDepth 20000 in
theorem zs_X12_paceOf_101 : zj_KC cX12_paceOf RX12 3 (2) (some .int) (0, fun _ => 0) 101 (zb_X12_paceOf_101) := (zr_iconst dX12_paceOf_101 rfl (zr_ret dX12_paceOf_102))
def zb_X12_paceOf_25 (E : zj_E) (st : List Value) (m : zj_M) : zj_R := (zi_ist 2 (zi_ald 0 (zi_gf 12 1 (zi_push (.int 37) (zi_ild 1 (zi_b (fun x y => x + y) (zi_iald (zi_tsw 2 [zb_X12_paceOf_68, zb_X12_paceOf_70, zb_X12_paceOf_82, zb_X12_paceOf_97, zb_X12_paceOf_70] zb_X12_paceOf_101)))))))) E st m
set_option maxRecDepth 20000 in
theorem zs_X12_paceOf_25 : zj_KC cX12_paceOf RX12 3 (2) (some .int) (0, fun _ => 0) 25 (zb_X12_paceOf_25) := (zr_istn dX12_paceOf_25 rfl (zr_aldn dX12_paceOf_26 rfl (zr_gf dX12_paceOf_27 zfl_X12_9_12 (zr_bipush dX12_paceOf_30 rfl (zr_ildn dX12_paceOf_32 rfl (zr_iadd dX12_paceOf_33 (zr_iald dX12_paceOf_34 (zr_tsw dX12_paceOf_35 (tgt := 101) (by decide) (hkd := (zs_X12_paceOf_101)) (tg := [68, 70, 82, 97, 70] ) (hn := rfl) (hoff := by decide) (hl := rfl) ⟨(zs_X12_paceOf_68), (zs_X12_paceOf_70), (zs_X12_paceOf_82), (zs_X12_paceOf_97), (zs_X12_paceOf_70), trivial⟩))))))))
def zb_X12_paceOf_0 (E : zj_E) (st : List Value) (m : zj_M) : zj_R := (zi_ald 0 (zi_vc 12 0 zf_X12_rains (zi_eq (zi_ald 0 (zi_gf 12 1 (zi_push (.int 0) (zi_iald (zi_push (.int 2) (zi_bd (fun x y => x - x / y * y) (zi_eq (zi_push (.int 1) zb_X12_paceOf_25) (zi_push (.int 0) zb_X12_paceOf_25)))))))) (zi_push (.int 0) (zi_ret (some .int)))) zi_no)) E st m
set_option maxRecDepth 20000 in
theorem zs_X12_paceOf_0 : zj_KC cX12_paceOf RX12 3 (2) (some .int) (0, fun _ => 0) 0 (zb_X12_paceOf_0) := (zr_aldn dX12_paceOf_0 rfl (zr_callV dX12_paceOf_1 zm_X12_rains ⟨⟨zq_1181, zq_77⟩, by decide +kernel, by omega, by decide⟩ rfl rfl zq_1178 zq_1180 zq_42 (zr_ifeq dX12_paceOf_4 (tgt := 9) (by decide) (zr_aldn dX12_paceOf_9 rfl (zr_gf dX12_paceOf_10 zfl_X12_9_12 (zr_iconst dX12_paceOf_13 rfl (zr_iald dX12_paceOf_14 (zr_iconst dX12_paceOf_15 rfl (zr_irem dX12_paceOf_16 (zr_ifne dX12_paceOf_17 (tgt := 24) (by decide) (zr_iconst dX12_paceOf_24 rfl (zs_X12_paceOf_25)) (zr_iconst dX12_paceOf_20 rfl (zr_goto dX12_paceOf_21 (tgt := 25) (by decide) (zs_X12_paceOf_25)))))))))) (zr_iconst dX12_paceOf_7 rfl (zr_ret dX12_paceOf_8))) zr_no))
def zf_X12_paceOf : zj_F := zj_run 3 zb_X12_paceOf_0
theorem zm_X12_paceOf : zj_MS 2 yX12_paceOf cX12_paceOf 3 (some .int) zf_X12_paceOf := zj_met (own := RX12) rfl (by decide +kernel) (Or.inr (Or.inl rfl)) (zs_X12_paceOf_0)
theorem dX12_manyStray_0 : decode cX12_manyStray 0 = .ok (.iconst 0, 1) := by decide +kernel
theorem dX12_manyStray_1 : decode cX12_manyStray 1 = .ok (.istore_n 1, 1) := by decide +kernel
theorem dX12_manyStray_2 : decode cX12_manyStray 2 = .ok (.iconst 0, 1) := by decide +kernel
theorem dX12_manyStray_3 : decode cX12_manyStray 3 = .ok (.istore_n 2, 1) := by decide +kernel
theorem dX12_manyStray_4 : decode cX12_manyStray 4 = .ok (.iload_n 2, 1) := by decide +kernel
theorem dX12_manyStray_5 : decode cX12_manyStray 5 = .ok (.aload_n 0, 1) := by decide +kernel
theorem dX12_manyStray_6 : decode cX12_manyStray 6 = .ok (.getfield 9, 3) := by decide +kernel
theorem dX12_manyStray_9 : decode cX12_manyStray 9 = .ok (.bipush 26, 2) := by decide +kernel
theorem dX12_manyStray_11 : decode cX12_manyStray 11 = .ok (.iaload, 1) := by decide +kernel
theorem dX12_manyStray_12 : decode cX12_manyStray 12 = .ok (.if_icmp .ge 37, 3) := by decide +kernel
theorem dX12_manyStray_15 : decode cX12_manyStray 15 = .ok (.iload_n 1, 1) := by decide +kernel
theorem dX12_manyStray_16 : decode cX12_manyStray 16 = .ok (.aload_n 0, 1) := by decide +kernel
theorem dX12_manyStray_17 : decode cX12_manyStray 17 = .ok (.getfield 9, 3) := by decide +kernel
theorem dX12_manyStray_20 : decode cX12_manyStray 20 = .ok (.bipush 14, 2) := by decide +kernel
theorem dX12_manyStray_22 : decode cX12_manyStray 22 = .ok (.iload_n 2, 1) := by decide +kernel
theorem dX12_manyStray_23 : decode cX12_manyStray 23 = .ok (.iadd, 1) := by decide +kernel
theorem dX12_manyStray_24 : decode cX12_manyStray 24 = .ok (.iaload, 1) := by decide +kernel
theorem dX12_manyStray_25 : decode cX12_manyStray 25 = .ok (.ifCond .ne 15, 3) := by decide +kernel
theorem dX12_manyStray_28 : decode cX12_manyStray 28 = .ok (.aload_n 0, 1) := by decide +kernel
theorem dX12_manyStray_29 : decode cX12_manyStray 29 = .ok (.iload_n 2, 1) := by decide +kernel
theorem dX12_manyStray_30 : decode cX12_manyStray 30 = .ok (.invokevirtual 149, 3) := by decide +kernel
theorem dX12_manyStray_33 : decode cX12_manyStray 33 = .ok (.ifCond .eq 7, 3) := by decide +kernel
theorem dX12_manyStray_36 : decode cX12_manyStray 36 = .ok (.iconst 1, 1) := by decide +kernel
theorem dX12_manyStray_37 : decode cX12_manyStray 37 = .ok (.goto 4, 3) := by decide +kernel
theorem dX12_manyStray_40 : decode cX12_manyStray 40 = .ok (.iconst 0, 1) := by decide +kernel
theorem dX12_manyStray_41 : decode cX12_manyStray 41 = .ok (.iadd, 1) := by decide +kernel
theorem dX12_manyStray_42 : decode cX12_manyStray 42 = .ok (.istore_n 1, 1) := by decide +kernel
theorem dX12_manyStray_43 : decode cX12_manyStray 43 = .ok (.iinc 2 1, 3) := by decide +kernel
theorem dX12_manyStray_46 : decode cX12_manyStray 46 = .ok (.goto (-42), 3) := by decide +kernel
theorem dX12_manyStray_49 : decode cX12_manyStray 49 = .ok (.iload_n 1, 1) := by decide +kernel
theorem dX12_manyStray_50 : decode cX12_manyStray 50 = .ok (.ireturn, 1) := by decide +kernel
def zb_X12_manyStray_41 (r4 : zj_K) (E : zj_E) (st : List Value) (m : zj_M) : zj_R := (zi_b (fun x y => x + y) (zi_ist 1 (zi_inc 2 1 r4))) E st m
set_option maxRecDepth 20000 in
theorem zs_X12_manyStray_41 {r4 : zj_K} (h4 : zj_KC cX12_manyStray RX12 3 (2) (some .int) (0, fun _ => 0) 4 r4) : zj_KC cX12_manyStray RX12 3 (2) (some .int) (0, fun _ => 0) 41 (zb_X12_manyStray_41 r4) := (zr_iadd dX12_manyStray_41 (zr_istn dX12_manyStray_42 rfl (zr_inc dX12_manyStray_43 rfl (zr_goto dX12_manyStray_46 (tgt := 4) (by decide) h4))))
def zb_X12_manyStray_40 (r4 : zj_K) (E : zj_E) (st : List Value) (m : zj_M) : zj_R := (zi_push (.int 0) (zb_X12_manyStray_41 r4)) E st m
set_option maxRecDepth 20000 in
theorem zs_X12_manyStray_40 {r4 : zj_K} (h4 : zj_KC cX12_manyStray RX12 3 (2) (some .int) (0, fun _ => 0) 4 r4) : zj_KC cX12_manyStray RX12 3 (2) (some .int) (0, fun _ => 0) 40 (zb_X12_manyStray_40 r4) := (zr_iconst dX12_manyStray_40 rfl (zs_X12_manyStray_41 h4))
def zb_X12_manyStray_4 (r4 : zj_K) (E : zj_E) (st : List Value) (m : zj_M) : zj_R := (zi_ild 2 (zi_ald 0 (zi_gf 12 1 (zi_push (.int 26) (zi_iald (zi_clt (zi_ild 1 (zi_ald 0 (zi_gf 12 1 (zi_push (.int 14) (zi_ild 2 (zi_b (fun x y => x + y) (zi_iald (zi_eq (zi_ald 0 (zi_ild 2 (zi_vc 12 1 zf_X12_isStray (zi_eq (zb_X12_manyStray_40 r4) (zi_push (.int 1) (zb_X12_manyStray_41 r4))) zi_no))) (zb_X12_manyStray_40 r4))))))))) (zi_ild 1 (zi_ret (some .int))))))))) E st m
set_option maxRecDepth 20000 in
theorem zs_X12_manyStray_4 {r4 : zj_K} (h4 : zj_KC cX12_manyStray RX12 3 (2) (some .int) (0, fun _ => 0) 4 r4) : zj_KC cX12_manyStray RX12 3 (2) (some .int) (0, fun _ => 0) 4 (zb_X12_manyStray_4 r4) := (zr_ildn dX12_manyStray_4 rfl (zr_aldn dX12_manyStray_5 rfl (zr_gf dX12_manyStray_6 zfl_X12_9_12 (zr_bipush dX12_manyStray_9 rfl (zr_iald dX12_manyStray_11 (zr_icge dX12_manyStray_12 (tgt := 49) (by decide) (zr_ildn dX12_manyStray_49 rfl (zr_ret dX12_manyStray_50)) (zr_ildn dX12_manyStray_15 rfl (zr_aldn dX12_manyStray_16 rfl (zr_gf dX12_manyStray_17 zfl_X12_9_12 (zr_bipush dX12_manyStray_20 rfl (zr_ildn dX12_manyStray_22 rfl (zr_iadd dX12_manyStray_23 (zr_iald dX12_manyStray_24 (zr_ifne dX12_manyStray_25 (tgt := 40) (by decide) (zs_X12_manyStray_40 h4) (zr_aldn dX12_manyStray_28 rfl (zr_ildn dX12_manyStray_29 rfl (zr_callV dX12_manyStray_30 zm_X12_isStray ⟨⟨zq_1149, zq_77⟩, by decide +kernel, by omega, by decide⟩ rfl rfl zq_1146 zq_1148 zq_34 (zr_ifeq dX12_manyStray_33 (tgt := 40) (by decide) (zs_X12_manyStray_40 h4) (zr_iconst dX12_manyStray_36 rfl (zr_goto dX12_manyStray_37 (tgt := 41) (by decide) (zs_X12_manyStray_41 h4)))) zr_no)))))))))))))))))
def zb_X12_manyStray_0 (E : zj_E) (st : List Value) (m : zj_M) : zj_R := (zi_push (.int 0) (zi_ist 1 (zi_push (.int 0) (zi_ist 2 (zj_lp (zb_X12_manyStray_4) zj_fu))))) E st m
set_option maxRecDepth 20000 in
theorem zs_X12_manyStray_0 : zj_KC cX12_manyStray RX12 3 (2) (some .int) (0, fun _ => 0) 0 (zb_X12_manyStray_0) := (zr_iconst dX12_manyStray_0 rfl (zr_istn dX12_manyStray_1 rfl (zr_iconst dX12_manyStray_2 rfl (zr_istn dX12_manyStray_3 rfl (zr_lp (fun _ h => zs_X12_manyStray_4 h) zj_fu)))))
def zf_X12_manyStray : zj_F := zj_run 3 zb_X12_manyStray_0
theorem zm_X12_manyStray : zj_MS 2 yX12_manyStray cX12_manyStray 3 (some .int) zf_X12_manyStray := zj_met (own := RX12) rfl (by decide +kernel) (Or.inr (Or.inl rfl)) (zs_X12_manyStray_0)
theorem dX12_allMoved_0 : decode cX12_allMoved 0 = .ok (.iconst 0, 1) := by decide +kernel
theorem dX12_allMoved_1 : decode cX12_allMoved 1 = .ok (.istore_n 1, 1) := by decide +kernel
theorem dX12_allMoved_2 : decode cX12_allMoved 2 = .ok (.iconst 0, 1) := by decide +kernel
theorem dX12_allMoved_3 : decode cX12_allMoved 3 = .ok (.istore_n 2, 1) := by decide +kernel
theorem dX12_allMoved_4 : decode cX12_allMoved 4 = .ok (.iload_n 2, 1) := by decide +kernel
theorem dX12_allMoved_5 : decode cX12_allMoved 5 = .ok (.aload_n 0, 1) := by decide +kernel
theorem dX12_allMoved_6 : decode cX12_allMoved 6 = .ok (.getfield 9, 3) := by decide +kernel
theorem dX12_allMoved_9 : decode cX12_allMoved 9 = .ok (.bipush 26, 2) := by decide +kernel
theorem dX12_allMoved_11 : decode cX12_allMoved 11 = .ok (.iaload, 1) := by decide +kernel
theorem dX12_allMoved_12 : decode cX12_allMoved 12 = .ok (.if_icmp .ge 21, 3) := by decide +kernel
theorem dX12_allMoved_15 : decode cX12_allMoved 15 = .ok (.iload_n 1, 1) := by decide +kernel
theorem dX12_allMoved_16 : decode cX12_allMoved 16 = .ok (.aload_n 0, 1) := by decide +kernel
theorem dX12_allMoved_17 : decode cX12_allMoved 17 = .ok (.getfield 9, 3) := by decide +kernel
theorem dX12_allMoved_20 : decode cX12_allMoved 20 = .ok (.bipush 20, 2) := by decide +kernel
theorem dX12_allMoved_22 : decode cX12_allMoved 22 = .ok (.iload_n 2, 1) := by decide +kernel
theorem dX12_allMoved_23 : decode cX12_allMoved 23 = .ok (.iadd, 1) := by decide +kernel
theorem dX12_allMoved_24 : decode cX12_allMoved 24 = .ok (.iaload, 1) := by decide +kernel
theorem dX12_allMoved_25 : decode cX12_allMoved 25 = .ok (.iadd, 1) := by decide +kernel
theorem dX12_allMoved_26 : decode cX12_allMoved 26 = .ok (.istore_n 1, 1) := by decide +kernel
theorem dX12_allMoved_27 : decode cX12_allMoved 27 = .ok (.iinc 2 1, 3) := by decide +kernel
theorem dX12_allMoved_30 : decode cX12_allMoved 30 = .ok (.goto (-26), 3) := by decide +kernel
theorem dX12_allMoved_33 : decode cX12_allMoved 33 = .ok (.iload_n 1, 1) := by decide +kernel
theorem dX12_allMoved_34 : decode cX12_allMoved 34 = .ok (.ireturn, 1) := by decide +kernel
def zb_X12_allMoved_4 (r4 : zj_K) (E : zj_E) (st : List Value) (m : zj_M) : zj_R := (zi_ild 2 (zi_ald 0 (zi_gf 12 1 (zi_push (.int 26) (zi_iald (zi_clt (zi_ild 1 (zi_ald 0 (zi_gf 12 1 (zi_push (.int 20) (zi_ild 2 (zi_b (fun x y => x + y) (zi_iald (zi_b (fun x y => x + y) (zi_ist 1 (zi_inc 2 1 r4)))))))))) (zi_ild 1 (zi_ret (some .int))))))))) E st m
set_option maxRecDepth 20000 in
theorem zs_X12_allMoved_4 {r4 : zj_K} (h4 : zj_KC cX12_allMoved RX12 3 (0) (some .int) (0, fun _ => 0) 4 r4) : zj_KC cX12_allMoved RX12 3 (0) (some .int) (0, fun _ => 0) 4 (zb_X12_allMoved_4 r4) := (zr_ildn dX12_allMoved_4 rfl (zr_aldn dX12_allMoved_5 rfl (zr_gf dX12_allMoved_6 zfl_X12_9_12 (zr_bipush dX12_allMoved_9 rfl (zr_iald dX12_allMoved_11 (zr_icge dX12_allMoved_12 (tgt := 33) (by decide) (zr_ildn dX12_allMoved_33 rfl (zr_ret dX12_allMoved_34)) (zr_ildn dX12_allMoved_15 rfl (zr_aldn dX12_allMoved_16 rfl (zr_gf dX12_allMoved_17 zfl_X12_9_12 (zr_bipush dX12_allMoved_20 rfl (zr_ildn dX12_allMoved_22 rfl (zr_iadd dX12_allMoved_23 (zr_iald dX12_allMoved_24 (zr_iadd dX12_allMoved_25 (zr_istn dX12_allMoved_26 rfl (zr_inc dX12_allMoved_27 rfl (zr_goto dX12_allMoved_30 (tgt := 4) (by decide) h4)))))))))))))))))
def zb_X12_allMoved_0 (E : zj_E) (st : List Value) (m : zj_M) : zj_R := (zi_push (.int 0) (zi_ist 1 (zi_push (.int 0) (zi_ist 2 (zj_lp (zb_X12_allMoved_4) zj_fu))))) E st m
set_option maxRecDepth 20000 in
theorem zs_X12_allMoved_0 : zj_KC cX12_allMoved RX12 3 (0) (some .int) (0, fun _ => 0) 0 (zb_X12_allMoved_0) := (zr_iconst dX12_allMoved_0 rfl (zr_istn dX12_allMoved_1 rfl (zr_iconst dX12_allMoved_2 rfl (zr_istn dX12_allMoved_3 rfl (zr_lp (fun _ h => zs_X12_allMoved_4 h) zj_fu)))))
def zf_X12_allMoved : zj_F := zj_run 3 zb_X12_allMoved_0
theorem zm_X12_allMoved : zj_MS 0 yX12_allMoved cX12_allMoved 3 (some .int) zf_X12_allMoved := zj_met (own := RX12) rfl (by decide +kernel) (Or.inr (Or.inl rfl)) (zs_X12_allMoved_0)
theorem dX12_becomes_0 : decode cX12_becomes 0 = .ok (.aload_n 0, 1) := by decide +kernel
theorem dX12_becomes_1 : decode cX12_becomes 1 = .ok (.getfield 9, 3) := by decide +kernel
theorem dX12_becomes_4 : decode cX12_becomes 4 = .ok (.iload_n 1, 1) := by decide +kernel
theorem dX12_becomes_5 : decode cX12_becomes 5 = .ok (.iaload, 1) := by decide +kernel
theorem dX12_becomes_6 : decode cX12_becomes 6 = .ok (.istore_n 3, 1) := by decide +kernel
theorem dX12_becomes_7 : decode cX12_becomes 7 = .ok (.aload_n 0, 1) := by decide +kernel
theorem dX12_becomes_8 : decode cX12_becomes 8 = .ok (.getfield 9, 3) := by decide +kernel
theorem dX12_becomes_11 : decode cX12_becomes 11 = .ok (.iload_n 1, 1) := by decide +kernel
theorem dX12_becomes_12 : decode cX12_becomes 12 = .ok (.iload_n 2, 1) := by decide +kernel
theorem dX12_becomes_13 : decode cX12_becomes 13 = .ok (.iastore, 1) := by decide +kernel
theorem dX12_becomes_14 : decode cX12_becomes 14 = .ok (.iload_n 3, 1) := by decide +kernel
theorem dX12_becomes_15 : decode cX12_becomes 15 = .ok (.ireturn, 1) := by decide +kernel
def zb_X12_becomes_0 (E : zj_E) (st : List Value) (m : zj_M) : zj_R := (zi_ald 0 (zi_gf 12 1 (zi_ild 1 (zi_iald (zi_ist 3 (zi_ald 0 (zi_gf 12 1 (zi_ild 1 (zi_ild 2 (zi_iast (zi_ild 3 (zi_ret (some .int))))))))))))) E st m
set_option maxRecDepth 20000 in
theorem zs_X12_becomes_0 : zj_KC cX12_becomes RX12 4 (0) (some .int) (0, fun _ => 0) 0 (zb_X12_becomes_0) := (zr_aldn dX12_becomes_0 rfl (zr_gf dX12_becomes_1 zfl_X12_9_12 (zr_ildn dX12_becomes_4 rfl (zr_iald dX12_becomes_5 (zr_istn dX12_becomes_6 rfl (zr_aldn dX12_becomes_7 rfl (zr_gf dX12_becomes_8 zfl_X12_9_12 (zr_ildn dX12_becomes_11 rfl (zr_ildn dX12_becomes_12 rfl (zr_iast dX12_becomes_13 (zr_ildn dX12_becomes_14 rfl (zr_ret dX12_becomes_15))))))))))))
def zf_X12_becomes : zj_F := zj_run 4 zb_X12_becomes_0
theorem zm_X12_becomes : zj_MS 0 yX12_becomes cX12_becomes 4 (some .int) zf_X12_becomes := zj_met (own := RX12) rfl (by decide +kernel) (Or.inr (Or.inl rfl)) (zs_X12_becomes_0)
theorem dX12_road_0 : decode cX12_road 0 = .ok (.iload_n 1, 1) := by decide +kernel
theorem dX12_road_1 : decode cX12_road 1 = .ok (.invokestatic 156, 3) := by decide +kernel
theorem dX12_road_4 : decode cX12_road 4 = .ok (.ifCond .ne 5, 3) := by decide +kernel
theorem dX12_road_7 : decode cX12_road 7 = .ok (.iconst (-1), 1) := by decide +kernel
theorem dX12_road_8 : decode cX12_road 8 = .ok (.ireturn, 1) := by decide +kernel
theorem dX12_road_9 : decode cX12_road 9 = .ok (.iload_n 2, 1) := by decide +kernel
theorem dX12_road_10 : decode cX12_road 10 = .ok (.iconst 0, 1) := by decide +kernel
theorem dX12_road_11 : decode cX12_road 11 = .ok (.ldc 159, 2) := by decide +kernel
theorem dX12_road_13 : decode cX12_road 13 = .ok (.invokestatic 47, 3) := by decide +kernel
theorem dX12_road_16 : decode cX12_road 16 = .ok (.ifCond .eq 15, 3) := by decide +kernel
theorem dX12_road_19 : decode cX12_road 19 = .ok (.aload_n 0, 1) := by decide +kernel
theorem dX12_road_20 : decode cX12_road 20 = .ok (.bipush 33, 2) := by decide +kernel
theorem dX12_road_22 : decode cX12_road 22 = .ok (.iload_n 1, 1) := by decide +kernel
theorem dX12_road_23 : decode cX12_road 23 = .ok (.iadd, 1) := by decide +kernel
theorem dX12_road_24 : decode cX12_road 24 = .ok (.iload_n 2, 1) := by decide +kernel
theorem dX12_road_25 : decode cX12_road 25 = .ok (.invokevirtual 160, 3) := by decide +kernel
theorem dX12_road_28 : decode cX12_road 28 = .ok (.goto 5, 3) := by decide +kernel
theorem dX12_road_31 : decode cX12_road 31 = .ok (.bipush (-2), 2) := by decide +kernel
theorem dX12_road_33 : decode cX12_road 33 = .ok (.ireturn, 1) := by decide +kernel
def zb_X12_road_33 (E : zj_E) (st : List Value) (m : zj_M) : zj_R := (zi_ret (some .int)) E st m
set_option maxRecDepth 20000 in
theorem zs_X12_road_33 : zj_KC cX12_road RX12 3 (2) (some .int) (0, fun _ => 0) 33 (zb_X12_road_33) := (zr_ret dX12_road_33)
def zb_X12_road_0 (E : zj_E) (st : List Value) (m : zj_M) : zj_R := (zi_ild 1 (zi_call 1 zf_X12_isMood (zi_eq (zi_push (.int (-1)) (zi_ret (some .int))) (zi_ild 2 (zi_push (.int 0) (zi_push (.int 65535) (zi_call 3 zf_X12_in (zi_eq (zi_push (.int (-2)) zb_X12_road_33) (zi_ald 0 (zi_push (.int 33) (zi_ild 1 (zi_b (fun x y => x + y) (zi_ild 2 (zi_vc 12 2 zf_X12_becomes zb_X12_road_33 zi_no)))))))))))))) E st m
set_option maxRecDepth 20000 in
theorem zs_X12_road_0 : zj_KC cX12_road RX12 3 (2) (some .int) (0, fun _ => 0) 0 (zb_X12_road_0) := (zr_ildn dX12_road_0 rfl (zr_callS dX12_road_1 zm_X12_isMood ⟨⟨zq_1120, zq_77⟩, by decide +kernel, by omega, by decide⟩ zq_1118 zq_1119 (zr_ifne dX12_road_4 (tgt := 9) (by decide) (zr_ildn dX12_road_9 rfl (zr_iconst dX12_road_10 rfl (zr_ldc dX12_road_11 zq_1121 (zr_callS dX12_road_13 zm_X12_in ⟨⟨zq_1054, zq_77⟩, by decide +kernel, by omega, by decide⟩ zq_1052 zq_1053 (zr_ifeq dX12_road_16 (tgt := 31) (by decide) (zr_bipush dX12_road_31 rfl (zs_X12_road_33)) (zr_aldn dX12_road_19 rfl (zr_bipush dX12_road_20 rfl (zr_ildn dX12_road_22 rfl (zr_iadd dX12_road_23 (zr_ildn dX12_road_24 rfl (zr_callV dX12_road_25 zm_X12_becomes ⟨⟨zq_1125, zq_77⟩, by decide +kernel, by omega, by decide⟩ rfl rfl zq_1122 zq_1124 zq_32 (zr_goto dX12_road_28 (tgt := 33) (by decide) (zs_X12_road_33)) zr_no))))))))))) (zr_iconst dX12_road_7 rfl (zr_ret dX12_road_8)))))
def zf_X12_road : zj_F := zj_run 3 zb_X12_road_0
theorem zm_X12_road : zj_MS 2 yX12_road cX12_road 3 (some .int) zf_X12_road := zj_met (own := RX12) rfl (by decide +kernel) (Or.inr (Or.inl rfl)) (zs_X12_road_0)
theorem dX12_keep_0 : decode cX12_keep 0 = .ok (.iload_n 1, 1) := by decide +kernel
theorem dX12_keep_1 : decode cX12_keep 1 = .ok (.iconst 0, 1) := by decide +kernel
theorem dX12_keep_2 : decode cX12_keep 2 = .ok (.ldc 159, 2) := by decide +kernel
theorem dX12_keep_4 : decode cX12_keep 4 = .ok (.invokestatic 47, 3) := by decide +kernel
theorem dX12_keep_7 : decode cX12_keep 7 = .ok (.ifCond .eq 12, 3) := by decide +kernel
theorem dX12_keep_10 : decode cX12_keep 10 = .ok (.aload_n 0, 1) := by decide +kernel
theorem dX12_keep_11 : decode cX12_keep 11 = .ok (.iconst 1, 1) := by decide +kernel
theorem dX12_keep_12 : decode cX12_keep 12 = .ok (.iload_n 1, 1) := by decide +kernel
theorem dX12_keep_13 : decode cX12_keep 13 = .ok (.invokevirtual 160, 3) := by decide +kernel
theorem dX12_keep_16 : decode cX12_keep 16 = .ok (.goto 5, 3) := by decide +kernel
theorem dX12_keep_19 : decode cX12_keep 19 = .ok (.bipush (-2), 2) := by decide +kernel
theorem dX12_keep_21 : decode cX12_keep 21 = .ok (.ireturn, 1) := by decide +kernel
def zb_X12_keep_21 (E : zj_E) (st : List Value) (m : zj_M) : zj_R := (zi_ret (some .int)) E st m
set_option maxRecDepth 20000 in
theorem zs_X12_keep_21 : zj_KC cX12_keep RX12 2 (1) (some .int) (0, fun _ => 0) 21 (zb_X12_keep_21) := (zr_ret dX12_keep_21)
def zb_X12_keep_0 (E : zj_E) (st : List Value) (m : zj_M) : zj_R := (zi_ild 1 (zi_push (.int 0) (zi_push (.int 65535) (zi_call 3 zf_X12_in (zi_eq (zi_push (.int (-2)) zb_X12_keep_21) (zi_ald 0 (zi_push (.int 1) (zi_ild 1 (zi_vc 12 2 zf_X12_becomes zb_X12_keep_21 zi_no))))))))) E st m
set_option maxRecDepth 20000 in
theorem zs_X12_keep_0 : zj_KC cX12_keep RX12 2 (1) (some .int) (0, fun _ => 0) 0 (zb_X12_keep_0) := (zr_ildn dX12_keep_0 rfl (zr_iconst dX12_keep_1 rfl (zr_ldc dX12_keep_2 zq_1121 (zr_callS dX12_keep_4 zm_X12_in ⟨⟨zq_1054, zq_77⟩, by decide +kernel, by omega, by decide⟩ zq_1052 zq_1053 (zr_ifeq dX12_keep_7 (tgt := 19) (by decide) (zr_bipush dX12_keep_19 rfl (zs_X12_keep_21)) (zr_aldn dX12_keep_10 rfl (zr_iconst dX12_keep_11 rfl (zr_ildn dX12_keep_12 rfl (zr_callV dX12_keep_13 zm_X12_becomes ⟨⟨zq_1125, zq_77⟩, by decide +kernel, by omega, by decide⟩ rfl rfl zq_1122 zq_1124 zq_32 (zr_goto dX12_keep_16 (tgt := 21) (by decide) (zs_X12_keep_21)) zr_no)))))))))
def zf_X12_keep : zj_F := zj_run 2 zb_X12_keep_0
theorem zm_X12_keep : zj_MS 1 yX12_keep cX12_keep 2 (some .int) zf_X12_keep := zj_met (own := RX12) rfl (by decide +kernel) (Or.inr (Or.inl rfl)) (zs_X12_keep_0)
theorem dX12_walker_0 : decode cX12_walker 0 = .ok (.iload_n 1, 1) := by decide +kernel
theorem dX12_walker_1 : decode cX12_walker 1 = .ok (.iconst 0, 1) := by decide +kernel
theorem dX12_walker_2 : decode cX12_walker 2 = .ok (.bipush 6, 2) := by decide +kernel
theorem dX12_walker_4 : decode cX12_walker 4 = .ok (.invokestatic 47, 3) := by decide +kernel
theorem dX12_walker_7 : decode cX12_walker 7 = .ok (.ifCond .eq 18, 3) := by decide +kernel
theorem dX12_walker_10 : decode cX12_walker 10 = .ok (.iload_n 3, 1) := by decide +kernel
theorem dX12_walker_11 : decode cX12_walker 11 = .ok (.invokestatic 163, 3) := by decide +kernel
theorem dX12_walker_14 : decode cX12_walker 14 = .ok (.ifCond .eq 11, 3) := by decide +kernel
theorem dX12_walker_17 : decode cX12_walker 17 = .ok (.iload 4, 2) := by decide +kernel
theorem dX12_walker_19 : decode cX12_walker 19 = .ok (.invokestatic 156, 3) := by decide +kernel
theorem dX12_walker_22 : decode cX12_walker 22 = .ok (.ifCond .ne 5, 3) := by decide +kernel
theorem dX12_walker_25 : decode cX12_walker 25 = .ok (.iconst (-1), 1) := by decide +kernel
theorem dX12_walker_26 : decode cX12_walker 26 = .ok (.ireturn, 1) := by decide +kernel
theorem dX12_walker_27 : decode cX12_walker 27 = .ok (.iload_n 2, 1) := by decide +kernel
theorem dX12_walker_28 : decode cX12_walker 28 = .ok (.iconst 0, 1) := by decide +kernel
theorem dX12_walker_29 : decode cX12_walker 29 = .ok (.bipush 9, 2) := by decide +kernel
theorem dX12_walker_31 : decode cX12_walker 31 = .ok (.invokestatic 47, 3) := by decide +kernel
theorem dX12_walker_34 : decode cX12_walker 34 = .ok (.ifCond .ne 6, 3) := by decide +kernel
theorem dX12_walker_37 : decode cX12_walker 37 = .ok (.bipush (-2), 2) := by decide +kernel
theorem dX12_walker_39 : decode cX12_walker 39 = .ok (.ireturn, 1) := by decide +kernel
theorem dX12_walker_40 : decode cX12_walker 40 = .ok (.aload_n 0, 1) := by decide +kernel
theorem dX12_walker_41 : decode cX12_walker 41 = .ok (.getfield 9, 3) := by decide +kernel
theorem dX12_walker_44 : decode cX12_walker 44 = .ok (.bipush 26, 2) := by decide +kernel
theorem dX12_walker_46 : decode cX12_walker 46 = .ok (.iaload, 1) := by decide +kernel
theorem dX12_walker_47 : decode cX12_walker 47 = .ok (.bipush 6, 2) := by decide +kernel
theorem dX12_walker_49 : decode cX12_walker 49 = .ok (.if_icmp .ne 6, 3) := by decide +kernel
theorem dX12_walker_52 : decode cX12_walker 52 = .ok (.bipush (-4), 2) := by decide +kernel
theorem dX12_walker_54 : decode cX12_walker 54 = .ok (.ireturn, 1) := by decide +kernel
theorem dX12_walker_55 : decode cX12_walker 55 = .ok (.aload_n 0, 1) := by decide +kernel
theorem dX12_walker_56 : decode cX12_walker 56 = .ok (.getfield 9, 3) := by decide +kernel
theorem dX12_walker_59 : decode cX12_walker 59 = .ok (.bipush 26, 2) := by decide +kernel
theorem dX12_walker_61 : decode cX12_walker 61 = .ok (.iaload, 1) := by decide +kernel
theorem dX12_walker_62 : decode cX12_walker 62 = .ok (.istore 5, 2) := by decide +kernel
theorem dX12_walker_64 : decode cX12_walker 64 = .ok (.aload_n 0, 1) := by decide +kernel
theorem dX12_walker_65 : decode cX12_walker 65 = .ok (.getfield 9, 3) := by decide +kernel
theorem dX12_walker_68 : decode cX12_walker 68 = .ok (.bipush 37, 2) := by decide +kernel
theorem dX12_walker_70 : decode cX12_walker 70 = .ok (.iload 5, 2) := by decide +kernel
theorem dX12_walker_72 : decode cX12_walker 72 = .ok (.iadd, 1) := by decide +kernel
theorem dX12_walker_73 : decode cX12_walker 73 = .ok (.iload_n 1, 1) := by decide +kernel
theorem dX12_walker_74 : decode cX12_walker 74 = .ok (.iastore, 1) := by decide +kernel
theorem dX12_walker_75 : decode cX12_walker 75 = .ok (.aload_n 0, 1) := by decide +kernel
theorem dX12_walker_76 : decode cX12_walker 76 = .ok (.getfield 9, 3) := by decide +kernel
theorem dX12_walker_79 : decode cX12_walker 79 = .ok (.bipush 43, 2) := by decide +kernel
theorem dX12_walker_81 : decode cX12_walker 81 = .ok (.iload 5, 2) := by decide +kernel
theorem dX12_walker_83 : decode cX12_walker 83 = .ok (.iadd, 1) := by decide +kernel
theorem dX12_walker_84 : decode cX12_walker 84 = .ok (.iload_n 2, 1) := by decide +kernel
theorem dX12_walker_85 : decode cX12_walker 85 = .ok (.iastore, 1) := by decide +kernel
theorem dX12_walker_86 : decode cX12_walker 86 = .ok (.aload_n 0, 1) := by decide +kernel
theorem dX12_walker_87 : decode cX12_walker 87 = .ok (.getfield 9, 3) := by decide +kernel
theorem dX12_walker_90 : decode cX12_walker 90 = .ok (.iconst 2, 1) := by decide +kernel
theorem dX12_walker_91 : decode cX12_walker 91 = .ok (.iload 5, 2) := by decide +kernel
theorem dX12_walker_93 : decode cX12_walker 93 = .ok (.iadd, 1) := by decide +kernel
theorem dX12_walker_94 : decode cX12_walker 94 = .ok (.iload_n 3, 1) := by decide +kernel
theorem dX12_walker_95 : decode cX12_walker 95 = .ok (.iastore, 1) := by decide +kernel
theorem dX12_walker_96 : decode cX12_walker 96 = .ok (.aload_n 0, 1) := by decide +kernel
theorem dX12_walker_97 : decode cX12_walker 97 = .ok (.getfield 9, 3) := by decide +kernel
theorem dX12_walker_100 : decode cX12_walker 100 = .ok (.bipush 8, 2) := by decide +kernel
theorem dX12_walker_102 : decode cX12_walker 102 = .ok (.iload 5, 2) := by decide +kernel
theorem dX12_walker_104 : decode cX12_walker 104 = .ok (.iadd, 1) := by decide +kernel
theorem dX12_walker_105 : decode cX12_walker 105 = .ok (.iload 4, 2) := by decide +kernel
theorem dX12_walker_107 : decode cX12_walker 107 = .ok (.iastore, 1) := by decide +kernel
theorem dX12_walker_108 : decode cX12_walker 108 = .ok (.aload_n 0, 1) := by decide +kernel
theorem dX12_walker_109 : decode cX12_walker 109 = .ok (.getfield 9, 3) := by decide +kernel
theorem dX12_walker_112 : decode cX12_walker 112 = .ok (.bipush 14, 2) := by decide +kernel
theorem dX12_walker_114 : decode cX12_walker 114 = .ok (.iload 5, 2) := by decide +kernel
theorem dX12_walker_116 : decode cX12_walker 116 = .ok (.iadd, 1) := by decide +kernel
theorem dX12_walker_117 : decode cX12_walker 117 = .ok (.iconst 0, 1) := by decide +kernel
theorem dX12_walker_118 : decode cX12_walker 118 = .ok (.iastore, 1) := by decide +kernel
theorem dX12_walker_119 : decode cX12_walker 119 = .ok (.aload_n 0, 1) := by decide +kernel
theorem dX12_walker_120 : decode cX12_walker 120 = .ok (.getfield 9, 3) := by decide +kernel
theorem dX12_walker_123 : decode cX12_walker 123 = .ok (.bipush 20, 2) := by decide +kernel
theorem dX12_walker_125 : decode cX12_walker 125 = .ok (.iload 5, 2) := by decide +kernel
theorem dX12_walker_127 : decode cX12_walker 127 = .ok (.iadd, 1) := by decide +kernel
theorem dX12_walker_128 : decode cX12_walker 128 = .ok (.iconst 0, 1) := by decide +kernel
theorem dX12_walker_129 : decode cX12_walker 129 = .ok (.iastore, 1) := by decide +kernel
theorem dX12_walker_130 : decode cX12_walker 130 = .ok (.iconst 0, 1) := by decide +kernel
theorem dX12_walker_131 : decode cX12_walker 131 = .ok (.istore 6, 2) := by decide +kernel
theorem dX12_walker_133 : decode cX12_walker 133 = .ok (.iload 6, 2) := by decide +kernel
theorem dX12_walker_135 : decode cX12_walker 135 = .ok (.iconst 4, 1) := by decide +kernel
theorem dX12_walker_136 : decode cX12_walker 136 = .ok (.if_icmp .ge 25, 3) := by decide +kernel
theorem dX12_walker_139 : decode cX12_walker 139 = .ok (.aload_n 0, 1) := by decide +kernel
theorem dX12_walker_140 : decode cX12_walker 140 = .ok (.getfield 9, 3) := by decide +kernel
theorem dX12_walker_143 : decode cX12_walker 143 = .ok (.bipush 49, 2) := by decide +kernel
theorem dX12_walker_145 : decode cX12_walker 145 = .ok (.iconst 4, 1) := by decide +kernel
theorem dX12_walker_146 : decode cX12_walker 146 = .ok (.iload 5, 2) := by decide +kernel
theorem dX12_walker_148 : decode cX12_walker 148 = .ok (.imul, 1) := by decide +kernel
theorem dX12_walker_149 : decode cX12_walker 149 = .ok (.iadd, 1) := by decide +kernel
theorem dX12_walker_150 : decode cX12_walker 150 = .ok (.iload 6, 2) := by decide +kernel
theorem dX12_walker_152 : decode cX12_walker 152 = .ok (.iadd, 1) := by decide +kernel
theorem dX12_walker_153 : decode cX12_walker 153 = .ok (.iconst 0, 1) := by decide +kernel
theorem dX12_walker_154 : decode cX12_walker 154 = .ok (.iastore, 1) := by decide +kernel
theorem dX12_walker_155 : decode cX12_walker 155 = .ok (.iinc 6 1, 3) := by decide +kernel
theorem dX12_walker_158 : decode cX12_walker 158 = .ok (.goto (-25), 3) := by decide +kernel
theorem dX12_walker_161 : decode cX12_walker 161 = .ok (.aload_n 0, 1) := by decide +kernel
theorem dX12_walker_162 : decode cX12_walker 162 = .ok (.getfield 9, 3) := by decide +kernel
theorem dX12_walker_165 : decode cX12_walker 165 = .ok (.bipush 26, 2) := by decide +kernel
theorem dX12_walker_167 : decode cX12_walker 167 = .ok (.dup2, 1) := by decide +kernel
theorem dX12_walker_168 : decode cX12_walker 168 = .ok (.iaload, 1) := by decide +kernel
theorem dX12_walker_169 : decode cX12_walker 169 = .ok (.iconst 1, 1) := by decide +kernel
theorem dX12_walker_170 : decode cX12_walker 170 = .ok (.iadd, 1) := by decide +kernel
theorem dX12_walker_171 : decode cX12_walker 171 = .ok (.iastore, 1) := by decide +kernel
theorem dX12_walker_172 : decode cX12_walker 172 = .ok (.iload 5, 2) := by decide +kernel
theorem dX12_walker_174 : decode cX12_walker 174 = .ok (.ireturn, 1) := by decide +kernel
def zb_X12_walker_25 (E : zj_E) (st : List Value) (m : zj_M) : zj_R := (zi_push (.int (-1)) (zi_ret (some .int))) E st m
set_option maxRecDepth 20000 in
theorem zs_X12_walker_25 : zj_KC cX12_walker RX12 7 (2) (some .int) (0, fun _ => 0) 25 (zb_X12_walker_25) := (zr_iconst dX12_walker_25 rfl (zr_ret dX12_walker_26))
def zb_X12_walker_133 (r133 : zj_K) (E : zj_E) (st : List Value) (m : zj_M) : zj_R := (zi_ild 6 (zi_push (.int 4) (zi_clt (zi_ald 0 (zi_gf 12 1 (zi_push (.int 49) (zi_push (.int 4) (zi_ild 5 (zi_b (fun x y => x * y) (zi_b (fun x y => x + y) (zi_ild 6 (zi_b (fun x y => x + y) (zi_push (.int 0) (zi_iast (zi_inc 6 1 r133)))))))))))) (zi_ald 0 (zi_gf 12 1 (zi_push (.int 26) (zi_dup2 (zi_iald (zi_push (.int 1) (zi_b (fun x y => x + y) (zi_iast (zi_ild 5 (zi_ret (some .int)))))))))))))) E st m
set_option maxRecDepth 20000 in
theorem zs_X12_walker_133 {r133 : zj_K} (h133 : zj_KC cX12_walker RX12 7 (2) (some .int) (0, fun _ => 0) 133 r133) : zj_KC cX12_walker RX12 7 (2) (some .int) (0, fun _ => 0) 133 (zb_X12_walker_133 r133) := (zr_ild dX12_walker_133 (zr_iconst dX12_walker_135 rfl (zr_icge dX12_walker_136 (tgt := 161) (by decide) (zr_aldn dX12_walker_161 rfl (zr_gf dX12_walker_162 zfl_X12_9_12 (zr_bipush dX12_walker_165 rfl (zr_dup2 dX12_walker_167 (zr_iald dX12_walker_168 (zr_iconst dX12_walker_169 rfl (zr_iadd dX12_walker_170 (zr_iast dX12_walker_171 (zr_ild dX12_walker_172 (zr_ret dX12_walker_174)))))))))) (zr_aldn dX12_walker_139 rfl (zr_gf dX12_walker_140 zfl_X12_9_12 (zr_bipush dX12_walker_143 rfl (zr_iconst dX12_walker_145 rfl (zr_ild dX12_walker_146 (zr_imul dX12_walker_148 (zr_iadd dX12_walker_149 (zr_ild dX12_walker_150 (zr_iadd dX12_walker_152 (zr_iconst dX12_walker_153 rfl (zr_iast dX12_walker_154 (zr_inc dX12_walker_155 rfl (zr_goto dX12_walker_158 (tgt := 133) (by decide) h133))))))))))))))))
def zb_X12_walker_0 (E : zj_E) (st : List Value) (m : zj_M) : zj_R := (zi_ild 1 (zi_push (.int 0) (zi_push (.int 6) (zi_call 3 zf_X12_in (zi_eq zb_X12_walker_25 (zi_ild 3 (zi_call 1 zf_X12_isCell (zi_eq zb_X12_walker_25 (zi_ild 4 (zi_call 1 zf_X12_isMood (zi_eq zb_X12_walker_25 (zi_ild 2 (zi_push (.int 0) (zi_push (.int 9) (zi_call 3 zf_X12_in (zi_eq (zi_push (.int (-2)) (zi_ret (some .int))) (zi_ald 0 (zi_gf 12 1 (zi_push (.int 26) (zi_iald (zi_push (.int 6) (zi_ceq (zi_push (.int (-4)) (zi_ret (some .int))) (zi_ald 0 (zi_gf 12 1 (zi_push (.int 26) (zi_iald (zi_ist 5 (zi_ald 0 (zi_gf 12 1 (zi_push (.int 37) (zi_ild 5 (zi_b (fun x y => x + y) (zi_ild 1 (zi_iast (zi_ald 0 (zi_gf 12 1 (zi_push (.int 43) (zi_ild 5 (zi_b (fun x y => x + y) (zi_ild 2 (zi_iast (zi_ald 0 (zi_gf 12 1 (zi_push (.int 2) (zi_ild 5 (zi_b (fun x y => x + y) (zi_ild 3 (zi_iast (zi_ald 0 (zi_gf 12 1 (zi_push (.int 8) (zi_ild 5 (zi_b (fun x y => x + y) (zi_ild 4 (zi_iast (zi_ald 0 (zi_gf 12 1 (zi_push (.int 14) (zi_ild 5 (zi_b (fun x y => x + y) (zi_push (.int 0) (zi_iast (zi_ald 0 (zi_gf 12 1 (zi_push (.int 20) (zi_ild 5 (zi_b (fun x y => x + y) (zi_push (.int 0) (zi_iast (zi_push (.int 0) (zi_ist 6 (zj_lp (zb_X12_walker_133) zj_fu)))))))))))))))))))))))))))))))))))))))))))))))))))))))))))))))))))))))) E st m
set_option maxRecDepth 20000 in
theorem zs_X12_walker_0 : zj_KC cX12_walker RX12 7 (2) (some .int) (0, fun _ => 0) 0 (zb_X12_walker_0) := (zr_ildn dX12_walker_0 rfl (zr_iconst dX12_walker_1 rfl (zr_bipush dX12_walker_2 rfl (zr_callS dX12_walker_4 zm_X12_in ⟨⟨zq_1054, zq_77⟩, by decide +kernel, by omega, by decide⟩ zq_1052 zq_1053 (zr_ifeq dX12_walker_7 (tgt := 25) (by decide) (zs_X12_walker_25) (zr_ildn dX12_walker_10 rfl (zr_callS dX12_walker_11 zm_X12_isCell ⟨⟨zq_1136, zq_77⟩, by decide +kernel, by omega, by decide⟩ zq_1134 zq_1135 (zr_ifeq dX12_walker_14 (tgt := 25) (by decide) (zs_X12_walker_25) (zr_ild dX12_walker_17 (zr_callS dX12_walker_19 zm_X12_isMood ⟨⟨zq_1120, zq_77⟩, by decide +kernel, by omega, by decide⟩ zq_1118 zq_1119 (zr_ifne dX12_walker_22 (tgt := 27) (by decide) (zr_ildn dX12_walker_27 rfl (zr_iconst dX12_walker_28 rfl (zr_bipush dX12_walker_29 rfl (zr_callS dX12_walker_31 zm_X12_in ⟨⟨zq_1054, zq_77⟩, by decide +kernel, by omega, by decide⟩ zq_1052 zq_1053 (zr_ifne dX12_walker_34 (tgt := 40) (by decide) (zr_aldn dX12_walker_40 rfl (zr_gf dX12_walker_41 zfl_X12_9_12 (zr_bipush dX12_walker_44 rfl (zr_iald dX12_walker_46 (zr_bipush dX12_walker_47 rfl (zr_icne dX12_walker_49 (tgt := 55) (by decide) (zr_aldn dX12_walker_55 rfl (zr_gf dX12_walker_56 zfl_X12_9_12 (zr_bipush dX12_walker_59 rfl (zr_iald dX12_walker_61 (zr_ist dX12_walker_62 (zr_aldn dX12_walker_64 rfl (zr_gf dX12_walker_65 zfl_X12_9_12 (zr_bipush dX12_walker_68 rfl (zr_ild dX12_walker_70 (zr_iadd dX12_walker_72 (zr_ildn dX12_walker_73 rfl (zr_iast dX12_walker_74 (zr_aldn dX12_walker_75 rfl (zr_gf dX12_walker_76 zfl_X12_9_12 (zr_bipush dX12_walker_79 rfl (zr_ild dX12_walker_81 (zr_iadd dX12_walker_83 (zr_ildn dX12_walker_84 rfl (zr_iast dX12_walker_85 (zr_aldn dX12_walker_86 rfl (zr_gf dX12_walker_87 zfl_X12_9_12 (zr_iconst dX12_walker_90 rfl (zr_ild dX12_walker_91 (zr_iadd dX12_walker_93 (zr_ildn dX12_walker_94 rfl (zr_iast dX12_walker_95 (zr_aldn dX12_walker_96 rfl (zr_gf dX12_walker_97 zfl_X12_9_12 (zr_bipush dX12_walker_100 rfl (zr_ild dX12_walker_102 (zr_iadd dX12_walker_104 (zr_ild dX12_walker_105 (zr_iast dX12_walker_107 (zr_aldn dX12_walker_108 rfl (zr_gf dX12_walker_109 zfl_X12_9_12 (zr_bipush dX12_walker_112 rfl (zr_ild dX12_walker_114 (zr_iadd dX12_walker_116 (zr_iconst dX12_walker_117 rfl (zr_iast dX12_walker_118 (zr_aldn dX12_walker_119 rfl (zr_gf dX12_walker_120 zfl_X12_9_12 (zr_bipush dX12_walker_123 rfl (zr_ild dX12_walker_125 (zr_iadd dX12_walker_127 (zr_iconst dX12_walker_128 rfl (zr_iast dX12_walker_129 (zr_iconst dX12_walker_130 rfl (zr_ist dX12_walker_131 (zr_lp (fun _ h => zs_X12_walker_133 h) zj_fu)))))))))))))))))))))))))))))))))))))))))))))))))) (zr_bipush dX12_walker_52 rfl (zr_ret dX12_walker_54)))))))) (zr_bipush dX12_walker_37 rfl (zr_ret dX12_walker_39))))))) (zs_X12_walker_25))))))))))))
def zf_X12_walker : zj_F := zj_run 7 zb_X12_walker_0
theorem zm_X12_walker : zj_MS 2 yX12_walker cX12_walker 7 (some .int) zf_X12_walker := zj_met (own := RX12) rfl (by decide +kernel) (Or.inr (Or.inl rfl)) (zs_X12_walker_0)
theorem dX12_of_0 : decode cX12_of 0 = .ok (.aload_n 0, 1) := by decide +kernel
theorem dX12_of_1 : decode cX12_of 1 = .ok (.iload_n 1, 1) := by decide +kernel
theorem dX12_of_2 : decode cX12_of 2 = .ok (.invokevirtual 166, 3) := by decide +kernel
theorem dX12_of_5 : decode cX12_of 5 = .ok (.ifCond .ne 6, 3) := by decide +kernel
theorem dX12_of_8 : decode cX12_of 8 = .ok (.ldc 169, 2) := by decide +kernel
theorem dX12_of_10 : decode cX12_of 10 = .ok (.ireturn, 1) := by decide +kernel
theorem dX12_of_11 : decode cX12_of 11 = .ok (.iload_n 2, 1) := by decide +kernel
theorem dX12_of_12 : decode cX12_of 12 = .ok (.tableswitch 155 0 9 #[56, 66, 76, 85, 95, 105, 115, 129, 143, 149], 56) := by decide +kernel
theorem dX12_of_68 : decode cX12_of 68 = .ok (.aload_n 0, 1) := by decide +kernel
theorem dX12_of_69 : decode cX12_of 69 = .ok (.getfield 9, 3) := by decide +kernel
theorem dX12_of_72 : decode cX12_of 72 = .ok (.bipush 37, 2) := by decide +kernel
theorem dX12_of_74 : decode cX12_of 74 = .ok (.iload_n 1, 1) := by decide +kernel
theorem dX12_of_75 : decode cX12_of 75 = .ok (.iadd, 1) := by decide +kernel
theorem dX12_of_76 : decode cX12_of 76 = .ok (.iaload, 1) := by decide +kernel
theorem dX12_of_77 : decode cX12_of 77 = .ok (.ireturn, 1) := by decide +kernel
theorem dX12_of_78 : decode cX12_of 78 = .ok (.aload_n 0, 1) := by decide +kernel
theorem dX12_of_79 : decode cX12_of 79 = .ok (.getfield 9, 3) := by decide +kernel
theorem dX12_of_82 : decode cX12_of 82 = .ok (.bipush 43, 2) := by decide +kernel
theorem dX12_of_84 : decode cX12_of 84 = .ok (.iload_n 1, 1) := by decide +kernel
theorem dX12_of_85 : decode cX12_of 85 = .ok (.iadd, 1) := by decide +kernel
theorem dX12_of_86 : decode cX12_of 86 = .ok (.iaload, 1) := by decide +kernel
theorem dX12_of_87 : decode cX12_of 87 = .ok (.ireturn, 1) := by decide +kernel
theorem dX12_of_88 : decode cX12_of 88 = .ok (.aload_n 0, 1) := by decide +kernel
theorem dX12_of_89 : decode cX12_of 89 = .ok (.getfield 9, 3) := by decide +kernel
theorem dX12_of_92 : decode cX12_of 92 = .ok (.iconst 2, 1) := by decide +kernel
theorem dX12_of_93 : decode cX12_of 93 = .ok (.iload_n 1, 1) := by decide +kernel
theorem dX12_of_94 : decode cX12_of 94 = .ok (.iadd, 1) := by decide +kernel
theorem dX12_of_95 : decode cX12_of 95 = .ok (.iaload, 1) := by decide +kernel
theorem dX12_of_96 : decode cX12_of 96 = .ok (.ireturn, 1) := by decide +kernel
theorem dX12_of_97 : decode cX12_of 97 = .ok (.aload_n 0, 1) := by decide +kernel
theorem dX12_of_98 : decode cX12_of 98 = .ok (.getfield 9, 3) := by decide +kernel
theorem dX12_of_101 : decode cX12_of 101 = .ok (.bipush 8, 2) := by decide +kernel
theorem dX12_of_103 : decode cX12_of 103 = .ok (.iload_n 1, 1) := by decide +kernel
theorem dX12_of_104 : decode cX12_of 104 = .ok (.iadd, 1) := by decide +kernel
theorem dX12_of_105 : decode cX12_of 105 = .ok (.iaload, 1) := by decide +kernel
theorem dX12_of_106 : decode cX12_of 106 = .ok (.ireturn, 1) := by decide +kernel
theorem dX12_of_107 : decode cX12_of 107 = .ok (.aload_n 0, 1) := by decide +kernel
theorem dX12_of_108 : decode cX12_of 108 = .ok (.getfield 9, 3) := by decide +kernel
theorem dX12_of_111 : decode cX12_of 111 = .ok (.bipush 14, 2) := by decide +kernel
theorem dX12_of_113 : decode cX12_of 113 = .ok (.iload_n 1, 1) := by decide +kernel
theorem dX12_of_114 : decode cX12_of 114 = .ok (.iadd, 1) := by decide +kernel
theorem dX12_of_115 : decode cX12_of 115 = .ok (.iaload, 1) := by decide +kernel
theorem dX12_of_116 : decode cX12_of 116 = .ok (.ireturn, 1) := by decide +kernel
theorem dX12_of_117 : decode cX12_of 117 = .ok (.aload_n 0, 1) := by decide +kernel
theorem dX12_of_118 : decode cX12_of 118 = .ok (.getfield 9, 3) := by decide +kernel
theorem dX12_of_121 : decode cX12_of 121 = .ok (.bipush 20, 2) := by decide +kernel
theorem dX12_of_123 : decode cX12_of 123 = .ok (.iload_n 1, 1) := by decide +kernel
theorem dX12_of_124 : decode cX12_of 124 = .ok (.iadd, 1) := by decide +kernel
theorem dX12_of_125 : decode cX12_of 125 = .ok (.iaload, 1) := by decide +kernel
theorem dX12_of_126 : decode cX12_of 126 = .ok (.ireturn, 1) := by decide +kernel
theorem dX12_of_127 : decode cX12_of 127 = .ok (.aload_n 0, 1) := by decide +kernel
theorem dX12_of_128 : decode cX12_of 128 = .ok (.iload_n 1, 1) := by decide +kernel
theorem dX12_of_129 : decode cX12_of 129 = .ok (.invokevirtual 149, 3) := by decide +kernel
theorem dX12_of_132 : decode cX12_of 132 = .ok (.ifCond .eq 7, 3) := by decide +kernel
theorem dX12_of_135 : decode cX12_of 135 = .ok (.iconst 1, 1) := by decide +kernel
theorem dX12_of_136 : decode cX12_of 136 = .ok (.goto 4, 3) := by decide +kernel
theorem dX12_of_139 : decode cX12_of 139 = .ok (.iconst 0, 1) := by decide +kernel
theorem dX12_of_140 : decode cX12_of 140 = .ok (.ireturn, 1) := by decide +kernel
theorem dX12_of_141 : decode cX12_of 141 = .ok (.aload_n 0, 1) := by decide +kernel
theorem dX12_of_142 : decode cX12_of 142 = .ok (.iload_n 1, 1) := by decide +kernel
theorem dX12_of_143 : decode cX12_of 143 = .ok (.invokevirtual 145, 3) := by decide +kernel
theorem dX12_of_146 : decode cX12_of 146 = .ok (.ifCond .eq 7, 3) := by decide +kernel
theorem dX12_of_149 : decode cX12_of 149 = .ok (.iconst 1, 1) := by decide +kernel
theorem dX12_of_150 : decode cX12_of 150 = .ok (.goto 4, 3) := by decide +kernel
theorem dX12_of_153 : decode cX12_of 153 = .ok (.iconst 0, 1) := by decide +kernel
theorem dX12_of_154 : decode cX12_of 154 = .ok (.ireturn, 1) := by decide +kernel
theorem dX12_of_155 : decode cX12_of 155 = .ok (.aload_n 0, 1) := by decide +kernel
theorem dX12_of_156 : decode cX12_of 156 = .ok (.iload_n 1, 1) := by decide +kernel
theorem dX12_of_157 : decode cX12_of 157 = .ok (.invokevirtual 170, 3) := by decide +kernel
theorem dX12_of_160 : decode cX12_of 160 = .ok (.ireturn, 1) := by decide +kernel
theorem dX12_of_161 : decode cX12_of 161 = .ok (.aload_n 0, 1) := by decide +kernel
theorem dX12_of_162 : decode cX12_of 162 = .ok (.iload_n 1, 1) := by decide +kernel
theorem dX12_of_163 : decode cX12_of 163 = .ok (.invokevirtual 173, 3) := by decide +kernel
theorem dX12_of_166 : decode cX12_of 166 = .ok (.ireturn, 1) := by decide +kernel
theorem dX12_of_167 : decode cX12_of 167 = .ok (.ldc 169, 2) := by decide +kernel
theorem dX12_of_169 : decode cX12_of 169 = .ok (.ireturn, 1) := by decide +kernel
def zb_X12_of_68 (E : zj_E) (st : List Value) (m : zj_M) : zj_R := (zi_ald 0 (zi_gf 12 1 (zi_push (.int 37) (zi_ild 1 (zi_b (fun x y => x + y) (zi_iald (zi_ret (some .int)))))))) E st m
set_option maxRecDepth 20000 in
theorem zs_X12_of_68 : zj_KC cX12_of RX12 3 (4) (some .int) (0, fun _ => 0) 68 (zb_X12_of_68) := (zr_aldn dX12_of_68 rfl (zr_gf dX12_of_69 zfl_X12_9_12 (zr_bipush dX12_of_72 rfl (zr_ildn dX12_of_74 rfl (zr_iadd dX12_of_75 (zr_iald dX12_of_76 (zr_ret dX12_of_77)))))))
def zb_X12_of_78 (E : zj_E) (st : List Value) (m : zj_M) : zj_R := (zi_ald 0 (zi_gf 12 1 (zi_push (.int 43) (zi_ild 1 (zi_b (fun x y => x + y) (zi_iald (zi_ret (some .int)))))))) E st m
set_option maxRecDepth 20000 in
theorem zs_X12_of_78 : zj_KC cX12_of RX12 3 (4) (some .int) (0, fun _ => 0) 78 (zb_X12_of_78) := (zr_aldn dX12_of_78 rfl (zr_gf dX12_of_79 zfl_X12_9_12 (zr_bipush dX12_of_82 rfl (zr_ildn dX12_of_84 rfl (zr_iadd dX12_of_85 (zr_iald dX12_of_86 (zr_ret dX12_of_87)))))))
def zb_X12_of_88 (E : zj_E) (st : List Value) (m : zj_M) : zj_R := (zi_ald 0 (zi_gf 12 1 (zi_push (.int 2) (zi_ild 1 (zi_b (fun x y => x + y) (zi_iald (zi_ret (some .int)))))))) E st m
set_option maxRecDepth 20000 in
theorem zs_X12_of_88 : zj_KC cX12_of RX12 3 (4) (some .int) (0, fun _ => 0) 88 (zb_X12_of_88) := (zr_aldn dX12_of_88 rfl (zr_gf dX12_of_89 zfl_X12_9_12 (zr_iconst dX12_of_92 rfl (zr_ildn dX12_of_93 rfl (zr_iadd dX12_of_94 (zr_iald dX12_of_95 (zr_ret dX12_of_96)))))))
def zb_X12_of_97 (E : zj_E) (st : List Value) (m : zj_M) : zj_R := (zi_ald 0 (zi_gf 12 1 (zi_push (.int 8) (zi_ild 1 (zi_b (fun x y => x + y) (zi_iald (zi_ret (some .int)))))))) E st m
set_option maxRecDepth 20000 in
theorem zs_X12_of_97 : zj_KC cX12_of RX12 3 (4) (some .int) (0, fun _ => 0) 97 (zb_X12_of_97) := (zr_aldn dX12_of_97 rfl (zr_gf dX12_of_98 zfl_X12_9_12 (zr_bipush dX12_of_101 rfl (zr_ildn dX12_of_103 rfl (zr_iadd dX12_of_104 (zr_iald dX12_of_105 (zr_ret dX12_of_106)))))))
def zb_X12_of_107 (E : zj_E) (st : List Value) (m : zj_M) : zj_R := (zi_ald 0 (zi_gf 12 1 (zi_push (.int 14) (zi_ild 1 (zi_b (fun x y => x + y) (zi_iald (zi_ret (some .int)))))))) E st m
set_option maxRecDepth 20000 in
theorem zs_X12_of_107 : zj_KC cX12_of RX12 3 (4) (some .int) (0, fun _ => 0) 107 (zb_X12_of_107) := (zr_aldn dX12_of_107 rfl (zr_gf dX12_of_108 zfl_X12_9_12 (zr_bipush dX12_of_111 rfl (zr_ildn dX12_of_113 rfl (zr_iadd dX12_of_114 (zr_iald dX12_of_115 (zr_ret dX12_of_116)))))))
def zb_X12_of_117 (E : zj_E) (st : List Value) (m : zj_M) : zj_R := (zi_ald 0 (zi_gf 12 1 (zi_push (.int 20) (zi_ild 1 (zi_b (fun x y => x + y) (zi_iald (zi_ret (some .int)))))))) E st m
set_option maxRecDepth 20000 in
theorem zs_X12_of_117 : zj_KC cX12_of RX12 3 (4) (some .int) (0, fun _ => 0) 117 (zb_X12_of_117) := (zr_aldn dX12_of_117 rfl (zr_gf dX12_of_118 zfl_X12_9_12 (zr_bipush dX12_of_121 rfl (zr_ildn dX12_of_123 rfl (zr_iadd dX12_of_124 (zr_iald dX12_of_125 (zr_ret dX12_of_126)))))))
def zb_X12_of_140 (E : zj_E) (st : List Value) (m : zj_M) : zj_R := (zi_ret (some .int)) E st m
set_option maxRecDepth 20000 in
theorem zs_X12_of_140 : zj_KC cX12_of RX12 3 (4) (some .int) (0, fun _ => 0) 140 (zb_X12_of_140) := (zr_ret dX12_of_140)
def zb_X12_of_127 (E : zj_E) (st : List Value) (m : zj_M) : zj_R := (zi_ald 0 (zi_ild 1 (zi_vc 12 1 zf_X12_isStray (zi_eq (zi_push (.int 0) zb_X12_of_140) (zi_push (.int 1) zb_X12_of_140)) zi_no))) E st m
set_option maxRecDepth 20000 in
theorem zs_X12_of_127 : zj_KC cX12_of RX12 3 (4) (some .int) (0, fun _ => 0) 127 (zb_X12_of_127) := (zr_aldn dX12_of_127 rfl (zr_ildn dX12_of_128 rfl (zr_callV dX12_of_129 zm_X12_isStray ⟨⟨zq_1149, zq_77⟩, by decide +kernel, by omega, by decide⟩ rfl rfl zq_1146 zq_1148 zq_34 (zr_ifeq dX12_of_132 (tgt := 139) (by decide) (zr_iconst dX12_of_139 rfl (zs_X12_of_140)) (zr_iconst dX12_of_135 rfl (zr_goto dX12_of_136 (tgt := 140) (by decide) (zs_X12_of_140)))) zr_no)))
def zb_X12_of_154 (E : zj_E) (st : List Value) (m : zj_M) : zj_R := (zi_ret (some .int)) E st m
set_option maxRecDepth 20000 in
theorem zs_X12_of_154 : zj_KC cX12_of RX12 3 (4) (some .int) (0, fun _ => 0) 154 (zb_X12_of_154) := (zr_ret dX12_of_154)
def zb_X12_of_141 (E : zj_E) (st : List Value) (m : zj_M) : zj_R := (zi_ald 0 (zi_ild 1 (zi_vc 12 1 zf_X12_hasCompany (zi_eq (zi_push (.int 0) zb_X12_of_154) (zi_push (.int 1) zb_X12_of_154)) zi_no))) E st m
set_option maxRecDepth 20000 in
theorem zs_X12_of_141 : zj_KC cX12_of RX12 3 (4) (some .int) (0, fun _ => 0) 141 (zb_X12_of_141) := (zr_aldn dX12_of_141 rfl (zr_ildn dX12_of_142 rfl (zr_callV dX12_of_143 zm_X12_hasCompany ⟨⟨zq_1157, zq_77⟩, by decide +kernel, by omega, by decide⟩ rfl rfl zq_1154 zq_1156 zq_36 (zr_ifeq dX12_of_146 (tgt := 153) (by decide) (zr_iconst dX12_of_153 rfl (zs_X12_of_154)) (zr_iconst dX12_of_149 rfl (zr_goto dX12_of_150 (tgt := 154) (by decide) (zs_X12_of_154)))) zr_no)))
def zb_X12_of_155 (E : zj_E) (st : List Value) (m : zj_M) : zj_R := (zi_ald 0 (zi_ild 1 (zi_vc 12 1 zf_X12_swayOf (zi_ret (some .int)) zi_no))) E st m
set_option maxRecDepth 20000 in
theorem zs_X12_of_155 : zj_KC cX12_of RX12 3 (4) (some .int) (0, fun _ => 0) 155 (zb_X12_of_155) := (zr_aldn dX12_of_155 rfl (zr_ildn dX12_of_156 rfl (zr_callV dX12_of_157 zm_X12_swayOf ⟨⟨zq_1161, zq_77⟩, by decide +kernel, by omega, by decide⟩ rfl rfl zq_1158 zq_1160 zq_37 (zr_ret dX12_of_160) zr_no)))
def zb_X12_of_161 (E : zj_E) (st : List Value) (m : zj_M) : zj_R := (zi_ald 0 (zi_ild 1 (zi_vc 12 1 zf_X12_paceOf (zi_ret (some .int)) zi_no))) E st m
set_option maxRecDepth 20000 in
theorem zs_X12_of_161 : zj_KC cX12_of RX12 3 (4) (some .int) (0, fun _ => 0) 161 (zb_X12_of_161) := (zr_aldn dX12_of_161 rfl (zr_ildn dX12_of_162 rfl (zr_callV dX12_of_163 zm_X12_paceOf ⟨⟨zq_1177, zq_77⟩, by decide +kernel, by omega, by decide⟩ rfl rfl zq_1174 zq_1176 zq_41 (zr_ret dX12_of_166) zr_no)))
def zb_X12_of_167 (E : zj_E) (st : List Value) (m : zj_M) : zj_R := (zi_push (.int (-999999)) (zi_ret (some .int))) E st m
set_option maxRecDepth 20000 in
theorem zs_X12_of_167 : zj_KC cX12_of RX12 3 (4) (some .int) (0, fun _ => 0) 167 (zb_X12_of_167) := (zr_ldc dX12_of_167 zq_1145 (zr_ret dX12_of_169))
def zb_X12_of_0 (E : zj_E) (st : List Value) (m : zj_M) : zj_R := (zi_ald 0 (zi_ild 1 (zi_vc 12 1 zf_X12_isWalker (zi_eq (zi_push (.int (-999999)) (zi_ret (some .int))) (zi_ild 2 (zi_tsw 0 [zb_X12_of_68, zb_X12_of_78, zb_X12_of_88, zb_X12_of_97, zb_X12_of_107, zb_X12_of_117, zb_X12_of_127, zb_X12_of_141, zb_X12_of_155, zb_X12_of_161] zb_X12_of_167))) zi_no))) E st m
set_option maxRecDepth 20000 in
theorem zs_X12_of_0 : zj_KC cX12_of RX12 3 (4) (some .int) (0, fun _ => 0) 0 (zb_X12_of_0) := (zr_aldn dX12_of_0 rfl (zr_ildn dX12_of_1 rfl (zr_callV dX12_of_2 zm_X12_isWalker ⟨⟨zq_1144, zq_77⟩, by decide +kernel, by omega, by decide⟩ rfl rfl zq_1141 zq_1143 zq_33 (zr_ifne dX12_of_5 (tgt := 11) (by decide) (zr_ildn dX12_of_11 rfl (zr_tsw dX12_of_12 (tgt := 167) (by decide) (hkd := (zs_X12_of_167)) (tg := [68, 78, 88, 97, 107, 117, 127, 141, 155, 161] ) (hn := rfl) (hoff := by decide) (hl := rfl) ⟨(zs_X12_of_68), (zs_X12_of_78), (zs_X12_of_88), (zs_X12_of_97), (zs_X12_of_107), (zs_X12_of_117), (zs_X12_of_127), (zs_X12_of_141), (zs_X12_of_155), (zs_X12_of_161), trivial⟩)) (zr_ldc dX12_of_8 zq_1145 (zr_ret dX12_of_10))) zr_no)))
def zf_X12_of : zj_F := zj_run 3 zb_X12_of_0
theorem zm_X12_of : zj_MS 4 yX12_of cX12_of 3 (some .int) zf_X12_of := zj_met (own := RX12) rfl (by decide +kernel) (Or.inr (Or.inl rfl)) (zs_X12_of_0)
theorem dX12_row_0 : decode cX12_row 0 = .ok (.aload_n 0, 1) := by decide +kernel
theorem dX12_row_1 : decode cX12_row 1 = .ok (.iload_n 1, 1) := by decide +kernel
theorem dX12_row_2 : decode cX12_row 2 = .ok (.invokevirtual 166, 3) := by decide +kernel
theorem dX12_row_5 : decode cX12_row 5 = .ok (.ifCond .eq 12, 3) := by decide +kernel
theorem dX12_row_8 : decode cX12_row 8 = .ok (.iload_n 2, 1) := by decide +kernel
theorem dX12_row_9 : decode cX12_row 9 = .ok (.iconst 0, 1) := by decide +kernel
theorem dX12_row_10 : decode cX12_row 10 = .ok (.iconst 3, 1) := by decide +kernel
theorem dX12_row_11 : decode cX12_row 11 = .ok (.invokestatic 47, 3) := by decide +kernel
theorem dX12_row_14 : decode cX12_row 14 = .ok (.ifCond .ne 5, 3) := by decide +kernel
theorem dX12_row_17 : decode cX12_row 17 = .ok (.iconst (-1), 1) := by decide +kernel
theorem dX12_row_18 : decode cX12_row 18 = .ok (.ireturn, 1) := by decide +kernel
theorem dX12_row_19 : decode cX12_row 19 = .ok (.iload_n 3, 1) := by decide +kernel
theorem dX12_row_20 : decode cX12_row 20 = .ok (.iconst 0, 1) := by decide +kernel
theorem dX12_row_21 : decode cX12_row 21 = .ok (.bipush 9, 2) := by decide +kernel
theorem dX12_row_23 : decode cX12_row 23 = .ok (.invokestatic 47, 3) := by decide +kernel
theorem dX12_row_26 : decode cX12_row 26 = .ok (.ifCond .ne 6, 3) := by decide +kernel
theorem dX12_row_29 : decode cX12_row 29 = .ok (.bipush (-2), 2) := by decide +kernel
theorem dX12_row_31 : decode cX12_row 31 = .ok (.ireturn, 1) := by decide +kernel
theorem dX12_row_32 : decode cX12_row 32 = .ok (.aload_n 0, 1) := by decide +kernel
theorem dX12_row_33 : decode cX12_row 33 = .ok (.getfield 9, 3) := by decide +kernel
theorem dX12_row_36 : decode cX12_row 36 = .ok (.bipush 37, 2) := by decide +kernel
theorem dX12_row_38 : decode cX12_row 38 = .ok (.iload_n 1, 1) := by decide +kernel
theorem dX12_row_39 : decode cX12_row 39 = .ok (.iadd, 1) := by decide +kernel
theorem dX12_row_40 : decode cX12_row 40 = .ok (.iaload, 1) := by decide +kernel
theorem dX12_row_41 : decode cX12_row 41 = .ok (.bipush 6, 2) := by decide +kernel
theorem dX12_row_43 : decode cX12_row 43 = .ok (.if_icmp .ne 19, 3) := by decide +kernel
theorem dX12_row_46 : decode cX12_row 46 = .ok (.aload_n 0, 1) := by decide +kernel
theorem dX12_row_47 : decode cX12_row 47 = .ok (.bipush 49, 2) := by decide +kernel
theorem dX12_row_49 : decode cX12_row 49 = .ok (.iconst 4, 1) := by decide +kernel
theorem dX12_row_50 : decode cX12_row 50 = .ok (.iload_n 1, 1) := by decide +kernel
theorem dX12_row_51 : decode cX12_row 51 = .ok (.imul, 1) := by decide +kernel
theorem dX12_row_52 : decode cX12_row 52 = .ok (.iadd, 1) := by decide +kernel
theorem dX12_row_53 : decode cX12_row 53 = .ok (.iload_n 2, 1) := by decide +kernel
theorem dX12_row_54 : decode cX12_row 54 = .ok (.iadd, 1) := by decide +kernel
theorem dX12_row_55 : decode cX12_row 55 = .ok (.iload_n 3, 1) := by decide +kernel
theorem dX12_row_56 : decode cX12_row 56 = .ok (.invokevirtual 160, 3) := by decide +kernel
theorem dX12_row_59 : decode cX12_row 59 = .ok (.goto 5, 3) := by decide +kernel
theorem dX12_row_62 : decode cX12_row 62 = .ok (.bipush (-3), 2) := by decide +kernel
theorem dX12_row_64 : decode cX12_row 64 = .ok (.ireturn, 1) := by decide +kernel
def zb_X12_row_17 (E : zj_E) (st : List Value) (m : zj_M) : zj_R := (zi_push (.int (-1)) (zi_ret (some .int))) E st m
set_option maxRecDepth 20000 in
theorem zs_X12_row_17 : zj_KC cX12_row RX12 4 (2) (some .int) (0, fun _ => 0) 17 (zb_X12_row_17) := (zr_iconst dX12_row_17 rfl (zr_ret dX12_row_18))
def zb_X12_row_64 (E : zj_E) (st : List Value) (m : zj_M) : zj_R := (zi_ret (some .int)) E st m
set_option maxRecDepth 20000 in
theorem zs_X12_row_64 : zj_KC cX12_row RX12 4 (2) (some .int) (0, fun _ => 0) 64 (zb_X12_row_64) := (zr_ret dX12_row_64)
def zb_X12_row_0 (E : zj_E) (st : List Value) (m : zj_M) : zj_R := (zi_ald 0 (zi_ild 1 (zi_vc 12 1 zf_X12_isWalker (zi_eq zb_X12_row_17 (zi_ild 2 (zi_push (.int 0) (zi_push (.int 3) (zi_call 3 zf_X12_in (zi_eq zb_X12_row_17 (zi_ild 3 (zi_push (.int 0) (zi_push (.int 9) (zi_call 3 zf_X12_in (zi_eq (zi_push (.int (-2)) (zi_ret (some .int))) (zi_ald 0 (zi_gf 12 1 (zi_push (.int 37) (zi_ild 1 (zi_b (fun x y => x + y) (zi_iald (zi_push (.int 6) (zi_ceq (zi_ald 0 (zi_push (.int 49) (zi_push (.int 4) (zi_ild 1 (zi_b (fun x y => x * y) (zi_b (fun x y => x + y) (zi_ild 2 (zi_b (fun x y => x + y) (zi_ild 3 (zi_vc 12 2 zf_X12_becomes zb_X12_row_64 zi_no)))))))))) (zi_push (.int (-3)) zb_X12_row_64)))))))))))))))))))) zi_no))) E st m
set_option maxRecDepth 20000 in
theorem zs_X12_row_0 : zj_KC cX12_row RX12 4 (2) (some .int) (0, fun _ => 0) 0 (zb_X12_row_0) := (zr_aldn dX12_row_0 rfl (zr_ildn dX12_row_1 rfl (zr_callV dX12_row_2 zm_X12_isWalker ⟨⟨zq_1144, zq_77⟩, by decide +kernel, by omega, by decide⟩ rfl rfl zq_1141 zq_1143 zq_33 (zr_ifeq dX12_row_5 (tgt := 17) (by decide) (zs_X12_row_17) (zr_ildn dX12_row_8 rfl (zr_iconst dX12_row_9 rfl (zr_iconst dX12_row_10 rfl (zr_callS dX12_row_11 zm_X12_in ⟨⟨zq_1054, zq_77⟩, by decide +kernel, by omega, by decide⟩ zq_1052 zq_1053 (zr_ifne dX12_row_14 (tgt := 19) (by decide) (zr_ildn dX12_row_19 rfl (zr_iconst dX12_row_20 rfl (zr_bipush dX12_row_21 rfl (zr_callS dX12_row_23 zm_X12_in ⟨⟨zq_1054, zq_77⟩, by decide +kernel, by omega, by decide⟩ zq_1052 zq_1053 (zr_ifne dX12_row_26 (tgt := 32) (by decide) (zr_aldn dX12_row_32 rfl (zr_gf dX12_row_33 zfl_X12_9_12 (zr_bipush dX12_row_36 rfl (zr_ildn dX12_row_38 rfl (zr_iadd dX12_row_39 (zr_iald dX12_row_40 (zr_bipush dX12_row_41 rfl (zr_icne dX12_row_43 (tgt := 62) (by decide) (zr_bipush dX12_row_62 rfl (zs_X12_row_64)) (zr_aldn dX12_row_46 rfl (zr_bipush dX12_row_47 rfl (zr_iconst dX12_row_49 rfl (zr_ildn dX12_row_50 rfl (zr_imul dX12_row_51 (zr_iadd dX12_row_52 (zr_ildn dX12_row_53 rfl (zr_iadd dX12_row_54 (zr_ildn dX12_row_55 rfl (zr_callV dX12_row_56 zm_X12_becomes ⟨⟨zq_1125, zq_77⟩, by decide +kernel, by omega, by decide⟩ rfl rfl zq_1122 zq_1124 zq_32 (zr_goto dX12_row_59 (tgt := 64) (by decide) (zs_X12_row_64)) zr_no)))))))))))))))))) (zr_bipush dX12_row_29 rfl (zr_ret dX12_row_31))))))) (zs_X12_row_17))))))) zr_no)))
def zf_X12_row : zj_F := zj_run 4 zb_X12_row_0
theorem zm_X12_row : zj_MS 2 yX12_row cX12_row 4 (some .int) zf_X12_row := zj_met (own := RX12) rfl (by decide +kernel) (Or.inr (Or.inl rfl)) (zs_X12_row_0)
theorem dX12_set_0 : decode cX12_set 0 = .ok (.aload_n 0, 1) := by decide +kernel
theorem dX12_set_1 : decode cX12_set 1 = .ok (.iload_n 1, 1) := by decide +kernel
theorem dX12_set_2 : decode cX12_set 2 = .ok (.invokevirtual 166, 3) := by decide +kernel
theorem dX12_set_5 : decode cX12_set 5 = .ok (.ifCond .eq 12, 3) := by decide +kernel
theorem dX12_set_8 : decode cX12_set 8 = .ok (.iload_n 2, 1) := by decide +kernel
theorem dX12_set_9 : decode cX12_set 9 = .ok (.iconst 0, 1) := by decide +kernel
theorem dX12_set_10 : decode cX12_set 10 = .ok (.iconst 1, 1) := by decide +kernel
theorem dX12_set_11 : decode cX12_set 11 = .ok (.invokestatic 47, 3) := by decide +kernel
theorem dX12_set_14 : decode cX12_set 14 = .ok (.ifCond .ne 5, 3) := by decide +kernel
theorem dX12_set_17 : decode cX12_set 17 = .ok (.iconst (-1), 1) := by decide +kernel
theorem dX12_set_18 : decode cX12_set 18 = .ok (.ireturn, 1) := by decide +kernel
theorem dX12_set_19 : decode cX12_set 19 = .ok (.iload_n 2, 1) := by decide +kernel
theorem dX12_set_20 : decode cX12_set 20 = .ok (.ifCond .ne 23, 3) := by decide +kernel
theorem dX12_set_23 : decode cX12_set 23 = .ok (.iload_n 3, 1) := by decide +kernel
theorem dX12_set_24 : decode cX12_set 24 = .ok (.invokestatic 163, 3) := by decide +kernel
theorem dX12_set_27 : decode cX12_set 27 = .ok (.ifCond .eq 14, 3) := by decide +kernel
theorem dX12_set_30 : decode cX12_set 30 = .ok (.aload_n 0, 1) := by decide +kernel
theorem dX12_set_31 : decode cX12_set 31 = .ok (.iconst 2, 1) := by decide +kernel
theorem dX12_set_32 : decode cX12_set 32 = .ok (.iload_n 1, 1) := by decide +kernel
theorem dX12_set_33 : decode cX12_set 33 = .ok (.iadd, 1) := by decide +kernel
theorem dX12_set_34 : decode cX12_set 34 = .ok (.iload_n 3, 1) := by decide +kernel
theorem dX12_set_35 : decode cX12_set 35 = .ok (.invokevirtual 160, 3) := by decide +kernel
theorem dX12_set_38 : decode cX12_set 38 = .ok (.goto 4, 3) := by decide +kernel
theorem dX12_set_41 : decode cX12_set 41 = .ok (.iconst (-1), 1) := by decide +kernel
theorem dX12_set_42 : decode cX12_set 42 = .ok (.ireturn, 1) := by decide +kernel
theorem dX12_set_43 : decode cX12_set 43 = .ok (.iload_n 3, 1) := by decide +kernel
theorem dX12_set_44 : decode cX12_set 44 = .ok (.invokestatic 156, 3) := by decide +kernel
theorem dX12_set_47 : decode cX12_set 47 = .ok (.ifCond .eq 15, 3) := by decide +kernel
theorem dX12_set_50 : decode cX12_set 50 = .ok (.aload_n 0, 1) := by decide +kernel
theorem dX12_set_51 : decode cX12_set 51 = .ok (.bipush 8, 2) := by decide +kernel
theorem dX12_set_53 : decode cX12_set 53 = .ok (.iload_n 1, 1) := by decide +kernel
theorem dX12_set_54 : decode cX12_set 54 = .ok (.iadd, 1) := by decide +kernel
theorem dX12_set_55 : decode cX12_set 55 = .ok (.iload_n 3, 1) := by decide +kernel
theorem dX12_set_56 : decode cX12_set 56 = .ok (.invokevirtual 160, 3) := by decide +kernel
theorem dX12_set_59 : decode cX12_set 59 = .ok (.goto 4, 3) := by decide +kernel
theorem dX12_set_62 : decode cX12_set 62 = .ok (.iconst (-1), 1) := by decide +kernel
theorem dX12_set_63 : decode cX12_set 63 = .ok (.ireturn, 1) := by decide +kernel
def zb_X12_set_17 (E : zj_E) (st : List Value) (m : zj_M) : zj_R := (zi_push (.int (-1)) (zi_ret (some .int))) E st m
set_option maxRecDepth 20000 in
theorem zs_X12_set_17 : zj_KC cX12_set RX12 4 (2) (some .int) (0, fun _ => 0) 17 (zb_X12_set_17) := (zr_iconst dX12_set_17 rfl (zr_ret dX12_set_18))
def zb_X12_set_63 (E : zj_E) (st : List Value) (m : zj_M) : zj_R := (zi_ret (some .int)) E st m
set_option maxRecDepth 20000 in
theorem zs_X12_set_63 : zj_KC cX12_set RX12 4 (2) (some .int) (0, fun _ => 0) 63 (zb_X12_set_63) := (zr_ret dX12_set_63)
def zb_X12_set_42 (E : zj_E) (st : List Value) (m : zj_M) : zj_R := (zi_ret (some .int)) E st m
set_option maxRecDepth 20000 in
theorem zs_X12_set_42 : zj_KC cX12_set RX12 4 (2) (some .int) (0, fun _ => 0) 42 (zb_X12_set_42) := (zr_ret dX12_set_42)
def zb_X12_set_0 (E : zj_E) (st : List Value) (m : zj_M) : zj_R := (zi_ald 0 (zi_ild 1 (zi_vc 12 1 zf_X12_isWalker (zi_eq zb_X12_set_17 (zi_ild 2 (zi_push (.int 0) (zi_push (.int 1) (zi_call 3 zf_X12_in (zi_eq zb_X12_set_17 (zi_ild 2 (zi_eq (zi_ild 3 (zi_call 1 zf_X12_isCell (zi_eq (zi_push (.int (-1)) zb_X12_set_42) (zi_ald 0 (zi_push (.int 2) (zi_ild 1 (zi_b (fun x y => x + y) (zi_ild 3 (zi_vc 12 2 zf_X12_becomes zb_X12_set_42 zi_no))))))))) (zi_ild 3 (zi_call 1 zf_X12_isMood (zi_eq (zi_push (.int (-1)) zb_X12_set_63) (zi_ald 0 (zi_push (.int 8) (zi_ild 1 (zi_b (fun x y => x + y) (zi_ild 3 (zi_vc 12 2 zf_X12_becomes zb_X12_set_63 zi_no))))))))))))))))) zi_no))) E st m
set_option maxRecDepth 20000 in
theorem zs_X12_set_0 : zj_KC cX12_set RX12 4 (2) (some .int) (0, fun _ => 0) 0 (zb_X12_set_0) := (zr_aldn dX12_set_0 rfl (zr_ildn dX12_set_1 rfl (zr_callV dX12_set_2 zm_X12_isWalker ⟨⟨zq_1144, zq_77⟩, by decide +kernel, by omega, by decide⟩ rfl rfl zq_1141 zq_1143 zq_33 (zr_ifeq dX12_set_5 (tgt := 17) (by decide) (zs_X12_set_17) (zr_ildn dX12_set_8 rfl (zr_iconst dX12_set_9 rfl (zr_iconst dX12_set_10 rfl (zr_callS dX12_set_11 zm_X12_in ⟨⟨zq_1054, zq_77⟩, by decide +kernel, by omega, by decide⟩ zq_1052 zq_1053 (zr_ifne dX12_set_14 (tgt := 19) (by decide) (zr_ildn dX12_set_19 rfl (zr_ifne dX12_set_20 (tgt := 43) (by decide) (zr_ildn dX12_set_43 rfl (zr_callS dX12_set_44 zm_X12_isMood ⟨⟨zq_1120, zq_77⟩, by decide +kernel, by omega, by decide⟩ zq_1118 zq_1119 (zr_ifeq dX12_set_47 (tgt := 62) (by decide) (zr_iconst dX12_set_62 rfl (zs_X12_set_63)) (zr_aldn dX12_set_50 rfl (zr_bipush dX12_set_51 rfl (zr_ildn dX12_set_53 rfl (zr_iadd dX12_set_54 (zr_ildn dX12_set_55 rfl (zr_callV dX12_set_56 zm_X12_becomes ⟨⟨zq_1125, zq_77⟩, by decide +kernel, by omega, by decide⟩ rfl rfl zq_1122 zq_1124 zq_32 (zr_goto dX12_set_59 (tgt := 63) (by decide) (zs_X12_set_63)) zr_no))))))))) (zr_ildn dX12_set_23 rfl (zr_callS dX12_set_24 zm_X12_isCell ⟨⟨zq_1136, zq_77⟩, by decide +kernel, by omega, by decide⟩ zq_1134 zq_1135 (zr_ifeq dX12_set_27 (tgt := 41) (by decide) (zr_iconst dX12_set_41 rfl (zs_X12_set_42)) (zr_aldn dX12_set_30 rfl (zr_iconst dX12_set_31 rfl (zr_ildn dX12_set_32 rfl (zr_iadd dX12_set_33 (zr_ildn dX12_set_34 rfl (zr_callV dX12_set_35 zm_X12_becomes ⟨⟨zq_1125, zq_77⟩, by decide +kernel, by omega, by decide⟩ rfl rfl zq_1122 zq_1124 zq_32 (zr_goto dX12_set_38 (tgt := 42) (by decide) (zs_X12_set_42)) zr_no))))))))))) (zs_X12_set_17))))))) zr_no)))
def zf_X12_set : zj_F := zj_run 4 zb_X12_set_0
theorem zm_X12_set : zj_MS 2 yX12_set cX12_set 4 (some .int) zf_X12_set := zj_met (own := RX12) rfl (by decide +kernel) (Or.inr (Or.inl rfl)) (zs_X12_set_0)
theorem dX12_away_0 : decode cX12_away 0 = .ok (.aload_n 0, 1) := by decide +kernel
theorem dX12_away_1 : decode cX12_away 1 = .ok (.iload_n 1, 1) := by decide +kernel
theorem dX12_away_2 : decode cX12_away 2 = .ok (.invokevirtual 166, 3) := by decide +kernel
theorem dX12_away_5 : decode cX12_away 5 = .ok (.ifCond .eq 23, 3) := by decide +kernel
theorem dX12_away_8 : decode cX12_away 8 = .ok (.aload_n 0, 1) := by decide +kernel
theorem dX12_away_9 : decode cX12_away 9 = .ok (.bipush 14, 2) := by decide +kernel
theorem dX12_away_11 : decode cX12_away 11 = .ok (.iload_n 1, 1) := by decide +kernel
theorem dX12_away_12 : decode cX12_away 12 = .ok (.iadd, 1) := by decide +kernel
theorem dX12_away_13 : decode cX12_away 13 = .ok (.iload_n 2, 1) := by decide +kernel
theorem dX12_away_14 : decode cX12_away 14 = .ok (.ifCond .eq 7, 3) := by decide +kernel
theorem dX12_away_17 : decode cX12_away 17 = .ok (.iconst 1, 1) := by decide +kernel
theorem dX12_away_18 : decode cX12_away 18 = .ok (.goto 4, 3) := by decide +kernel
theorem dX12_away_21 : decode cX12_away 21 = .ok (.iconst 0, 1) := by decide +kernel
theorem dX12_away_22 : decode cX12_away 22 = .ok (.invokevirtual 160, 3) := by decide +kernel
theorem dX12_away_25 : decode cX12_away 25 = .ok (.goto 4, 3) := by decide +kernel
theorem dX12_away_28 : decode cX12_away 28 = .ok (.iconst (-1), 1) := by decide +kernel
theorem dX12_away_29 : decode cX12_away 29 = .ok (.ireturn, 1) := by decide +kernel
def zb_X12_away_29 (E : zj_E) (st : List Value) (m : zj_M) : zj_R := (zi_ret (some .int)) E st m
set_option maxRecDepth 20000 in
theorem zs_X12_away_29 : zj_KC cX12_away RX12 3 (2) (some .int) (0, fun _ => 0) 29 (zb_X12_away_29) := (zr_ret dX12_away_29)
def zb_X12_away_22 (E : zj_E) (st : List Value) (m : zj_M) : zj_R := (zi_vc 12 2 zf_X12_becomes zb_X12_away_29 zi_no) E st m
set_option maxRecDepth 20000 in
theorem zs_X12_away_22 : zj_KC cX12_away RX12 3 (2) (some .int) (0, fun _ => 0) 22 (zb_X12_away_22) := (zr_callV dX12_away_22 zm_X12_becomes ⟨⟨zq_1125, zq_77⟩, by decide +kernel, by omega, by decide⟩ rfl rfl zq_1122 zq_1124 zq_32 (zr_goto dX12_away_25 (tgt := 29) (by decide) (zs_X12_away_29)) zr_no)
def zb_X12_away_0 (E : zj_E) (st : List Value) (m : zj_M) : zj_R := (zi_ald 0 (zi_ild 1 (zi_vc 12 1 zf_X12_isWalker (zi_eq (zi_push (.int (-1)) zb_X12_away_29) (zi_ald 0 (zi_push (.int 14) (zi_ild 1 (zi_b (fun x y => x + y) (zi_ild 2 (zi_eq (zi_push (.int 0) zb_X12_away_22) (zi_push (.int 1) zb_X12_away_22)))))))) zi_no))) E st m
set_option maxRecDepth 20000 in
theorem zs_X12_away_0 : zj_KC cX12_away RX12 3 (2) (some .int) (0, fun _ => 0) 0 (zb_X12_away_0) := (zr_aldn dX12_away_0 rfl (zr_ildn dX12_away_1 rfl (zr_callV dX12_away_2 zm_X12_isWalker ⟨⟨zq_1144, zq_77⟩, by decide +kernel, by omega, by decide⟩ rfl rfl zq_1141 zq_1143 zq_33 (zr_ifeq dX12_away_5 (tgt := 28) (by decide) (zr_iconst dX12_away_28 rfl (zs_X12_away_29)) (zr_aldn dX12_away_8 rfl (zr_bipush dX12_away_9 rfl (zr_ildn dX12_away_11 rfl (zr_iadd dX12_away_12 (zr_ildn dX12_away_13 rfl (zr_ifeq dX12_away_14 (tgt := 21) (by decide) (zr_iconst dX12_away_21 rfl (zs_X12_away_22)) (zr_iconst dX12_away_17 rfl (zr_goto dX12_away_18 (tgt := 22) (by decide) (zs_X12_away_22)))))))))) zr_no)))
def zf_X12_away : zj_F := zj_run 3 zb_X12_away_0
theorem zm_X12_away : zj_MS 2 yX12_away cX12_away 3 (some .int) zf_X12_away := zj_met (own := RX12) rfl (by decide +kernel) (Or.inr (Or.inl rfl)) (zs_X12_away_0)
