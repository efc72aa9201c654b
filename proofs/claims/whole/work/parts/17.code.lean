theorem dX12_clauseHere_0 : decode cX12_clauseHere 0 = .ok (.aload_n 0, 1) := by decide +kernel
theorem dX12_clauseHere_1 : decode cX12_clauseHere 1 = .ok (.invokevirtual 61, 3) := by decide +kernel
theorem dX12_clauseHere_4 : decode cX12_clauseHere 4 = .ok (.lookupswitch 71 #[(99, 59), (114, 36), (115, 48)], 36) := by decide +kernel
theorem dX12_clauseHere_40 : decode cX12_clauseHere 40 = .ok (.aload_n 0, 1) := by decide +kernel
theorem dX12_clauseHere_41 : decode cX12_clauseHere 41 = .ok (.sipush 223, 3) := by decide +kernel
theorem dX12_clauseHere_44 : decode cX12_clauseHere 44 = .ok (.ldc 111, 2) := by decide +kernel
theorem dX12_clauseHere_46 : decode cX12_clauseHere 46 = .ok (.invokevirtual 113, 3) := by decide +kernel
theorem dX12_clauseHere_49 : decode cX12_clauseHere 49 = .ok (.goto 31, 3) := by decide +kernel
theorem dX12_clauseHere_52 : decode cX12_clauseHere 52 = .ok (.aload_n 0, 1) := by decide +kernel
theorem dX12_clauseHere_53 : decode cX12_clauseHere 53 = .ok (.bipush (-10), 2) := by decide +kernel
theorem dX12_clauseHere_55 : decode cX12_clauseHere 55 = .ok (.ldc 117, 2) := by decide +kernel
theorem dX12_clauseHere_57 : decode cX12_clauseHere 57 = .ok (.invokevirtual 119, 3) := by decide +kernel
theorem dX12_clauseHere_60 : decode cX12_clauseHere 60 = .ok (.goto 20, 3) := by decide +kernel
theorem dX12_clauseHere_63 : decode cX12_clauseHere 63 = .ok (.aload_n 0, 1) := by decide +kernel
theorem dX12_clauseHere_64 : decode cX12_clauseHere 64 = .ok (.sipush (-200), 3) := by decide +kernel
theorem dX12_clauseHere_67 : decode cX12_clauseHere 67 = .ok (.ldc 122, 2) := by decide +kernel
theorem dX12_clauseHere_69 : decode cX12_clauseHere 69 = .ok (.invokevirtual 119, 3) := by decide +kernel
theorem dX12_clauseHere_72 : decode cX12_clauseHere 72 = .ok (.goto 8, 3) := by decide +kernel
theorem dX12_clauseHere_75 : decode cX12_clauseHere 75 = .ok (.aload_n 0, 1) := by decide +kernel
theorem dX12_clauseHere_76 : decode cX12_clauseHere 76 = .ok (.iconst 1, 1) := by decide +kernel
theorem dX12_clauseHere_77 : decode cX12_clauseHere 77 = .ok (.putfield 57, 3) := by decide +kernel
theorem dX12_clauseHere_80 : decode cX12_clauseHere 80 = .ok (.return_, 1) := by decide +kernel
def zb_X12_clauseHere_80 (E : zj_E) (st : List Value) (m : zj_M) : zj_R := (zi_ret none) E st m
set_option maxRecDepth 20000 in
theorem zs_X12_clauseHere_80 : zj_KC cX12_clauseHere RX12 1 (56) none (0, fun _ => 0) 80 (zb_X12_clauseHere_80) := (zr_ret dX12_clauseHere_80)
def zb_X12_clauseHere_63 (E : zj_E) (st : List Value) (m : zj_M) : zj_R := (zi_ald 0 (zi_push (.int (-200)) (zi_push (.ref (1000 + 9)) (zi_vc 12 2 zf_X12_much zb_X12_clauseHere_80 zi_no)))) E st m
set_option maxRecDepth 20000 in
theorem zs_X12_clauseHere_63 : zj_KC cX12_clauseHere RX12 1 (56) none (0, fun _ => 0) 63 (zb_X12_clauseHere_63) := (zr_aldn dX12_clauseHere_63 rfl (zr_sipush dX12_clauseHere_64 rfl (zr_ldcS (tx := "calm ") dX12_clauseHere_67 (by decide +kernel) (zr_callV dX12_clauseHere_69 zm_X12_much ⟨⟨zq_1090, zq_77⟩, by decide +kernel, by omega, by decide⟩ rfl rfl zq_1087 zq_1089 zq_26 (zr_goto dX12_clauseHere_72 (tgt := 80) (by decide) (zs_X12_clauseHere_80)) zr_no))))
def zb_X12_clauseHere_40 (E : zj_E) (st : List Value) (m : zj_M) : zj_R := (zi_ald 0 (zi_push (.int 223) (zi_push (.ref (1000 + 5)) (zi_vc 12 2 zf_X12_tellsHere zb_X12_clauseHere_80 zi_no)))) E st m
set_option maxRecDepth 20000 in
theorem zs_X12_clauseHere_40 : zj_KC cX12_clauseHere RX12 1 (56) none (0, fun _ => 0) 40 (zb_X12_clauseHere_40) := (zr_aldn dX12_clauseHere_40 rfl (zr_sipush dX12_clauseHere_41 rfl (zr_ldcS (tx := "rain ") dX12_clauseHere_44 (by decide +kernel) (zr_callV dX12_clauseHere_46 zm_X12_tellsHere ⟨⟨zq_1071, zq_77⟩, by decide +kernel, by omega, by decide⟩ rfl rfl zq_1068 zq_1070 zq_22 (zr_goto dX12_clauseHere_49 (tgt := 80) (by decide) (zs_X12_clauseHere_80)) zr_no))))
def zb_X12_clauseHere_52 (E : zj_E) (st : List Value) (m : zj_M) : zj_R := (zi_ald 0 (zi_push (.int (-10)) (zi_push (.ref (1000 + 6)) (zi_vc 12 2 zf_X12_much zb_X12_clauseHere_80 zi_no)))) E st m
set_option maxRecDepth 20000 in
theorem zs_X12_clauseHere_52 : zj_KC cX12_clauseHere RX12 1 (56) none (0, fun _ => 0) 52 (zb_X12_clauseHere_52) := (zr_aldn dX12_clauseHere_52 rfl (zr_bipush dX12_clauseHere_53 rfl (zr_ldcS (tx := "stir ") dX12_clauseHere_55 (by decide +kernel) (zr_callV dX12_clauseHere_57 zm_X12_much ⟨⟨zq_1090, zq_77⟩, by decide +kernel, by omega, by decide⟩ rfl rfl zq_1087 zq_1089 zq_26 (zr_goto dX12_clauseHere_60 (tgt := 80) (by decide) (zs_X12_clauseHere_80)) zr_no))))
def zb_X12_clauseHere_75 (E : zj_E) (st : List Value) (m : zj_M) : zj_R := (zi_ald 0 (zi_push (.int 1) (zi_pz 12 8 zb_X12_clauseHere_80))) E st m
set_option maxRecDepth 20000 in
theorem zs_X12_clauseHere_75 : zj_KC cX12_clauseHere RX12 1 (56) none (0, fun _ => 0) 75 (zb_X12_clauseHere_75) := (zr_aldn dX12_clauseHere_75 rfl (zr_iconst dX12_clauseHere_76 rfl (zr_pz dX12_clauseHere_77 zfl_X12_57_12w (zs_X12_clauseHere_80))))
def zb_X12_clauseHere_0 (E : zj_E) (st : List Value) (m : zj_M) : zj_R := (zi_ald 0 (zi_vc 12 0 zf_X12_here (zi_lsw [(99, zb_X12_clauseHere_63), (114, zb_X12_clauseHere_40), (115, zb_X12_clauseHere_52)] zb_X12_clauseHere_75) zi_no)) E st m
set_option maxRecDepth 20000 in
theorem zs_X12_clauseHere_0 : zj_KC cX12_clauseHere RX12 1 (56) none (0, fun _ => 0) 0 (zb_X12_clauseHere_0) := (zr_aldn dX12_clauseHere_0 rfl (zr_callV dX12_clauseHere_1 zm_X12_here ⟨⟨zq_1066, zq_77⟩, by decide +kernel, by omega, by decide⟩ rfl rfl zq_1063 zq_1065 zq_21 (zr_lsw3 dX12_clauseHere_4 (by decide) (by decide) (tgt := 75) (t1 := 63) (t2 := 40) (t3 := 52) (by decide) (by decide) (by decide) (by decide) (zs_X12_clauseHere_75) (zs_X12_clauseHere_63) (zs_X12_clauseHere_40) (zs_X12_clauseHere_52)) zr_no))
def zf_X12_clauseHere : zj_F := zj_run 1 zb_X12_clauseHere_0
theorem zm_X12_clauseHere : zj_MS 56 yX12_clauseHere cX12_clauseHere 1 none zf_X12_clauseHere := zj_met (own := RX12) rfl (by decide +kernel) (Or.inl rfl) (zs_X12_clauseHere_0)
theorem dX12_park_0 : decode cX12_park 0 = .ok (.aload_n 0, 1) := by decide +kernel
theorem dX12_park_1 : decode cX12_park 1 = .ok (.getfield 9, 3) := by decide +kernel
theorem dX12_park_4 : decode cX12_park 4 = .ok (.bipush 27, 2) := by decide +kernel
theorem dX12_park_6 : decode cX12_park 6 = .ok (.iaload, 1) := by decide +kernel
theorem dX12_park_7 : decode cX12_park 7 = .ok (.iconst 5, 1) := by decide +kernel
theorem dX12_park_8 : decode cX12_park 8 = .ok (.if_icmp .ne 6, 3) := by decide +kernel
theorem dX12_park_11 : decode cX12_park 11 = .ok (.bipush (-4), 2) := by decide +kernel
theorem dX12_park_13 : decode cX12_park 13 = .ok (.ireturn, 1) := by decide +kernel
theorem dX12_park_14 : decode cX12_park 14 = .ok (.aload_n 0, 1) := by decide +kernel
theorem dX12_park_15 : decode cX12_park 15 = .ok (.aload_n 0, 1) := by decide +kernel
theorem dX12_park_16 : decode cX12_park 16 = .ok (.getfield 9, 3) := by decide +kernel
theorem dX12_park_19 : decode cX12_park 19 = .ok (.bipush 27, 2) := by decide +kernel
theorem dX12_park_21 : decode cX12_park 21 = .ok (.iaload, 1) := by decide +kernel
theorem dX12_park_22 : decode cX12_park 22 = .ok (.putfield 78, 3) := by decide +kernel
theorem dX12_park_25 : decode cX12_park 25 = .ok (.aload_n 0, 1) := by decide +kernel
theorem dX12_park_26 : decode cX12_park 26 = .ok (.aload_n 0, 1) := by decide +kernel
theorem dX12_park_27 : decode cX12_park 27 = .ok (.getfield 9, 3) := by decide +kernel
theorem dX12_park_30 : decode cX12_park 30 = .ok (.bipush 31, 2) := by decide +kernel
theorem dX12_park_32 : decode cX12_park 32 = .ok (.iaload, 1) := by decide +kernel
theorem dX12_park_33 : decode cX12_park 33 = .ok (.putfield 54, 3) := by decide +kernel
theorem dX12_park_36 : decode cX12_park 36 = .ok (.aload_n 0, 1) := by decide +kernel
theorem dX12_park_37 : decode cX12_park 37 = .ok (.getfield 9, 3) := by decide +kernel
theorem dX12_park_40 : decode cX12_park 40 = .ok (.bipush 31, 2) := by decide +kernel
theorem dX12_park_42 : decode cX12_park 42 = .ok (.iconst 0, 1) := by decide +kernel
theorem dX12_park_43 : decode cX12_park 43 = .ok (.iastore, 1) := by decide +kernel
theorem dX12_park_44 : decode cX12_park 44 = .ok (.aload_n 0, 1) := by decide +kernel
theorem dX12_park_45 : decode cX12_park 45 = .ok (.getfield 9, 3) := by decide +kernel
theorem dX12_park_48 : decode cX12_park 48 = .ok (.sipush 223, 3) := by decide +kernel
theorem dX12_park_51 : decode cX12_park 51 = .ok (.aload_n 0, 1) := by decide +kernel
theorem dX12_park_52 : decode cX12_park 52 = .ok (.getfield 78, 3) := by decide +kernel
theorem dX12_park_55 : decode cX12_park 55 = .ok (.iadd, 1) := by decide +kernel
theorem dX12_park_56 : decode cX12_park 56 = .ok (.iconst 0, 1) := by decide +kernel
theorem dX12_park_57 : decode cX12_park 57 = .ok (.iastore, 1) := by decide +kernel
theorem dX12_park_58 : decode cX12_park 58 = .ok (.aload_n 0, 1) := by decide +kernel
theorem dX12_park_59 : decode cX12_park 59 = .ok (.getfield 9, 3) := by decide +kernel
theorem dX12_park_62 : decode cX12_park 62 = .ok (.sipush 228, 3) := by decide +kernel
theorem dX12_park_65 : decode cX12_park 65 = .ok (.aload_n 0, 1) := by decide +kernel
theorem dX12_park_66 : decode cX12_park 66 = .ok (.getfield 78, 3) := by decide +kernel
theorem dX12_park_69 : decode cX12_park 69 = .ok (.iadd, 1) := by decide +kernel
theorem dX12_park_70 : decode cX12_park 70 = .ok (.iconst 0, 1) := by decide +kernel
theorem dX12_park_71 : decode cX12_park 71 = .ok (.iastore, 1) := by decide +kernel
theorem dX12_park_72 : decode cX12_park 72 = .ok (.aload_n 0, 1) := by decide +kernel
theorem dX12_park_73 : decode cX12_park 73 = .ok (.iconst 0, 1) := by decide +kernel
theorem dX12_park_74 : decode cX12_park 74 = .ok (.putfield 51, 3) := by decide +kernel
theorem dX12_park_77 : decode cX12_park 77 = .ok (.aload_n 0, 1) := by decide +kernel
theorem dX12_park_78 : decode cX12_park 78 = .ok (.iconst 0, 1) := by decide +kernel
theorem dX12_park_79 : decode cX12_park 79 = .ok (.putfield 57, 3) := by decide +kernel
theorem dX12_park_82 : decode cX12_park 82 = .ok (.aload_n 0, 1) := by decide +kernel
theorem dX12_park_83 : decode cX12_park 83 = .ok (.iconst 0, 1) := by decide +kernel
theorem dX12_park_84 : decode cX12_park 84 = .ok (.putfield 81, 3) := by decide +kernel
theorem dX12_park_87 : decode cX12_park 87 = .ok (.iconst 1, 1) := by decide +kernel
theorem dX12_park_88 : decode cX12_park 88 = .ok (.istore_n 1, 1) := by decide +kernel
theorem dX12_park_89 : decode cX12_park 89 = .ok (.aload_n 0, 1) := by decide +kernel
theorem dX12_park_90 : decode cX12_park 90 = .ok (.invokevirtual 124, 3) := by decide +kernel
theorem dX12_park_93 : decode cX12_park 93 = .ok (.aload_n 0, 1) := by decide +kernel
theorem dX12_park_94 : decode cX12_park 94 = .ok (.getfield 57, 3) := by decide +kernel
theorem dX12_park_97 : decode cX12_park 97 = .ok (.ifCond .ne 38, 3) := by decide +kernel
theorem dX12_park_100 : decode cX12_park 100 = .ok (.iload_n 1, 1) := by decide +kernel
theorem dX12_park_101 : decode cX12_park 101 = .ok (.bipush 10, 2) := by decide +kernel
theorem dX12_park_103 : decode cX12_park 103 = .ok (.if_icmp .ge 32, 3) := by decide +kernel
theorem dX12_park_106 : decode cX12_park 106 = .ok (.aload_n 0, 1) := by decide +kernel
theorem dX12_park_107 : decode cX12_park 107 = .ok (.invokevirtual 61, 3) := by decide +kernel
theorem dX12_park_110 : decode cX12_park 110 = .ok (.bipush 59, 2) := by decide +kernel
theorem dX12_park_112 : decode cX12_park 112 = .ok (.if_icmp .ne 23, 3) := by decide +kernel
theorem dX12_park_115 : decode cX12_park 115 = .ok (.aload_n 0, 1) := by decide +kernel
theorem dX12_park_116 : decode cX12_park 116 = .ok (.dup, 1) := by decide +kernel
theorem dX12_park_117 : decode cX12_park 117 = .ok (.getfield 51, 3) := by decide +kernel
theorem dX12_park_120 : decode cX12_park 120 = .ok (.iconst 1, 1) := by decide +kernel
theorem dX12_park_121 : decode cX12_park 121 = .ok (.iadd, 1) := by decide +kernel
theorem dX12_park_122 : decode cX12_park 122 = .ok (.putfield 51, 3) := by decide +kernel
theorem dX12_park_125 : decode cX12_park 125 = .ok (.aload_n 0, 1) := by decide +kernel
theorem dX12_park_126 : decode cX12_park 126 = .ok (.invokevirtual 124, 3) := by decide +kernel
theorem dX12_park_129 : decode cX12_park 129 = .ok (.iinc 1 1, 3) := by decide +kernel
theorem dX12_park_132 : decode cX12_park 132 = .ok (.goto (-39), 3) := by decide +kernel
theorem dX12_park_135 : decode cX12_park 135 = .ok (.aload_n 0, 1) := by decide +kernel
theorem dX12_park_136 : decode cX12_park 136 = .ok (.getfield 57, 3) := by decide +kernel
theorem dX12_park_139 : decode cX12_park 139 = .ok (.ifCond .ne 14, 3) := by decide +kernel
theorem dX12_park_142 : decode cX12_park 142 = .ok (.aload_n 0, 1) := by decide +kernel
theorem dX12_park_143 : decode cX12_park 143 = .ok (.getfield 51, 3) := by decide +kernel
theorem dX12_park_146 : decode cX12_park 146 = .ok (.aload_n 0, 1) := by decide +kernel
theorem dX12_park_147 : decode cX12_park 147 = .ok (.getfield 54, 3) := by decide +kernel
theorem dX12_park_150 : decode cX12_park 150 = .ok (.if_icmp .eq 11, 3) := by decide +kernel
theorem dX12_park_153 : decode cX12_park 153 = .ok (.bipush (-10), 2) := by decide +kernel
theorem dX12_park_155 : decode cX12_park 155 = .ok (.aload_n 0, 1) := by decide +kernel
theorem dX12_park_156 : decode cX12_park 156 = .ok (.getfield 51, 3) := by decide +kernel
theorem dX12_park_159 : decode cX12_park 159 = .ok (.isub, 1) := by decide +kernel
theorem dX12_park_160 : decode cX12_park 160 = .ok (.ireturn, 1) := by decide +kernel
theorem dX12_park_161 : decode cX12_park 161 = .ok (.aload_n 0, 1) := by decide +kernel
theorem dX12_park_162 : decode cX12_park 162 = .ok (.getfield 9, 3) := by decide +kernel
theorem dX12_park_165 : decode cX12_park 165 = .ok (.bipush 27, 2) := by decide +kernel
theorem dX12_park_167 : decode cX12_park 167 = .ok (.dup2, 1) := by decide +kernel
theorem dX12_park_168 : decode cX12_park 168 = .ok (.iaload, 1) := by decide +kernel
theorem dX12_park_169 : decode cX12_park 169 = .ok (.iconst 1, 1) := by decide +kernel
theorem dX12_park_170 : decode cX12_park 170 = .ok (.iadd, 1) := by decide +kernel
theorem dX12_park_171 : decode cX12_park 171 = .ok (.iastore, 1) := by decide +kernel
theorem dX12_park_172 : decode cX12_park 172 = .ok (.aload_n 0, 1) := by decide +kernel
theorem dX12_park_173 : decode cX12_park 173 = .ok (.getfield 9, 3) := by decide +kernel
theorem dX12_park_176 : decode cX12_park 176 = .ok (.bipush 32, 2) := by decide +kernel
theorem dX12_park_178 : decode cX12_park 178 = .ok (.aload_n 0, 1) := by decide +kernel
theorem dX12_park_179 : decode cX12_park 179 = .ok (.getfield 78, 3) := by decide +kernel
theorem dX12_park_182 : decode cX12_park 182 = .ok (.iastore, 1) := by decide +kernel
theorem dX12_park_183 : decode cX12_park 183 = .ok (.aload_n 0, 1) := by decide +kernel
theorem dX12_park_184 : decode cX12_park 184 = .ok (.getfield 78, 3) := by decide +kernel
theorem dX12_park_187 : decode cX12_park 187 = .ok (.ireturn, 1) := by decide +kernel
def zb_X12_park_153 (E : zj_E) (st : List Value) (m : zj_M) : zj_R := (zi_push (.int (-10)) (zi_ald 0 (zi_gf 12 6 (zi_b (fun x y => x - y) (zi_ret (some .int)))))) E st m
set_option maxRecDepth 20000 in
theorem zs_X12_park_153 : zj_KC cX12_park RX12 2 (57) (some .int) (0, fun _ => 0) 153 (zb_X12_park_153) := (zr_bipush dX12_park_153 rfl (zr_aldn dX12_park_155 rfl (zr_gf dX12_park_156 zfl_X12_51_12 (zr_isub dX12_park_159 (zr_ret dX12_park_160)))))
def zb_X12_park_135 (E : zj_E) (st : List Value) (m : zj_M) : zj_R := (zi_ald 0 (zi_gf 12 8 (zi_eq (zi_ald 0 (zi_gf 12 6 (zi_ald 0 (zi_gf 12 7 (zi_ceq (zi_ald 0 (zi_gf 12 1 (zi_push (.int 27) (zi_dup2 (zi_iald (zi_push (.int 1) (zi_b (fun x y => x + y) (zi_iast (zi_ald 0 (zi_gf 12 1 (zi_push (.int 32) (zi_ald 0 (zi_gf 12 5 (zi_iast (zi_ald 0 (zi_gf 12 5 (zi_ret (some .int)))))))))))))))))) zb_X12_park_153))))) zb_X12_park_153))) E st m
set_option maxRecDepth 20000 in
theorem zs_X12_park_135 : zj_KC cX12_park RX12 2 (57) (some .int) (0, fun _ => 0) 135 (zb_X12_park_135) := (zr_aldn dX12_park_135 rfl (zr_gf dX12_park_136 zfl_X12_57_12 (zr_ifne dX12_park_139 (tgt := 153) (by decide) (zs_X12_park_153) (zr_aldn dX12_park_142 rfl (zr_gf dX12_park_143 zfl_X12_51_12 (zr_aldn dX12_park_146 rfl (zr_gf dX12_park_147 zfl_X12_54_12 (zr_iceq dX12_park_150 (tgt := 161) (by decide) (zr_aldn dX12_park_161 rfl (zr_gf dX12_park_162 zfl_X12_9_12 (zr_bipush dX12_park_165 rfl (zr_dup2 dX12_park_167 (zr_iald dX12_park_168 (zr_iconst dX12_park_169 rfl (zr_iadd dX12_park_170 (zr_iast dX12_park_171 (zr_aldn dX12_park_172 rfl (zr_gf dX12_park_173 zfl_X12_9_12 (zr_bipush dX12_park_176 rfl (zr_aldn dX12_park_178 rfl (zr_gf dX12_park_179 zfl_X12_78_12 (zr_iast dX12_park_182 (zr_aldn dX12_park_183 rfl (zr_gf dX12_park_184 zfl_X12_78_12 (zr_ret dX12_park_187))))))))))))))))) (zs_X12_park_153)))))))))
def zb_X12_park_93 (r93 : zj_K) (E : zj_E) (st : List Value) (m : zj_M) : zj_R := (zi_ald 0 (zi_gf 12 8 (zi_eq (zi_ild 1 (zi_push (.int 10) (zi_clt (zi_ald 0 (zi_vc 12 0 zf_X12_here (zi_push (.int 59) (zi_ceq (zi_ald 0 (zi_dup (zi_gf 12 6 (zi_push (.int 1) (zi_b (fun x y => x + y) (zi_pf 12 6 (zi_ald 0 (zi_vc 12 0 zf_X12_clauseHere (zi_inc 1 1 r93) zi_no)))))))) zb_X12_park_135)) zi_no)) zb_X12_park_135))) zb_X12_park_135))) E st m
set_option maxRecDepth 20000 in
theorem zs_X12_park_93 {r93 : zj_K} (h93 : zj_KC cX12_park RX12 2 (57) (some .int) (0, fun _ => 0) 93 r93) : zj_KC cX12_park RX12 2 (57) (some .int) (0, fun _ => 0) 93 (zb_X12_park_93 r93) := (zr_aldn dX12_park_93 rfl (zr_gf dX12_park_94 zfl_X12_57_12 (zr_ifne dX12_park_97 (tgt := 135) (by decide) (zs_X12_park_135) (zr_ildn dX12_park_100 rfl (zr_bipush dX12_park_101 rfl (zr_icge dX12_park_103 (tgt := 135) (by decide) (zs_X12_park_135) (zr_aldn dX12_park_106 rfl (zr_callV dX12_park_107 zm_X12_here ⟨⟨zq_1066, zq_77⟩, by decide +kernel, by omega, by decide⟩ rfl rfl zq_1063 zq_1065 zq_21 (zr_bipush dX12_park_110 rfl (zr_icne dX12_park_112 (tgt := 135) (by decide) (zs_X12_park_135) (zr_aldn dX12_park_115 rfl (zr_dup dX12_park_116 (zr_gf dX12_park_117 zfl_X12_51_12 (zr_iconst dX12_park_120 rfl (zr_iadd dX12_park_121 (zr_pf dX12_park_122 zfl_X12_51_12w (zr_aldn dX12_park_125 rfl (zr_callV dX12_park_126 zm_X12_clauseHere ⟨⟨zq_1062, zq_77⟩, by decide +kernel, by omega, by decide⟩ rfl rfl zq_1059 zq_1061 zq_20 (zr_inc dX12_park_129 rfl (zr_goto dX12_park_132 (tgt := 93) (by decide) h93)) zr_no)))))))))) zr_no))))))))
def zb_X12_park_0 (E : zj_E) (st : List Value) (m : zj_M) : zj_R := (zi_ald 0 (zi_gf 12 1 (zi_push (.int 27) (zi_iald (zi_push (.int 5) (zi_ceq (zi_push (.int (-4)) (zi_ret (some .int))) (zi_ald 0 (zi_ald 0 (zi_gf 12 1 (zi_push (.int 27) (zi_iald (zi_pf 12 5 (zi_ald 0 (zi_ald 0 (zi_gf 12 1 (zi_push (.int 31) (zi_iald (zi_pf 12 7 (zi_ald 0 (zi_gf 12 1 (zi_push (.int 31) (zi_push (.int 0) (zi_iast (zi_ald 0 (zi_gf 12 1 (zi_push (.int 223) (zi_ald 0 (zi_gf 12 5 (zi_b (fun x y => x + y) (zi_push (.int 0) (zi_iast (zi_ald 0 (zi_gf 12 1 (zi_push (.int 228) (zi_ald 0 (zi_gf 12 5 (zi_b (fun x y => x + y) (zi_push (.int 0) (zi_iast (zi_ald 0 (zi_push (.int 0) (zi_pf 12 6 (zi_ald 0 (zi_push (.int 0) (zi_pz 12 8 (zi_ald 0 (zi_push (.int 0) (zi_pf 12 9 (zi_push (.int 1) (zi_ist 1 (zi_ald 0 (zi_vc 12 0 zf_X12_clauseHere (zj_lp (zb_X12_park_93) zj_fu) zi_no)))))))))))))))))))))))))))))))))))))))))))))))))))) E st m
set_option maxRecDepth 20000 in
theorem zs_X12_park_0 : zj_KC cX12_park RX12 2 (57) (some .int) (0, fun _ => 0) 0 (zb_X12_park_0) := (zr_aldn dX12_park_0 rfl (zr_gf dX12_park_1 zfl_X12_9_12 (zr_bipush dX12_park_4 rfl (zr_iald dX12_park_6 (zr_iconst dX12_park_7 rfl (zr_icne dX12_park_8 (tgt := 14) (by decide) (zr_aldn dX12_park_14 rfl (zr_aldn dX12_park_15 rfl (zr_gf dX12_park_16 zfl_X12_9_12 (zr_bipush dX12_park_19 rfl (zr_iald dX12_park_21 (zr_pf dX12_park_22 zfl_X12_78_12w (zr_aldn dX12_park_25 rfl (zr_aldn dX12_park_26 rfl (zr_gf dX12_park_27 zfl_X12_9_12 (zr_bipush dX12_park_30 rfl (zr_iald dX12_park_32 (zr_pf dX12_park_33 zfl_X12_54_12w (zr_aldn dX12_park_36 rfl (zr_gf dX12_park_37 zfl_X12_9_12 (zr_bipush dX12_park_40 rfl (zr_iconst dX12_park_42 rfl (zr_iast dX12_park_43 (zr_aldn dX12_park_44 rfl (zr_gf dX12_park_45 zfl_X12_9_12 (zr_sipush dX12_park_48 rfl (zr_aldn dX12_park_51 rfl (zr_gf dX12_park_52 zfl_X12_78_12 (zr_iadd dX12_park_55 (zr_iconst dX12_park_56 rfl (zr_iast dX12_park_57 (zr_aldn dX12_park_58 rfl (zr_gf dX12_park_59 zfl_X12_9_12 (zr_sipush dX12_park_62 rfl (zr_aldn dX12_park_65 rfl (zr_gf dX12_park_66 zfl_X12_78_12 (zr_iadd dX12_park_69 (zr_iconst dX12_park_70 rfl (zr_iast dX12_park_71 (zr_aldn dX12_park_72 rfl (zr_iconst dX12_park_73 rfl (zr_pf dX12_park_74 zfl_X12_51_12w (zr_aldn dX12_park_77 rfl (zr_iconst dX12_park_78 rfl (zr_pz dX12_park_79 zfl_X12_57_12w (zr_aldn dX12_park_82 rfl (zr_iconst dX12_park_83 rfl (zr_pf dX12_park_84 zfl_X12_81_12w (zr_iconst dX12_park_87 rfl (zr_istn dX12_park_88 rfl (zr_aldn dX12_park_89 rfl (zr_callV dX12_park_90 zm_X12_clauseHere ⟨⟨zq_1062, zq_77⟩, by decide +kernel, by omega, by decide⟩ rfl rfl zq_1059 zq_1061 zq_20 (zr_lp (fun _ h => zs_X12_park_93 h) zj_fu) zr_no)))))))))))))))))))))))))))))))))))))))))))))) (zr_bipush dX12_park_11 rfl (zr_ret dX12_park_13))))))))
def zf_X12_park : zj_F := zj_run 2 zb_X12_park_0
theorem zm_X12_park : zj_MS 57 yX12_park cX12_park 2 (some .int) zf_X12_park := zj_met (own := RX12) rfl (by decide +kernel) (Or.inr (Or.inl rfl)) (zs_X12_park_0)
theorem dX12_tellsOf_0 : decode cX12_tellsOf 0 = .ok (.aload_n 0, 1) := by decide +kernel
theorem dX12_tellsOf_1 : decode cX12_tellsOf 1 = .ok (.getfield 9, 3) := by decide +kernel
theorem dX12_tellsOf_4 : decode cX12_tellsOf 4 = .ok (.bipush 32, 2) := by decide +kernel
theorem dX12_tellsOf_6 : decode cX12_tellsOf 6 = .ok (.iaload, 1) := by decide +kernel
theorem dX12_tellsOf_7 : decode cX12_tellsOf 7 = .ok (.iconst (-1), 1) := by decide +kernel
theorem dX12_tellsOf_8 : decode cX12_tellsOf 8 = .ok (.if_icmp .ne 7, 3) := by decide +kernel
theorem dX12_tellsOf_11 : decode cX12_tellsOf 11 = .ok (.iload_n 2, 1) := by decide +kernel
theorem dX12_tellsOf_12 : decode cX12_tellsOf 12 = .ok (.goto 17, 3) := by decide +kernel
theorem dX12_tellsOf_15 : decode cX12_tellsOf 15 = .ok (.aload_n 0, 1) := by decide +kernel
theorem dX12_tellsOf_16 : decode cX12_tellsOf 16 = .ok (.getfield 9, 3) := by decide +kernel
theorem dX12_tellsOf_19 : decode cX12_tellsOf 19 = .ok (.iload_n 1, 1) := by decide +kernel
theorem dX12_tellsOf_20 : decode cX12_tellsOf 20 = .ok (.aload_n 0, 1) := by decide +kernel
theorem dX12_tellsOf_21 : decode cX12_tellsOf 21 = .ok (.getfield 9, 3) := by decide +kernel
theorem dX12_tellsOf_24 : decode cX12_tellsOf 24 = .ok (.bipush 32, 2) := by decide +kernel
theorem dX12_tellsOf_26 : decode cX12_tellsOf 26 = .ok (.iaload, 1) := by decide +kernel
theorem dX12_tellsOf_27 : decode cX12_tellsOf 27 = .ok (.iadd, 1) := by decide +kernel
theorem dX12_tellsOf_28 : decode cX12_tellsOf 28 = .ok (.iaload, 1) := by decide +kernel
theorem dX12_tellsOf_29 : decode cX12_tellsOf 29 = .ok (.ireturn, 1) := by decide +kernel
def zb_X12_tellsOf_29 (E : zj_E) (st : List Value) (m : zj_M) : zj_R := (zi_ret (some .int)) E st m
set_option maxRecDepth 20000 in
theorem zs_X12_tellsOf_29 : zj_KC cX12_tellsOf RX12 3 (0) (some .int) (0, fun _ => 0) 29 (zb_X12_tellsOf_29) := (zr_ret dX12_tellsOf_29)
def zb_X12_tellsOf_0 (E : zj_E) (st : List Value) (m : zj_M) : zj_R := (zi_ald 0 (zi_gf 12 1 (zi_push (.int 32) (zi_iald (zi_push (.int (-1)) (zi_ceq (zi_ild 2 zb_X12_tellsOf_29) (zi_ald 0 (zi_gf 12 1 (zi_ild 1 (zi_ald 0 (zi_gf 12 1 (zi_push (.int 32) (zi_iald (zi_b (fun x y => x + y) (zi_iald zb_X12_tellsOf_29))))))))))))))) E st m
set_option maxRecDepth 20000 in
theorem zs_X12_tellsOf_0 : zj_KC cX12_tellsOf RX12 3 (0) (some .int) (0, fun _ => 0) 0 (zb_X12_tellsOf_0) := (zr_aldn dX12_tellsOf_0 rfl (zr_gf dX12_tellsOf_1 zfl_X12_9_12 (zr_bipush dX12_tellsOf_4 rfl (zr_iald dX12_tellsOf_6 (zr_iconst dX12_tellsOf_7 rfl (zr_icne dX12_tellsOf_8 (tgt := 15) (by decide) (zr_aldn dX12_tellsOf_15 rfl (zr_gf dX12_tellsOf_16 zfl_X12_9_12 (zr_ildn dX12_tellsOf_19 rfl (zr_aldn dX12_tellsOf_20 rfl (zr_gf dX12_tellsOf_21 zfl_X12_9_12 (zr_bipush dX12_tellsOf_24 rfl (zr_iald dX12_tellsOf_26 (zr_iadd dX12_tellsOf_27 (zr_iald dX12_tellsOf_28 (zs_X12_tellsOf_29)))))))))) (zr_ildn dX12_tellsOf_11 rfl (zr_goto dX12_tellsOf_12 (tgt := 29) (by decide) (zs_X12_tellsOf_29)))))))))
def zf_X12_tellsOf : zj_F := zj_run 3 zb_X12_tellsOf_0
theorem zm_X12_tellsOf : zj_MS 0 yX12_tellsOf cX12_tellsOf 3 (some .int) zf_X12_tellsOf := zj_met (own := RX12) rfl (by decide +kernel) (Or.inr (Or.inl rfl)) (zs_X12_tellsOf_0)
theorem dX12_sumRead_0 : decode cX12_sumRead 0 = .ok (.aload_n 0, 1) := by decide +kernel
theorem dX12_sumRead_1 : decode cX12_sumRead 1 = .ok (.getfield 21, 3) := by decide +kernel
theorem dX12_sumRead_4 : decode cX12_sumRead 4 = .ok (.iconst 0, 1) := by decide +kernel
theorem dX12_sumRead_5 : decode cX12_sumRead 5 = .ok (.iload_n 1, 1) := by decide +kernel
theorem dX12_sumRead_6 : decode cX12_sumRead 6 = .ok (.iastore, 1) := by decide +kernel
theorem dX12_sumRead_7 : decode cX12_sumRead 7 = .ok (.aload_n 0, 1) := by decide +kernel
theorem dX12_sumRead_8 : decode cX12_sumRead 8 = .ok (.getfield 21, 3) := by decide +kernel
theorem dX12_sumRead_11 : decode cX12_sumRead 11 = .ok (.iconst 1, 1) := by decide +kernel
theorem dX12_sumRead_12 : decode cX12_sumRead 12 = .ok (.aload_n 0, 1) := by decide +kernel
theorem dX12_sumRead_13 : decode cX12_sumRead 13 = .ok (.getfield 9, 3) := by decide +kernel
theorem dX12_sumRead_16 : decode cX12_sumRead 16 = .ok (.bipush 37, 2) := by decide +kernel
theorem dX12_sumRead_18 : decode cX12_sumRead 18 = .ok (.iload_n 1, 1) := by decide +kernel
theorem dX12_sumRead_19 : decode cX12_sumRead 19 = .ok (.iadd, 1) := by decide +kernel
theorem dX12_sumRead_20 : decode cX12_sumRead 20 = .ok (.iaload, 1) := by decide +kernel
theorem dX12_sumRead_21 : decode cX12_sumRead 21 = .ok (.iastore, 1) := by decide +kernel
theorem dX12_sumRead_22 : decode cX12_sumRead 22 = .ok (.aload_n 0, 1) := by decide +kernel
theorem dX12_sumRead_23 : decode cX12_sumRead 23 = .ok (.getfield 21, 3) := by decide +kernel
theorem dX12_sumRead_26 : decode cX12_sumRead 26 = .ok (.iconst 2, 1) := by decide +kernel
theorem dX12_sumRead_27 : decode cX12_sumRead 27 = .ok (.aload_n 0, 1) := by decide +kernel
theorem dX12_sumRead_28 : decode cX12_sumRead 28 = .ok (.getfield 9, 3) := by decide +kernel
theorem dX12_sumRead_31 : decode cX12_sumRead 31 = .ok (.bipush 43, 2) := by decide +kernel
theorem dX12_sumRead_33 : decode cX12_sumRead 33 = .ok (.iload_n 1, 1) := by decide +kernel
theorem dX12_sumRead_34 : decode cX12_sumRead 34 = .ok (.iadd, 1) := by decide +kernel
theorem dX12_sumRead_35 : decode cX12_sumRead 35 = .ok (.iaload, 1) := by decide +kernel
theorem dX12_sumRead_36 : decode cX12_sumRead 36 = .ok (.iastore, 1) := by decide +kernel
theorem dX12_sumRead_37 : decode cX12_sumRead 37 = .ok (.aload_n 0, 1) := by decide +kernel
theorem dX12_sumRead_38 : decode cX12_sumRead 38 = .ok (.getfield 21, 3) := by decide +kernel
theorem dX12_sumRead_41 : decode cX12_sumRead 41 = .ok (.iconst 3, 1) := by decide +kernel
theorem dX12_sumRead_42 : decode cX12_sumRead 42 = .ok (.aload_n 0, 1) := by decide +kernel
theorem dX12_sumRead_43 : decode cX12_sumRead 43 = .ok (.getfield 9, 3) := by decide +kernel
theorem dX12_sumRead_46 : decode cX12_sumRead 46 = .ok (.iconst 2, 1) := by decide +kernel
theorem dX12_sumRead_47 : decode cX12_sumRead 47 = .ok (.iload_n 1, 1) := by decide +kernel
theorem dX12_sumRead_48 : decode cX12_sumRead 48 = .ok (.iadd, 1) := by decide +kernel
theorem dX12_sumRead_49 : decode cX12_sumRead 49 = .ok (.iaload, 1) := by decide +kernel
theorem dX12_sumRead_50 : decode cX12_sumRead 50 = .ok (.iastore, 1) := by decide +kernel
theorem dX12_sumRead_51 : decode cX12_sumRead 51 = .ok (.aload_n 0, 1) := by decide +kernel
theorem dX12_sumRead_52 : decode cX12_sumRead 52 = .ok (.getfield 21, 3) := by decide +kernel
theorem dX12_sumRead_55 : decode cX12_sumRead 55 = .ok (.iconst 4, 1) := by decide +kernel
theorem dX12_sumRead_56 : decode cX12_sumRead 56 = .ok (.aload_n 0, 1) := by decide +kernel
theorem dX12_sumRead_57 : decode cX12_sumRead 57 = .ok (.getfield 9, 3) := by decide +kernel
theorem dX12_sumRead_60 : decode cX12_sumRead 60 = .ok (.bipush 8, 2) := by decide +kernel
theorem dX12_sumRead_62 : decode cX12_sumRead 62 = .ok (.iload_n 1, 1) := by decide +kernel
theorem dX12_sumRead_63 : decode cX12_sumRead 63 = .ok (.iadd, 1) := by decide +kernel
theorem dX12_sumRead_64 : decode cX12_sumRead 64 = .ok (.iaload, 1) := by decide +kernel
theorem dX12_sumRead_65 : decode cX12_sumRead 65 = .ok (.iastore, 1) := by decide +kernel
theorem dX12_sumRead_66 : decode cX12_sumRead 66 = .ok (.aload_n 0, 1) := by decide +kernel
theorem dX12_sumRead_67 : decode cX12_sumRead 67 = .ok (.getfield 21, 3) := by decide +kernel
theorem dX12_sumRead_70 : decode cX12_sumRead 70 = .ok (.iconst 5, 1) := by decide +kernel
theorem dX12_sumRead_71 : decode cX12_sumRead 71 = .ok (.aload_n 0, 1) := by decide +kernel
theorem dX12_sumRead_72 : decode cX12_sumRead 72 = .ok (.getfield 9, 3) := by decide +kernel
theorem dX12_sumRead_75 : decode cX12_sumRead 75 = .ok (.iconst 0, 1) := by decide +kernel
theorem dX12_sumRead_76 : decode cX12_sumRead 76 = .ok (.iaload, 1) := by decide +kernel
theorem dX12_sumRead_77 : decode cX12_sumRead 77 = .ok (.bipush 10, 2) := by decide +kernel
theorem dX12_sumRead_79 : decode cX12_sumRead 79 = .ok (.irem, 1) := by decide +kernel
theorem dX12_sumRead_80 : decode cX12_sumRead 80 = .ok (.iastore, 1) := by decide +kernel
theorem dX12_sumRead_81 : decode cX12_sumRead 81 = .ok (.iconst 0, 1) := by decide +kernel
theorem dX12_sumRead_82 : decode cX12_sumRead 82 = .ok (.istore_n 2, 1) := by decide +kernel
theorem dX12_sumRead_83 : decode cX12_sumRead 83 = .ok (.aload_n 0, 1) := by decide +kernel
theorem dX12_sumRead_84 : decode cX12_sumRead 84 = .ok (.sipush 228, 3) := by decide +kernel
theorem dX12_sumRead_87 : decode cX12_sumRead 87 = .ok (.iconst 0, 1) := by decide +kernel
theorem dX12_sumRead_88 : decode cX12_sumRead 88 = .ok (.invokevirtual 134, 3) := by decide +kernel
theorem dX12_sumRead_91 : decode cX12_sumRead 91 = .ok (.istore_n 3, 1) := by decide +kernel
theorem dX12_sumRead_92 : decode cX12_sumRead 92 = .ok (.sipush 233, 3) := by decide +kernel
theorem dX12_sumRead_95 : decode cX12_sumRead 95 = .ok (.sipush 140, 3) := by decide +kernel
theorem dX12_sumRead_98 : decode cX12_sumRead 98 = .ok (.aload_n 0, 1) := by decide +kernel
theorem dX12_sumRead_99 : decode cX12_sumRead 99 = .ok (.getfield 9, 3) := by decide +kernel
theorem dX12_sumRead_102 : decode cX12_sumRead 102 = .ok (.bipush 32, 2) := by decide +kernel
theorem dX12_sumRead_104 : decode cX12_sumRead 104 = .ok (.iaload, 1) := by decide +kernel
theorem dX12_sumRead_105 : decode cX12_sumRead 105 = .ok (.imul, 1) := by decide +kernel
theorem dX12_sumRead_106 : decode cX12_sumRead 106 = .ok (.iadd, 1) := by decide +kernel
theorem dX12_sumRead_107 : decode cX12_sumRead 107 = .ok (.istore 4, 2) := by decide +kernel
theorem dX12_sumRead_109 : decode cX12_sumRead 109 = .ok (.iconst 0, 1) := by decide +kernel
theorem dX12_sumRead_110 : decode cX12_sumRead 110 = .ok (.istore 5, 2) := by decide +kernel
theorem dX12_sumRead_112 : decode cX12_sumRead 112 = .ok (.iload 4, 2) := by decide +kernel
theorem dX12_sumRead_114 : decode cX12_sumRead 114 = .ok (.istore 6, 2) := by decide +kernel
theorem dX12_sumRead_116 : decode cX12_sumRead 116 = .ok (.iload 6, 2) := by decide +kernel
theorem dX12_sumRead_118 : decode cX12_sumRead 118 = .ok (.iload 4, 2) := by decide +kernel
theorem dX12_sumRead_120 : decode cX12_sumRead 120 = .ok (.iload_n 3, 1) := by decide +kernel
theorem dX12_sumRead_121 : decode cX12_sumRead 121 = .ok (.iadd, 1) := by decide +kernel
theorem dX12_sumRead_122 : decode cX12_sumRead 122 = .ok (.if_icmp .ge 300, 3) := by decide +kernel
theorem dX12_sumRead_125 : decode cX12_sumRead 125 = .ok (.aload_n 0, 1) := by decide +kernel
theorem dX12_sumRead_126 : decode cX12_sumRead 126 = .ok (.getfield 9, 3) := by decide +kernel
theorem dX12_sumRead_129 : decode cX12_sumRead 129 = .ok (.iload 6, 2) := by decide +kernel
theorem dX12_sumRead_131 : decode cX12_sumRead 131 = .ok (.iaload, 1) := by decide +kernel
theorem dX12_sumRead_132 : decode cX12_sumRead 132 = .ok (.istore 7, 2) := by decide +kernel
theorem dX12_sumRead_134 : decode cX12_sumRead 134 = .ok (.iload 7, 2) := by decide +kernel
theorem dX12_sumRead_136 : decode cX12_sumRead 136 = .ok (.ifCond .lt 97, 3) := by decide +kernel
theorem dX12_sumRead_139 : decode cX12_sumRead 139 = .ok (.aload_n 0, 1) := by decide +kernel
theorem dX12_sumRead_140 : decode cX12_sumRead 140 = .ok (.getfield 21, 3) := by decide +kernel
theorem dX12_sumRead_143 : decode cX12_sumRead 143 = .ok (.iload 7, 2) := by decide +kernel
theorem dX12_sumRead_145 : decode cX12_sumRead 145 = .ok (.bipush 8, 2) := by decide +kernel
theorem dX12_sumRead_147 : decode cX12_sumRead 147 = .ok (.irem, 1) := by decide +kernel
theorem dX12_sumRead_148 : decode cX12_sumRead 148 = .ok (.iaload, 1) := by decide +kernel
theorem dX12_sumRead_149 : decode cX12_sumRead 149 = .ok (.istore 8, 2) := by decide +kernel
theorem dX12_sumRead_151 : decode cX12_sumRead 151 = .ok (.iload 7, 2) := by decide +kernel
theorem dX12_sumRead_153 : decode cX12_sumRead 153 = .ok (.bipush 8, 2) := by decide +kernel
theorem dX12_sumRead_155 : decode cX12_sumRead 155 = .ok (.idiv, 1) := by decide +kernel
theorem dX12_sumRead_156 : decode cX12_sumRead 156 = .ok (.iconst 4, 1) := by decide +kernel
theorem dX12_sumRead_157 : decode cX12_sumRead 157 = .ok (.irem, 1) := by decide +kernel
theorem dX12_sumRead_158 : decode cX12_sumRead 158 = .ok (.istore 9, 2) := by decide +kernel
theorem dX12_sumRead_160 : decode cX12_sumRead 160 = .ok (.iload 7, 2) := by decide +kernel
theorem dX12_sumRead_162 : decode cX12_sumRead 162 = .ok (.bipush 32, 2) := by decide +kernel
theorem dX12_sumRead_164 : decode cX12_sumRead 164 = .ok (.idiv, 1) := by decide +kernel
theorem dX12_sumRead_165 : decode cX12_sumRead 165 = .ok (.istore 10, 2) := by decide +kernel
theorem dX12_sumRead_167 : decode cX12_sumRead 167 = .ok (.aload_n 0, 1) := by decide +kernel
theorem dX12_sumRead_168 : decode cX12_sumRead 168 = .ok (.getfield 24, 3) := by decide +kernel
theorem dX12_sumRead_171 : decode cX12_sumRead 171 = .ok (.iload 5, 2) := by decide +kernel
theorem dX12_sumRead_173 : decode cX12_sumRead 173 = .ok (.iload 9, 2) := by decide +kernel
theorem dX12_sumRead_175 : decode cX12_sumRead 175 = .ok (.ifCond .ne 18, 3) := by decide +kernel
theorem dX12_sumRead_178 : decode cX12_sumRead 178 = .ok (.iload 8, 2) := by decide +kernel
theorem dX12_sumRead_180 : decode cX12_sumRead 180 = .ok (.iload 10, 2) := by decide +kernel
theorem dX12_sumRead_182 : decode cX12_sumRead 182 = .ok (.if_icmp .ge 7, 3) := by decide +kernel
theorem dX12_sumRead_185 : decode cX12_sumRead 185 = .ok (.iconst 1, 1) := by decide +kernel
theorem dX12_sumRead_186 : decode cX12_sumRead 186 = .ok (.goto 40, 3) := by decide +kernel
theorem dX12_sumRead_189 : decode cX12_sumRead 189 = .ok (.iconst 0, 1) := by decide +kernel
theorem dX12_sumRead_190 : decode cX12_sumRead 190 = .ok (.goto 36, 3) := by decide +kernel
theorem dX12_sumRead_193 : decode cX12_sumRead 193 = .ok (.iload 9, 2) := by decide +kernel
theorem dX12_sumRead_195 : decode cX12_sumRead 195 = .ok (.iconst 1, 1) := by decide +kernel
theorem dX12_sumRead_196 : decode cX12_sumRead 196 = .ok (.if_icmp .ne 18, 3) := by decide +kernel
theorem dX12_sumRead_199 : decode cX12_sumRead 199 = .ok (.iload 8, 2) := by decide +kernel
theorem dX12_sumRead_201 : decode cX12_sumRead 201 = .ok (.iload 10, 2) := by decide +kernel
theorem dX12_sumRead_203 : decode cX12_sumRead 203 = .ok (.if_icmp .ne 7, 3) := by decide +kernel
theorem dX12_sumRead_206 : decode cX12_sumRead 206 = .ok (.iconst 1, 1) := by decide +kernel
theorem dX12_sumRead_207 : decode cX12_sumRead 207 = .ok (.goto 19, 3) := by decide +kernel
theorem dX12_sumRead_210 : decode cX12_sumRead 210 = .ok (.iconst 0, 1) := by decide +kernel
theorem dX12_sumRead_211 : decode cX12_sumRead 211 = .ok (.goto 15, 3) := by decide +kernel
theorem dX12_sumRead_214 : decode cX12_sumRead 214 = .ok (.iload 8, 2) := by decide +kernel
theorem dX12_sumRead_216 : decode cX12_sumRead 216 = .ok (.iload 10, 2) := by decide +kernel
theorem dX12_sumRead_218 : decode cX12_sumRead 218 = .ok (.if_icmp .le 7, 3) := by decide +kernel
theorem dX12_sumRead_221 : decode cX12_sumRead 221 = .ok (.iconst 1, 1) := by decide +kernel
theorem dX12_sumRead_222 : decode cX12_sumRead 222 = .ok (.goto 4, 3) := by decide +kernel
theorem dX12_sumRead_225 : decode cX12_sumRead 225 = .ok (.iconst 0, 1) := by decide +kernel
theorem dX12_sumRead_226 : decode cX12_sumRead 226 = .ok (.bastore, 1) := by decide +kernel
theorem dX12_sumRead_227 : decode cX12_sumRead 227 = .ok (.iinc 5 1, 3) := by decide +kernel
theorem dX12_sumRead_230 : decode cX12_sumRead 230 = .ok (.goto 186, 3) := by decide +kernel
theorem dX12_sumRead_233 : decode cX12_sumRead 233 = .ok (.iload 7, 2) := by decide +kernel
theorem dX12_sumRead_235 : decode cX12_sumRead 235 = .ok (.iconst (-1), 1) := by decide +kernel
theorem dX12_sumRead_236 : decode cX12_sumRead 236 = .ok (.if_icmp .ne 32, 3) := by decide +kernel
theorem dX12_sumRead_239 : decode cX12_sumRead 239 = .ok (.aload_n 0, 1) := by decide +kernel
theorem dX12_sumRead_240 : decode cX12_sumRead 240 = .ok (.getfield 24, 3) := by decide +kernel
theorem dX12_sumRead_243 : decode cX12_sumRead 243 = .ok (.iload 5, 2) := by decide +kernel
theorem dX12_sumRead_245 : decode cX12_sumRead 245 = .ok (.iconst 1, 1) := by decide +kernel
theorem dX12_sumRead_246 : decode cX12_sumRead 246 = .ok (.isub, 1) := by decide +kernel
theorem dX12_sumRead_247 : decode cX12_sumRead 247 = .ok (.aload_n 0, 1) := by decide +kernel
theorem dX12_sumRead_248 : decode cX12_sumRead 248 = .ok (.getfield 24, 3) := by decide +kernel
theorem dX12_sumRead_251 : decode cX12_sumRead 251 = .ok (.iload 5, 2) := by decide +kernel
theorem dX12_sumRead_253 : decode cX12_sumRead 253 = .ok (.iconst 1, 1) := by decide +kernel
theorem dX12_sumRead_254 : decode cX12_sumRead 254 = .ok (.isub, 1) := by decide +kernel
theorem dX12_sumRead_255 : decode cX12_sumRead 255 = .ok (.baload, 1) := by decide +kernel
theorem dX12_sumRead_256 : decode cX12_sumRead 256 = .ok (.ifCond .ne 7, 3) := by decide +kernel
theorem dX12_sumRead_259 : decode cX12_sumRead 259 = .ok (.iconst 1, 1) := by decide +kernel
theorem dX12_sumRead_260 : decode cX12_sumRead 260 = .ok (.goto 4, 3) := by decide +kernel
theorem dX12_sumRead_263 : decode cX12_sumRead 263 = .ok (.iconst 0, 1) := by decide +kernel
theorem dX12_sumRead_264 : decode cX12_sumRead 264 = .ok (.bastore, 1) := by decide +kernel
theorem dX12_sumRead_265 : decode cX12_sumRead 265 = .ok (.goto 151, 3) := by decide +kernel
theorem dX12_sumRead_268 : decode cX12_sumRead 268 = .ok (.iload 7, 2) := by decide +kernel
theorem dX12_sumRead_270 : decode cX12_sumRead 270 = .ok (.bipush (-10), 2) := by decide +kernel
theorem dX12_sumRead_272 : decode cX12_sumRead 272 = .ok (.if_icmp .le 82, 3) := by decide +kernel
theorem dX12_sumRead_275 : decode cX12_sumRead 275 = .ok (.iinc 5 (-1), 3) := by decide +kernel
theorem dX12_sumRead_278 : decode cX12_sumRead 278 = .ok (.aload_n 0, 1) := by decide +kernel
theorem dX12_sumRead_279 : decode cX12_sumRead 279 = .ok (.getfield 24, 3) := by decide +kernel
theorem dX12_sumRead_282 : decode cX12_sumRead 282 = .ok (.iload 5, 2) := by decide +kernel
theorem dX12_sumRead_284 : decode cX12_sumRead 284 = .ok (.iconst 1, 1) := by decide +kernel
theorem dX12_sumRead_285 : decode cX12_sumRead 285 = .ok (.isub, 1) := by decide +kernel
theorem dX12_sumRead_286 : decode cX12_sumRead 286 = .ok (.iload 7, 2) := by decide +kernel
theorem dX12_sumRead_288 : decode cX12_sumRead 288 = .ok (.bipush (-2), 2) := by decide +kernel
theorem dX12_sumRead_290 : decode cX12_sumRead 290 = .ok (.if_icmp .ne 33, 3) := by decide +kernel
theorem dX12_sumRead_293 : decode cX12_sumRead 293 = .ok (.aload_n 0, 1) := by decide +kernel
theorem dX12_sumRead_294 : decode cX12_sumRead 294 = .ok (.getfield 24, 3) := by decide +kernel
theorem dX12_sumRead_297 : decode cX12_sumRead 297 = .ok (.iload 5, 2) := by decide +kernel
theorem dX12_sumRead_299 : decode cX12_sumRead 299 = .ok (.iconst 1, 1) := by decide +kernel
theorem dX12_sumRead_300 : decode cX12_sumRead 300 = .ok (.isub, 1) := by decide +kernel
theorem dX12_sumRead_301 : decode cX12_sumRead 301 = .ok (.baload, 1) := by decide +kernel
theorem dX12_sumRead_302 : decode cX12_sumRead 302 = .ok (.ifCond .eq 17, 3) := by decide +kernel
theorem dX12_sumRead_305 : decode cX12_sumRead 305 = .ok (.aload_n 0, 1) := by decide +kernel
theorem dX12_sumRead_306 : decode cX12_sumRead 306 = .ok (.getfield 24, 3) := by decide +kernel
theorem dX12_sumRead_309 : decode cX12_sumRead 309 = .ok (.iload 5, 2) := by decide +kernel
theorem dX12_sumRead_311 : decode cX12_sumRead 311 = .ok (.baload, 1) := by decide +kernel
theorem dX12_sumRead_312 : decode cX12_sumRead 312 = .ok (.ifCond .eq 7, 3) := by decide +kernel
theorem dX12_sumRead_315 : decode cX12_sumRead 315 = .ok (.iconst 1, 1) := by decide +kernel
theorem dX12_sumRead_316 : decode cX12_sumRead 316 = .ok (.goto 34, 3) := by decide +kernel
theorem dX12_sumRead_319 : decode cX12_sumRead 319 = .ok (.iconst 0, 1) := by decide +kernel
theorem dX12_sumRead_320 : decode cX12_sumRead 320 = .ok (.goto 30, 3) := by decide +kernel
theorem dX12_sumRead_323 : decode cX12_sumRead 323 = .ok (.aload_n 0, 1) := by decide +kernel
theorem dX12_sumRead_324 : decode cX12_sumRead 324 = .ok (.getfield 24, 3) := by decide +kernel
theorem dX12_sumRead_327 : decode cX12_sumRead 327 = .ok (.iload 5, 2) := by decide +kernel
theorem dX12_sumRead_329 : decode cX12_sumRead 329 = .ok (.iconst 1, 1) := by decide +kernel
theorem dX12_sumRead_330 : decode cX12_sumRead 330 = .ok (.isub, 1) := by decide +kernel
theorem dX12_sumRead_331 : decode cX12_sumRead 331 = .ok (.baload, 1) := by decide +kernel
theorem dX12_sumRead_332 : decode cX12_sumRead 332 = .ok (.ifCond .ne 13, 3) := by decide +kernel
theorem dX12_sumRead_335 : decode cX12_sumRead 335 = .ok (.aload_n 0, 1) := by decide +kernel
theorem dX12_sumRead_336 : decode cX12_sumRead 336 = .ok (.getfield 24, 3) := by decide +kernel
theorem dX12_sumRead_339 : decode cX12_sumRead 339 = .ok (.iload 5, 2) := by decide +kernel
theorem dX12_sumRead_341 : decode cX12_sumRead 341 = .ok (.baload, 1) := by decide +kernel
theorem dX12_sumRead_342 : decode cX12_sumRead 342 = .ok (.ifCond .eq 7, 3) := by decide +kernel
theorem dX12_sumRead_345 : decode cX12_sumRead 345 = .ok (.iconst 1, 1) := by decide +kernel
theorem dX12_sumRead_346 : decode cX12_sumRead 346 = .ok (.goto 4, 3) := by decide +kernel
theorem dX12_sumRead_349 : decode cX12_sumRead 349 = .ok (.iconst 0, 1) := by decide +kernel
theorem dX12_sumRead_350 : decode cX12_sumRead 350 = .ok (.bastore, 1) := by decide +kernel
theorem dX12_sumRead_351 : decode cX12_sumRead 351 = .ok (.goto 65, 3) := by decide +kernel
theorem dX12_sumRead_354 : decode cX12_sumRead 354 = .ok (.iconst 0, 1) := by decide +kernel
theorem dX12_sumRead_355 : decode cX12_sumRead 355 = .ok (.istore 5, 2) := by decide +kernel
theorem dX12_sumRead_357 : decode cX12_sumRead 357 = .ok (.aload_n 0, 1) := by decide +kernel
theorem dX12_sumRead_358 : decode cX12_sumRead 358 = .ok (.getfield 24, 3) := by decide +kernel
theorem dX12_sumRead_361 : decode cX12_sumRead 361 = .ok (.iconst 0, 1) := by decide +kernel
theorem dX12_sumRead_362 : decode cX12_sumRead 362 = .ok (.baload, 1) := by decide +kernel
theorem dX12_sumRead_363 : decode cX12_sumRead 363 = .ok (.istore 8, 2) := by decide +kernel
theorem dX12_sumRead_365 : decode cX12_sumRead 365 = .ok (.iload_n 2, 1) := by decide +kernel
theorem dX12_sumRead_366 : decode cX12_sumRead 366 = .ok (.iload 8, 2) := by decide +kernel
theorem dX12_sumRead_368 : decode cX12_sumRead 368 = .ok (.ifCond .eq 19, 3) := by decide +kernel
theorem dX12_sumRead_371 : decode cX12_sumRead 371 = .ok (.iload 7, 2) := by decide +kernel
theorem dX12_sumRead_373 : decode cX12_sumRead 373 = .ok (.sipush (-200), 3) := by decide +kernel
theorem dX12_sumRead_376 : decode cX12_sumRead 376 = .ok (.if_icmp .le 11, 3) := by decide +kernel
theorem dX12_sumRead_379 : decode cX12_sumRead 379 = .ok (.bipush (-10), 2) := by decide +kernel
theorem dX12_sumRead_381 : decode cX12_sumRead 381 = .ok (.iload 7, 2) := by decide +kernel
theorem dX12_sumRead_383 : decode cX12_sumRead 383 = .ok (.isub, 1) := by decide +kernel
theorem dX12_sumRead_384 : decode cX12_sumRead 384 = .ok (.goto 4, 3) := by decide +kernel
theorem dX12_sumRead_387 : decode cX12_sumRead 387 = .ok (.iconst 0, 1) := by decide +kernel
theorem dX12_sumRead_388 : decode cX12_sumRead 388 = .ok (.iadd, 1) := by decide +kernel
theorem dX12_sumRead_389 : decode cX12_sumRead 389 = .ok (.istore_n 2, 1) := by decide +kernel
theorem dX12_sumRead_390 : decode cX12_sumRead 390 = .ok (.iload_n 2, 1) := by decide +kernel
theorem dX12_sumRead_391 : decode cX12_sumRead 391 = .ok (.iload 8, 2) := by decide +kernel
theorem dX12_sumRead_393 : decode cX12_sumRead 393 = .ok (.ifCond .eq 20, 3) := by decide +kernel
theorem dX12_sumRead_396 : decode cX12_sumRead 396 = .ok (.iload 7, 2) := by decide +kernel
theorem dX12_sumRead_398 : decode cX12_sumRead 398 = .ok (.sipush (-200), 3) := by decide +kernel
theorem dX12_sumRead_401 : decode cX12_sumRead 401 = .ok (.if_icmp .gt 12, 3) := by decide +kernel
theorem dX12_sumRead_404 : decode cX12_sumRead 404 = .ok (.sipush (-200), 3) := by decide +kernel
theorem dX12_sumRead_407 : decode cX12_sumRead 407 = .ok (.iload 7, 2) := by decide +kernel
theorem dX12_sumRead_409 : decode cX12_sumRead 409 = .ok (.isub, 1) := by decide +kernel
theorem dX12_sumRead_410 : decode cX12_sumRead 410 = .ok (.goto 4, 3) := by decide +kernel
theorem dX12_sumRead_413 : decode cX12_sumRead 413 = .ok (.iconst 0, 1) := by decide +kernel
theorem dX12_sumRead_414 : decode cX12_sumRead 414 = .ok (.isub, 1) := by decide +kernel
theorem dX12_sumRead_415 : decode cX12_sumRead 415 = .ok (.istore_n 2, 1) := by decide +kernel
theorem dX12_sumRead_416 : decode cX12_sumRead 416 = .ok (.iinc 6 1, 3) := by decide +kernel
theorem dX12_sumRead_419 : decode cX12_sumRead 419 = .ok (.goto (-303), 3) := by decide +kernel
theorem dX12_sumRead_422 : decode cX12_sumRead 422 = .ok (.iload_n 2, 1) := by decide +kernel
theorem dX12_sumRead_423 : decode cX12_sumRead 423 = .ok (.ireturn, 1) := by decide +kernel
def zb_X12_sumRead_416 (r116 : zj_K) (E : zj_E) (st : List Value) (m : zj_M) : zj_R := (zi_inc 6 1 r116) E st m
set_option maxRecDepth 20000 in
theorem zs_X12_sumRead_416 {r116 : zj_K} (h116 : zj_KC cX12_sumRead RX12 11 (1) (some .int) (0, fun _ => 0) 116 r116) : zj_KC cX12_sumRead RX12 11 (1) (some .int) (0, fun _ => 0) 416 (zb_X12_sumRead_416 r116) := (zr_inc dX12_sumRead_416 rfl (zr_goto dX12_sumRead_419 (tgt := 116) (by decide) h116))
def zb_X12_sumRead_414 (r116 : zj_K) (E : zj_E) (st : List Value) (m : zj_M) : zj_R := (zi_b (fun x y => x - y) (zi_ist 2 (zb_X12_sumRead_416 r116))) E st m
set_option maxRecDepth 20000 in
theorem zs_X12_sumRead_414 {r116 : zj_K} (h116 : zj_KC cX12_sumRead RX12 11 (1) (some .int) (0, fun _ => 0) 116 r116) : zj_KC cX12_sumRead RX12 11 (1) (some .int) (0, fun _ => 0) 414 (zb_X12_sumRead_414 r116) := (zr_isub dX12_sumRead_414 (zr_istn dX12_sumRead_415 rfl (zs_X12_sumRead_416 h116)))
def zb_X12_sumRead_413 (r116 : zj_K) (E : zj_E) (st : List Value) (m : zj_M) : zj_R := (zi_push (.int 0) (zb_X12_sumRead_414 r116)) E st m
set_option maxRecDepth 20000 in
theorem zs_X12_sumRead_413 {r116 : zj_K} (h116 : zj_KC cX12_sumRead RX12 11 (1) (some .int) (0, fun _ => 0) 116 r116) : zj_KC cX12_sumRead RX12 11 (1) (some .int) (0, fun _ => 0) 413 (zb_X12_sumRead_413 r116) := (zr_iconst dX12_sumRead_413 rfl (zs_X12_sumRead_414 h116))
def zb_X12_sumRead_388 (r116 : zj_K) (E : zj_E) (st : List Value) (m : zj_M) : zj_R := (zi_b (fun x y => x + y) (zi_ist 2 (zi_ild 2 (zi_ild 8 (zi_eq (zb_X12_sumRead_413 r116) (zi_ild 7 (zi_push (.int (-200)) (zi_cle (zi_push (.int (-200)) (zi_ild 7 (zi_b (fun x y => x - y) (zb_X12_sumRead_414 r116)))) (zb_X12_sumRead_413 r116))))))))) E st m
set_option maxRecDepth 20000 in
theorem zs_X12_sumRead_388 {r116 : zj_K} (h116 : zj_KC cX12_sumRead RX12 11 (1) (some .int) (0, fun _ => 0) 116 r116) : zj_KC cX12_sumRead RX12 11 (1) (some .int) (0, fun _ => 0) 388 (zb_X12_sumRead_388 r116) := (zr_iadd dX12_sumRead_388 (zr_istn dX12_sumRead_389 rfl (zr_ildn dX12_sumRead_390 rfl (zr_ild dX12_sumRead_391 (zr_ifeq dX12_sumRead_393 (tgt := 413) (by decide) (zs_X12_sumRead_413 h116) (zr_ild dX12_sumRead_396 (zr_sipush dX12_sumRead_398 rfl (zr_icgt dX12_sumRead_401 (tgt := 413) (by decide) (zs_X12_sumRead_413 h116) (zr_sipush dX12_sumRead_404 rfl (zr_ild dX12_sumRead_407 (zr_isub dX12_sumRead_409 (zr_goto dX12_sumRead_410 (tgt := 414) (by decide) (zs_X12_sumRead_414 h116)))))))))))))
def zb_X12_sumRead_387 (r116 : zj_K) (E : zj_E) (st : List Value) (m : zj_M) : zj_R := (zi_push (.int 0) (zb_X12_sumRead_388 r116)) E st m
set_option maxRecDepth 20000 in
theorem zs_X12_sumRead_387 {r116 : zj_K} (h116 : zj_KC cX12_sumRead RX12 11 (1) (some .int) (0, fun _ => 0) 116 r116) : zj_KC cX12_sumRead RX12 11 (1) (some .int) (0, fun _ => 0) 387 (zb_X12_sumRead_387 r116) := (zr_iconst dX12_sumRead_387 rfl (zs_X12_sumRead_388 h116))
def zb_X12_sumRead_350 (r116 : zj_K) (E : zj_E) (st : List Value) (m : zj_M) : zj_R := (zi_zast (zb_X12_sumRead_416 r116)) E st m
set_option maxRecDepth 20000 in
theorem zs_X12_sumRead_350 {r116 : zj_K} (h116 : zj_KC cX12_sumRead RX12 11 (1) (some .int) (0, fun _ => 0) 116 r116) : zj_KC cX12_sumRead RX12 11 (1) (some .int) (0, fun _ => 0) 350 (zb_X12_sumRead_350 r116) := (zr_zast dX12_sumRead_350 (zr_goto dX12_sumRead_351 (tgt := 416) (by decide) (zs_X12_sumRead_416 h116)))
def zb_X12_sumRead_345 (r116 : zj_K) (E : zj_E) (st : List Value) (m : zj_M) : zj_R := (zi_push (.int 1) (zb_X12_sumRead_350 r116)) E st m
set_option maxRecDepth 20000 in
theorem zs_X12_sumRead_345 {r116 : zj_K} (h116 : zj_KC cX12_sumRead RX12 11 (1) (some .int) (0, fun _ => 0) 116 r116) : zj_KC cX12_sumRead RX12 11 (1) (some .int) (0, fun _ => 0) 345 (zb_X12_sumRead_345 r116) := (zr_iconst dX12_sumRead_345 rfl (zr_goto dX12_sumRead_346 (tgt := 350) (by decide) (zs_X12_sumRead_350 h116)))
def zb_X12_sumRead_319 (r116 : zj_K) (E : zj_E) (st : List Value) (m : zj_M) : zj_R := (zi_push (.int 0) (zb_X12_sumRead_350 r116)) E st m
set_option maxRecDepth 20000 in
theorem zs_X12_sumRead_319 {r116 : zj_K} (h116 : zj_KC cX12_sumRead RX12 11 (1) (some .int) (0, fun _ => 0) 116 r116) : zj_KC cX12_sumRead RX12 11 (1) (some .int) (0, fun _ => 0) 319 (zb_X12_sumRead_319 r116) := (zr_iconst dX12_sumRead_319 rfl (zr_goto dX12_sumRead_320 (tgt := 350) (by decide) (zs_X12_sumRead_350 h116)))
def zb_X12_sumRead_264 (r116 : zj_K) (E : zj_E) (st : List Value) (m : zj_M) : zj_R := (zi_zast (zb_X12_sumRead_416 r116)) E st m
set_option maxRecDepth 20000 in
theorem zs_X12_sumRead_264 {r116 : zj_K} (h116 : zj_KC cX12_sumRead RX12 11 (1) (some .int) (0, fun _ => 0) 116 r116) : zj_KC cX12_sumRead RX12 11 (1) (some .int) (0, fun _ => 0) 264 (zb_X12_sumRead_264 r116) := (zr_zast dX12_sumRead_264 (zr_goto dX12_sumRead_265 (tgt := 416) (by decide) (zs_X12_sumRead_416 h116)))
def zb_X12_sumRead_226 (r116 : zj_K) (E : zj_E) (st : List Value) (m : zj_M) : zj_R := (zi_zast (zi_inc 5 1 (zb_X12_sumRead_416 r116))) E st m
set_option maxRecDepth 20000 in
theorem zs_X12_sumRead_226 {r116 : zj_K} (h116 : zj_KC cX12_sumRead RX12 11 (1) (some .int) (0, fun _ => 0) 116 r116) : zj_KC cX12_sumRead RX12 11 (1) (some .int) (0, fun _ => 0) 226 (zb_X12_sumRead_226 r116) := (zr_zast dX12_sumRead_226 (zr_inc dX12_sumRead_227 rfl (zr_goto dX12_sumRead_230 (tgt := 416) (by decide) (zs_X12_sumRead_416 h116))))
def zb_X12_sumRead_116 (r116 : zj_K) (E : zj_E) (st : List Value) (m : zj_M) : zj_R := (zi_ild 6 (zi_ild 4 (zi_ild 3 (zi_b (fun x y => x + y) (zi_clt (zi_ald 0 (zi_gf 12 1 (zi_ild 6 (zi_iald (zi_ist 7 (zi_ild 7 (zi_lt (zi_ild 7 (zi_push (.int (-1)) (zi_ceq (zi_ald 0 (zi_gf 12 11 (zi_ild 5 (zi_push (.int 1) (zi_b (fun x y => x - y) (zi_ald 0 (zi_gf 12 11 (zi_ild 5 (zi_push (.int 1) (zi_b (fun x y => x - y) (zi_zald (zi_eq (zi_push (.int 1) (zb_X12_sumRead_264 r116)) (zi_push (.int 0) (zb_X12_sumRead_264 r116)))))))))))))) (zi_ild 7 (zi_push (.int (-10)) (zi_cle (zi_push (.int 0) (zi_ist 5 (zi_ald 0 (zi_gf 12 11 (zi_push (.int 0) (zi_zald (zi_ist 8 (zi_ild 2 (zi_ild 8 (zi_eq (zb_X12_sumRead_387 r116) (zi_ild 7 (zi_push (.int (-200)) (zi_cle (zb_X12_sumRead_387 r116) (zi_push (.int (-10)) (zi_ild 7 (zi_b (fun x y => x - y) (zb_X12_sumRead_388 r116))))))))))))))))) (zi_inc 5 (-1) (zi_ald 0 (zi_gf 12 11 (zi_ild 5 (zi_push (.int 1) (zi_b (fun x y => x - y) (zi_ild 7 (zi_push (.int (-2)) (zi_ceq (zi_ald 0 (zi_gf 12 11 (zi_ild 5 (zi_push (.int 1) (zi_b (fun x y => x - y) (zi_zald (zi_eq (zb_X12_sumRead_319 r116) (zi_ald 0 (zi_gf 12 11 (zi_ild 5 (zi_zald (zi_eq (zb_X12_sumRead_319 r116) (zi_push (.int 1) (zb_X12_sumRead_350 r116)))))))))))))) (zi_ald 0 (zi_gf 12 11 (zi_ild 5 (zi_push (.int 1) (zi_b (fun x y => x - y) (zi_zald (zi_eq (zi_ald 0 (zi_gf 12 11 (zi_ild 5 (zi_zald (zi_eq (zi_push (.int 0) (zb_X12_sumRead_350 r116)) (zb_X12_sumRead_345 r116)))))) (zb_X12_sumRead_345 r116))))))))))))))))))))))) (zi_ald 0 (zi_gf 12 10 (zi_ild 7 (zi_push (.int 8) (zi_bd (fun x y => x - x / y * y) (zi_iald (zi_ist 8 (zi_ild 7 (zi_push (.int 8) (zi_bd (fun x y => x / y) (zi_push (.int 4) (zi_bd (fun x y => x - x / y * y) (zi_ist 9 (zi_ild 7 (zi_push (.int 32) (zi_bd (fun x y => x / y) (zi_ist 10 (zi_ald 0 (zi_gf 12 11 (zi_ild 5 (zi_ild 9 (zi_eq (zi_ild 8 (zi_ild 10 (zi_clt (zi_push (.int 1) (zb_X12_sumRead_226 r116)) (zi_push (.int 0) (zb_X12_sumRead_226 r116))))) (zi_ild 9 (zi_push (.int 1) (zi_ceq (zi_ild 8 (zi_ild 10 (zi_ceq (zi_push (.int 1) (zb_X12_sumRead_226 r116)) (zi_push (.int 0) (zb_X12_sumRead_226 r116))))) (zi_ild 8 (zi_ild 10 (zi_cle (zi_push (.int 0) (zb_X12_sumRead_226 r116)) (zi_push (.int 1) (zb_X12_sumRead_226 r116))))))))))))))))))))))))))))))))))))) (zi_ild 2 (zi_ret (some .int)))))))) E st m
set_option maxRecDepth 20000 in
theorem zs_X12_sumRead_116 {r116 : zj_K} (h116 : zj_KC cX12_sumRead RX12 11 (1) (some .int) (0, fun _ => 0) 116 r116) : zj_KC cX12_sumRead RX12 11 (1) (some .int) (0, fun _ => 0) 116 (zb_X12_sumRead_116 r116) := (zr_ild dX12_sumRead_116 (zr_ild dX12_sumRead_118 (zr_ildn dX12_sumRead_120 rfl (zr_iadd dX12_sumRead_121 (zr_icge dX12_sumRead_122 (tgt := 422) (by decide) (zr_ildn dX12_sumRead_422 rfl (zr_ret dX12_sumRead_423)) (zr_aldn dX12_sumRead_125 rfl (zr_gf dX12_sumRead_126 zfl_X12_9_12 (zr_ild dX12_sumRead_129 (zr_iald dX12_sumRead_131 (zr_ist dX12_sumRead_132 (zr_ild dX12_sumRead_134 (zr_iflt dX12_sumRead_136 (tgt := 233) (by decide) (zr_ild dX12_sumRead_233 (zr_iconst dX12_sumRead_235 rfl (zr_icne dX12_sumRead_236 (tgt := 268) (by decide) (zr_ild dX12_sumRead_268 (zr_bipush dX12_sumRead_270 rfl (zr_icle dX12_sumRead_272 (tgt := 354) (by decide) (zr_iconst dX12_sumRead_354 rfl (zr_ist dX12_sumRead_355 (zr_aldn dX12_sumRead_357 rfl (zr_gf dX12_sumRead_358 zfl_X12_24_12 (zr_iconst dX12_sumRead_361 rfl (zr_zald dX12_sumRead_362 (zr_ist dX12_sumRead_363 (zr_ildn dX12_sumRead_365 rfl (zr_ild dX12_sumRead_366 (zr_ifeq dX12_sumRead_368 (tgt := 387) (by decide) (zs_X12_sumRead_387 h116) (zr_ild dX12_sumRead_371 (zr_sipush dX12_sumRead_373 rfl (zr_icle dX12_sumRead_376 (tgt := 387) (by decide) (zs_X12_sumRead_387 h116) (zr_bipush dX12_sumRead_379 rfl (zr_ild dX12_sumRead_381 (zr_isub dX12_sumRead_383 (zr_goto dX12_sumRead_384 (tgt := 388) (by decide) (zs_X12_sumRead_388 h116)))))))))))))))))) (zr_inc dX12_sumRead_275 rfl (zr_aldn dX12_sumRead_278 rfl (zr_gf dX12_sumRead_279 zfl_X12_24_12 (zr_ild dX12_sumRead_282 (zr_iconst dX12_sumRead_284 rfl (zr_isub dX12_sumRead_285 (zr_ild dX12_sumRead_286 (zr_bipush dX12_sumRead_288 rfl (zr_icne dX12_sumRead_290 (tgt := 323) (by decide) (zr_aldn dX12_sumRead_323 rfl (zr_gf dX12_sumRead_324 zfl_X12_24_12 (zr_ild dX12_sumRead_327 (zr_iconst dX12_sumRead_329 rfl (zr_isub dX12_sumRead_330 (zr_zald dX12_sumRead_331 (zr_ifne dX12_sumRead_332 (tgt := 345) (by decide) (zs_X12_sumRead_345 h116) (zr_aldn dX12_sumRead_335 rfl (zr_gf dX12_sumRead_336 zfl_X12_24_12 (zr_ild dX12_sumRead_339 (zr_zald dX12_sumRead_341 (zr_ifeq dX12_sumRead_342 (tgt := 349) (by decide) (zr_iconst dX12_sumRead_349 rfl (zs_X12_sumRead_350 h116)) (zs_X12_sumRead_345 h116))))))))))))) (zr_aldn dX12_sumRead_293 rfl (zr_gf dX12_sumRead_294 zfl_X12_24_12 (zr_ild dX12_sumRead_297 (zr_iconst dX12_sumRead_299 rfl (zr_isub dX12_sumRead_300 (zr_zald dX12_sumRead_301 (zr_ifeq dX12_sumRead_302 (tgt := 319) (by decide) (zs_X12_sumRead_319 h116) (zr_aldn dX12_sumRead_305 rfl (zr_gf dX12_sumRead_306 zfl_X12_24_12 (zr_ild dX12_sumRead_309 (zr_zald dX12_sumRead_311 (zr_ifeq dX12_sumRead_312 (tgt := 319) (by decide) (zs_X12_sumRead_319 h116) (zr_iconst dX12_sumRead_315 rfl (zr_goto dX12_sumRead_316 (tgt := 350) (by decide) (zs_X12_sumRead_350 h116))))))))))))))))))))))))))) (zr_aldn dX12_sumRead_239 rfl (zr_gf dX12_sumRead_240 zfl_X12_24_12 (zr_ild dX12_sumRead_243 (zr_iconst dX12_sumRead_245 rfl (zr_isub dX12_sumRead_246 (zr_aldn dX12_sumRead_247 rfl (zr_gf dX12_sumRead_248 zfl_X12_24_12 (zr_ild dX12_sumRead_251 (zr_iconst dX12_sumRead_253 rfl (zr_isub dX12_sumRead_254 (zr_zald dX12_sumRead_255 (zr_ifne dX12_sumRead_256 (tgt := 263) (by decide) (zr_iconst dX12_sumRead_263 rfl (zs_X12_sumRead_264 h116)) (zr_iconst dX12_sumRead_259 rfl (zr_goto dX12_sumRead_260 (tgt := 264) (by decide) (zs_X12_sumRead_264 h116)))))))))))))))))) (zr_aldn dX12_sumRead_139 rfl (zr_gf dX12_sumRead_140 zfl_X12_21_12 (zr_ild dX12_sumRead_143 (zr_bipush dX12_sumRead_145 rfl (zr_irem dX12_sumRead_147 (zr_iald dX12_sumRead_148 (zr_ist dX12_sumRead_149 (zr_ild dX12_sumRead_151 (zr_bipush dX12_sumRead_153 rfl (zr_idiv dX12_sumRead_155 (zr_iconst dX12_sumRead_156 rfl (zr_irem dX12_sumRead_157 (zr_ist dX12_sumRead_158 (zr_ild dX12_sumRead_160 (zr_bipush dX12_sumRead_162 rfl (zr_idiv dX12_sumRead_164 (zr_ist dX12_sumRead_165 (zr_aldn dX12_sumRead_167 rfl (zr_gf dX12_sumRead_168 zfl_X12_24_12 (zr_ild dX12_sumRead_171 (zr_ild dX12_sumRead_173 (zr_ifne dX12_sumRead_175 (tgt := 193) (by decide) (zr_ild dX12_sumRead_193 (zr_iconst dX12_sumRead_195 rfl (zr_icne dX12_sumRead_196 (tgt := 214) (by decide) (zr_ild dX12_sumRead_214 (zr_ild dX12_sumRead_216 (zr_icle dX12_sumRead_218 (tgt := 225) (by decide) (zr_iconst dX12_sumRead_225 rfl (zs_X12_sumRead_226 h116)) (zr_iconst dX12_sumRead_221 rfl (zr_goto dX12_sumRead_222 (tgt := 226) (by decide) (zs_X12_sumRead_226 h116)))))) (zr_ild dX12_sumRead_199 (zr_ild dX12_sumRead_201 (zr_icne dX12_sumRead_203 (tgt := 210) (by decide) (zr_iconst dX12_sumRead_210 rfl (zr_goto dX12_sumRead_211 (tgt := 226) (by decide) (zs_X12_sumRead_226 h116))) (zr_iconst dX12_sumRead_206 rfl (zr_goto dX12_sumRead_207 (tgt := 226) (by decide) (zs_X12_sumRead_226 h116))))))))) (zr_ild dX12_sumRead_178 (zr_ild dX12_sumRead_180 (zr_icge dX12_sumRead_182 (tgt := 189) (by decide) (zr_iconst dX12_sumRead_189 rfl (zr_goto dX12_sumRead_190 (tgt := 226) (by decide) (zs_X12_sumRead_226 h116))) (zr_iconst dX12_sumRead_185 rfl (zr_goto dX12_sumRead_186 (tgt := 226) (by decide) (zs_X12_sumRead_226 h116))))))))))))))))))))))))))))))))))))))))
def zb_X12_sumRead_0 (E : zj_E) (st : List Value) (m : zj_M) : zj_R := (zi_ald 0 (zi_gf 12 10 (zi_push (.int 0) (zi_ild 1 (zi_iast (zi_ald 0 (zi_gf 12 10 (zi_push (.int 1) (zi_ald 0 (zi_gf 12 1 (zi_push (.int 37) (zi_ild 1 (zi_b (fun x y => x + y) (zi_iald (zi_iast (zi_ald 0 (zi_gf 12 10 (zi_push (.int 2) (zi_ald 0 (zi_gf 12 1 (zi_push (.int 43) (zi_ild 1 (zi_b (fun x y => x + y) (zi_iald (zi_iast (zi_ald 0 (zi_gf 12 10 (zi_push (.int 3) (zi_ald 0 (zi_gf 12 1 (zi_push (.int 2) (zi_ild 1 (zi_b (fun x y => x + y) (zi_iald (zi_iast (zi_ald 0 (zi_gf 12 10 (zi_push (.int 4) (zi_ald 0 (zi_gf 12 1 (zi_push (.int 8) (zi_ild 1 (zi_b (fun x y => x + y) (zi_iald (zi_iast (zi_ald 0 (zi_gf 12 10 (zi_push (.int 5) (zi_ald 0 (zi_gf 12 1 (zi_push (.int 0) (zi_iald (zi_push (.int 10) (zi_bd (fun x y => x - x / y * y) (zi_iast (zi_push (.int 0) (zi_ist 2 (zi_ald 0 (zi_push (.int 228) (zi_push (.int 0) (zi_vc 12 2 zf_X12_tellsOf (zi_ist 3 (zi_push (.int 233) (zi_push (.int 140) (zi_ald 0 (zi_gf 12 1 (zi_push (.int 32) (zi_iald (zi_b (fun x y => x * y) (zi_b (fun x y => x + y) (zi_ist 4 (zi_push (.int 0) (zi_ist 5 (zi_ild 4 (zi_ist 6 (zj_lp (zb_X12_sumRead_116) zj_fu))))))))))))))) zi_no))))))))))))))))))))))))))))))))))))))))))))))))))))))))))))) E st m
set_option maxRecDepth 20000 in
theorem zs_X12_sumRead_0 : zj_KC cX12_sumRead RX12 11 (1) (some .int) (0, fun _ => 0) 0 (zb_X12_sumRead_0) := (zr_aldn dX12_sumRead_0 rfl (zr_gf dX12_sumRead_1 zfl_X12_21_12 (zr_iconst dX12_sumRead_4 rfl (zr_ildn dX12_sumRead_5 rfl (zr_iast dX12_sumRead_6 (zr_aldn dX12_sumRead_7 rfl (zr_gf dX12_sumRead_8 zfl_X12_21_12 (zr_iconst dX12_sumRead_11 rfl (zr_aldn dX12_sumRead_12 rfl (zr_gf dX12_sumRead_13 zfl_X12_9_12 (zr_bipush dX12_sumRead_16 rfl (zr_ildn dX12_sumRead_18 rfl (zr_iadd dX12_sumRead_19 (zr_iald dX12_sumRead_20 (zr_iast dX12_sumRead_21 (zr_aldn dX12_sumRead_22 rfl (zr_gf dX12_sumRead_23 zfl_X12_21_12 (zr_iconst dX12_sumRead_26 rfl (zr_aldn dX12_sumRead_27 rfl (zr_gf dX12_sumRead_28 zfl_X12_9_12 (zr_bipush dX12_sumRead_31 rfl (zr_ildn dX12_sumRead_33 rfl (zr_iadd dX12_sumRead_34 (zr_iald dX12_sumRead_35 (zr_iast dX12_sumRead_36 (zr_aldn dX12_sumRead_37 rfl (zr_gf dX12_sumRead_38 zfl_X12_21_12 (zr_iconst dX12_sumRead_41 rfl (zr_aldn dX12_sumRead_42 rfl (zr_gf dX12_sumRead_43 zfl_X12_9_12 (zr_iconst dX12_sumRead_46 rfl (zr_ildn dX12_sumRead_47 rfl (zr_iadd dX12_sumRead_48 (zr_iald dX12_sumRead_49 (zr_iast dX12_sumRead_50 (zr_aldn dX12_sumRead_51 rfl (zr_gf dX12_sumRead_52 zfl_X12_21_12 (zr_iconst dX12_sumRead_55 rfl (zr_aldn dX12_sumRead_56 rfl (zr_gf dX12_sumRead_57 zfl_X12_9_12 (zr_bipush dX12_sumRead_60 rfl (zr_ildn dX12_sumRead_62 rfl (zr_iadd dX12_sumRead_63 (zr_iald dX12_sumRead_64 (zr_iast dX12_sumRead_65 (zr_aldn dX12_sumRead_66 rfl (zr_gf dX12_sumRead_67 zfl_X12_21_12 (zr_iconst dX12_sumRead_70 rfl (zr_aldn dX12_sumRead_71 rfl (zr_gf dX12_sumRead_72 zfl_X12_9_12 (zr_iconst dX12_sumRead_75 rfl (zr_iald dX12_sumRead_76 (zr_bipush dX12_sumRead_77 rfl (zr_irem dX12_sumRead_79 (zr_iast dX12_sumRead_80 (zr_iconst dX12_sumRead_81 rfl (zr_istn dX12_sumRead_82 rfl (zr_aldn dX12_sumRead_83 rfl (zr_sipush dX12_sumRead_84 rfl (zr_iconst dX12_sumRead_87 rfl (zr_callV dX12_sumRead_88 zm_X12_tellsOf ⟨⟨zq_1173, zq_77⟩, by decide +kernel, by omega, by decide⟩ rfl rfl zq_1170 zq_1172 zq_40 (zr_istn dX12_sumRead_91 rfl (zr_sipush dX12_sumRead_92 rfl (zr_sipush dX12_sumRead_95 rfl (zr_aldn dX12_sumRead_98 rfl (zr_gf dX12_sumRead_99 zfl_X12_9_12 (zr_bipush dX12_sumRead_102 rfl (zr_iald dX12_sumRead_104 (zr_imul dX12_sumRead_105 (zr_iadd dX12_sumRead_106 (zr_ist dX12_sumRead_107 (zr_iconst dX12_sumRead_109 rfl (zr_ist dX12_sumRead_110 (zr_ild dX12_sumRead_112 (zr_ist dX12_sumRead_114 (zr_lp (fun _ h => zs_X12_sumRead_116 h) zj_fu))))))))))))))) zr_no)))))))))))))))))))))))))))))))))))))))))))))))))))))))))))))
def zf_X12_sumRead : zj_F := zj_run 11 zb_X12_sumRead_0
theorem zm_X12_sumRead : zj_MS 1 yX12_sumRead cX12_sumRead 11 (some .int) zf_X12_sumRead := zj_met (own := RX12) rfl (by decide +kernel) (Or.inr (Or.inl rfl)) (zs_X12_sumRead_0)
theorem dX12_sumOf_0 : decode cX12_sumOf 0 = .ok (.aload_n 0, 1) := by decide +kernel
theorem dX12_sumOf_1 : decode cX12_sumOf 1 = .ok (.getfield 127, 3) := by decide +kernel
theorem dX12_sumOf_4 : decode cX12_sumOf 4 = .ok (.ifCond .ne 9, 3) := by decide +kernel
theorem dX12_sumOf_7 : decode cX12_sumOf 7 = .ok (.aload_n 0, 1) := by decide +kernel
theorem dX12_sumOf_8 : decode cX12_sumOf 8 = .ok (.iload_n 1, 1) := by decide +kernel
theorem dX12_sumOf_9 : decode cX12_sumOf 9 = .ok (.invokevirtual 130, 3) := by decide +kernel
theorem dX12_sumOf_12 : decode cX12_sumOf 12 = .ok (.ireturn, 1) := by decide +kernel
theorem dX12_sumOf_13 : decode cX12_sumOf 13 = .ok (.iload_n 1, 1) := by decide +kernel
theorem dX12_sumOf_14 : decode cX12_sumOf 14 = .ok (.bipush 16, 2) := by decide +kernel
theorem dX12_sumOf_16 : decode cX12_sumOf 16 = .ok (.imul, 1) := by decide +kernel
theorem dX12_sumOf_17 : decode cX12_sumOf 17 = .ok (.aload_n 0, 1) := by decide +kernel
theorem dX12_sumOf_18 : decode cX12_sumOf 18 = .ok (.getfield 9, 3) := by decide +kernel
theorem dX12_sumOf_21 : decode cX12_sumOf 21 = .ok (.iconst 2, 1) := by decide +kernel
theorem dX12_sumOf_22 : decode cX12_sumOf 22 = .ok (.iload_n 1, 1) := by decide +kernel
theorem dX12_sumOf_23 : decode cX12_sumOf 23 = .ok (.iadd, 1) := by decide +kernel
theorem dX12_sumOf_24 : decode cX12_sumOf 24 = .ok (.iaload, 1) := by decide +kernel
theorem dX12_sumOf_25 : decode cX12_sumOf 25 = .ok (.iadd, 1) := by decide +kernel
theorem dX12_sumOf_26 : decode cX12_sumOf 26 = .ok (.iconst 4, 1) := by decide +kernel
theorem dX12_sumOf_27 : decode cX12_sumOf 27 = .ok (.imul, 1) := by decide +kernel
theorem dX12_sumOf_28 : decode cX12_sumOf 28 = .ok (.aload_n 0, 1) := by decide +kernel
theorem dX12_sumOf_29 : decode cX12_sumOf 29 = .ok (.getfield 9, 3) := by decide +kernel
theorem dX12_sumOf_32 : decode cX12_sumOf 32 = .ok (.bipush 8, 2) := by decide +kernel
theorem dX12_sumOf_34 : decode cX12_sumOf 34 = .ok (.iload_n 1, 1) := by decide +kernel
theorem dX12_sumOf_35 : decode cX12_sumOf 35 = .ok (.iadd, 1) := by decide +kernel
theorem dX12_sumOf_36 : decode cX12_sumOf 36 = .ok (.iaload, 1) := by decide +kernel
theorem dX12_sumOf_37 : decode cX12_sumOf 37 = .ok (.iadd, 1) := by decide +kernel
theorem dX12_sumOf_38 : decode cX12_sumOf 38 = .ok (.bipush 10, 2) := by decide +kernel
theorem dX12_sumOf_40 : decode cX12_sumOf 40 = .ok (.imul, 1) := by decide +kernel
theorem dX12_sumOf_41 : decode cX12_sumOf 41 = .ok (.aload_n 0, 1) := by decide +kernel
theorem dX12_sumOf_42 : decode cX12_sumOf 42 = .ok (.getfield 9, 3) := by decide +kernel
theorem dX12_sumOf_45 : decode cX12_sumOf 45 = .ok (.iconst 0, 1) := by decide +kernel
theorem dX12_sumOf_46 : decode cX12_sumOf 46 = .ok (.iaload, 1) := by decide +kernel
theorem dX12_sumOf_47 : decode cX12_sumOf 47 = .ok (.bipush 10, 2) := by decide +kernel
theorem dX12_sumOf_49 : decode cX12_sumOf 49 = .ok (.irem, 1) := by decide +kernel
theorem dX12_sumOf_50 : decode cX12_sumOf 50 = .ok (.iadd, 1) := by decide +kernel
theorem dX12_sumOf_51 : decode cX12_sumOf 51 = .ok (.istore_n 2, 1) := by decide +kernel
theorem dX12_sumOf_52 : decode cX12_sumOf 52 = .ok (.aload_n 0, 1) := by decide +kernel
theorem dX12_sumOf_53 : decode cX12_sumOf 53 = .ok (.getfield 31, 3) := by decide +kernel
theorem dX12_sumOf_56 : decode cX12_sumOf 56 = .ok (.iload_n 2, 1) := by decide +kernel
theorem dX12_sumOf_57 : decode cX12_sumOf 57 = .ok (.baload, 1) := by decide +kernel
theorem dX12_sumOf_58 : decode cX12_sumOf 58 = .ok (.ifCond .ne 21, 3) := by decide +kernel
theorem dX12_sumOf_61 : decode cX12_sumOf 61 = .ok (.aload_n 0, 1) := by decide +kernel
theorem dX12_sumOf_62 : decode cX12_sumOf 62 = .ok (.getfield 28, 3) := by decide +kernel
theorem dX12_sumOf_65 : decode cX12_sumOf 65 = .ok (.iload_n 2, 1) := by decide +kernel
theorem dX12_sumOf_66 : decode cX12_sumOf 66 = .ok (.aload_n 0, 1) := by decide +kernel
theorem dX12_sumOf_67 : decode cX12_sumOf 67 = .ok (.iload_n 1, 1) := by decide +kernel
theorem dX12_sumOf_68 : decode cX12_sumOf 68 = .ok (.invokevirtual 130, 3) := by decide +kernel
theorem dX12_sumOf_71 : decode cX12_sumOf 71 = .ok (.iastore, 1) := by decide +kernel
theorem dX12_sumOf_72 : decode cX12_sumOf 72 = .ok (.aload_n 0, 1) := by decide +kernel
theorem dX12_sumOf_73 : decode cX12_sumOf 73 = .ok (.getfield 31, 3) := by decide +kernel
theorem dX12_sumOf_76 : decode cX12_sumOf 76 = .ok (.iload_n 2, 1) := by decide +kernel
theorem dX12_sumOf_77 : decode cX12_sumOf 77 = .ok (.iconst 1, 1) := by decide +kernel
theorem dX12_sumOf_78 : decode cX12_sumOf 78 = .ok (.bastore, 1) := by decide +kernel
theorem dX12_sumOf_79 : decode cX12_sumOf 79 = .ok (.aload_n 0, 1) := by decide +kernel
theorem dX12_sumOf_80 : decode cX12_sumOf 80 = .ok (.getfield 28, 3) := by decide +kernel
theorem dX12_sumOf_83 : decode cX12_sumOf 83 = .ok (.iload_n 2, 1) := by decide +kernel
theorem dX12_sumOf_84 : decode cX12_sumOf 84 = .ok (.iaload, 1) := by decide +kernel
theorem dX12_sumOf_85 : decode cX12_sumOf 85 = .ok (.ireturn, 1) := by decide +kernel
def zb_X12_sumOf_79 (E : zj_E) (st : List Value) (m : zj_M) : zj_R := (zi_ald 0 (zi_gf 12 12 (zi_ild 2 (zi_iald (zi_ret (some .int)))))) E st m
set_option maxRecDepth 20000 in
theorem zs_X12_sumOf_79 : zj_KC cX12_sumOf RX12 3 (2) (some .int) (0, fun _ => 0) 79 (zb_X12_sumOf_79) := (zr_aldn dX12_sumOf_79 rfl (zr_gf dX12_sumOf_80 zfl_X12_28_12 (zr_ildn dX12_sumOf_83 rfl (zr_iald dX12_sumOf_84 (zr_ret dX12_sumOf_85)))))
def zb_X12_sumOf_0 (E : zj_E) (st : List Value) (m : zj_M) : zj_R := (zi_ald 0 (zi_gf 12 14 (zi_eq (zi_ald 0 (zi_ild 1 (zi_vc 12 1 zf_X12_sumRead (zi_ret (some .int)) zi_no))) (zi_ild 1 (zi_push (.int 16) (zi_b (fun x y => x * y) (zi_ald 0 (zi_gf 12 1 (zi_push (.int 2) (zi_ild 1 (zi_b (fun x y => x + y) (zi_iald (zi_b (fun x y => x + y) (zi_push (.int 4) (zi_b (fun x y => x * y) (zi_ald 0 (zi_gf 12 1 (zi_push (.int 8) (zi_ild 1 (zi_b (fun x y => x + y) (zi_iald (zi_b (fun x y => x + y) (zi_push (.int 10) (zi_b (fun x y => x * y) (zi_ald 0 (zi_gf 12 1 (zi_push (.int 0) (zi_iald (zi_push (.int 10) (zi_bd (fun x y => x - x / y * y) (zi_b (fun x y => x + y) (zi_ist 2 (zi_ald 0 (zi_gf 12 13 (zi_ild 2 (zi_zald (zi_eq (zi_ald 0 (zi_gf 12 12 (zi_ild 2 (zi_ald 0 (zi_ild 1 (zi_vc 12 1 zf_X12_sumRead (zi_iast (zi_ald 0 (zi_gf 12 13 (zi_ild 2 (zi_push (.int 1) (zi_zast zb_X12_sumOf_79)))))) zi_no)))))) zb_X12_sumOf_79))))))))))))))))))))))))))))))))))))) E st m
set_option maxRecDepth 20000 in
theorem zs_X12_sumOf_0 : zj_KC cX12_sumOf RX12 3 (2) (some .int) (0, fun _ => 0) 0 (zb_X12_sumOf_0) := (zr_aldn dX12_sumOf_0 rfl (zr_gf dX12_sumOf_1 zfl_X12_127_12 (zr_ifne dX12_sumOf_4 (tgt := 13) (by decide) (zr_ildn dX12_sumOf_13 rfl (zr_bipush dX12_sumOf_14 rfl (zr_imul dX12_sumOf_16 (zr_aldn dX12_sumOf_17 rfl (zr_gf dX12_sumOf_18 zfl_X12_9_12 (zr_iconst dX12_sumOf_21 rfl (zr_ildn dX12_sumOf_22 rfl (zr_iadd dX12_sumOf_23 (zr_iald dX12_sumOf_24 (zr_iadd dX12_sumOf_25 (zr_iconst dX12_sumOf_26 rfl (zr_imul dX12_sumOf_27 (zr_aldn dX12_sumOf_28 rfl (zr_gf dX12_sumOf_29 zfl_X12_9_12 (zr_bipush dX12_sumOf_32 rfl (zr_ildn dX12_sumOf_34 rfl (zr_iadd dX12_sumOf_35 (zr_iald dX12_sumOf_36 (zr_iadd dX12_sumOf_37 (zr_bipush dX12_sumOf_38 rfl (zr_imul dX12_sumOf_40 (zr_aldn dX12_sumOf_41 rfl (zr_gf dX12_sumOf_42 zfl_X12_9_12 (zr_iconst dX12_sumOf_45 rfl (zr_iald dX12_sumOf_46 (zr_bipush dX12_sumOf_47 rfl (zr_irem dX12_sumOf_49 (zr_iadd dX12_sumOf_50 (zr_istn dX12_sumOf_51 rfl (zr_aldn dX12_sumOf_52 rfl (zr_gf dX12_sumOf_53 zfl_X12_31_12 (zr_ildn dX12_sumOf_56 rfl (zr_zald dX12_sumOf_57 (zr_ifne dX12_sumOf_58 (tgt := 79) (by decide) (zs_X12_sumOf_79) (zr_aldn dX12_sumOf_61 rfl (zr_gf dX12_sumOf_62 zfl_X12_28_12 (zr_ildn dX12_sumOf_65 rfl (zr_aldn dX12_sumOf_66 rfl (zr_ildn dX12_sumOf_67 rfl (zr_callV dX12_sumOf_68 zm_X12_sumRead ⟨⟨zq_1169, zq_77⟩, by decide +kernel, by omega, by decide⟩ rfl rfl zq_1166 zq_1168 zq_39 (zr_iast dX12_sumOf_71 (zr_aldn dX12_sumOf_72 rfl (zr_gf dX12_sumOf_73 zfl_X12_31_12 (zr_ildn dX12_sumOf_76 rfl (zr_iconst dX12_sumOf_77 rfl (zr_zast dX12_sumOf_78 (zs_X12_sumOf_79))))))) zr_no)))))))))))))))))))))))))))))))))))))))) (zr_aldn dX12_sumOf_7 rfl (zr_ildn dX12_sumOf_8 rfl (zr_callV dX12_sumOf_9 zm_X12_sumRead ⟨⟨zq_1169, zq_77⟩, by decide +kernel, by omega, by decide⟩ rfl rfl zq_1166 zq_1168 zq_39 (zr_ret dX12_sumOf_12) zr_no))))))
def zf_X12_sumOf : zj_F := zj_run 3 zb_X12_sumOf_0
theorem zm_X12_sumOf : zj_MS 2 yX12_sumOf cX12_sumOf 3 (some .int) zf_X12_sumOf := zj_met (own := RX12) rfl (by decide +kernel) (Or.inr (Or.inl rfl)) (zs_X12_sumOf_0)
theorem dX12_isOn_0 : decode cX12_isOn 0 = .ok (.aload_n 0, 1) := by decide +kernel
theorem dX12_isOn_1 : decode cX12_isOn 1 = .ok (.getfield 9, 3) := by decide +kernel
theorem dX12_isOn_4 : decode cX12_isOn 4 = .ok (.bipush 33, 2) := by decide +kernel
theorem dX12_isOn_6 : decode cX12_isOn 6 = .ok (.iload_n 1, 1) := by decide +kernel
theorem dX12_isOn_7 : decode cX12_isOn 7 = .ok (.iadd, 1) := by decide +kernel
theorem dX12_isOn_8 : decode cX12_isOn 8 = .ok (.iaload, 1) := by decide +kernel
theorem dX12_isOn_9 : decode cX12_isOn 9 = .ok (.iload_n 2, 1) := by decide +kernel
theorem dX12_isOn_10 : decode cX12_isOn 10 = .ok (.ishr, 1) := by decide +kernel
theorem dX12_isOn_11 : decode cX12_isOn 11 = .ok (.iconst 1, 1) := by decide +kernel
theorem dX12_isOn_12 : decode cX12_isOn 12 = .ok (.iand, 1) := by decide +kernel
theorem dX12_isOn_13 : decode cX12_isOn 13 = .ok (.iconst 1, 1) := by decide +kernel
theorem dX12_isOn_14 : decode cX12_isOn 14 = .ok (.if_icmp .ne 7, 3) := by decide +kernel
theorem dX12_isOn_17 : decode cX12_isOn 17 = .ok (.iconst 1, 1) := by decide +kernel
theorem dX12_isOn_18 : decode cX12_isOn 18 = .ok (.goto 4, 3) := by decide +kernel
theorem dX12_isOn_21 : decode cX12_isOn 21 = .ok (.iconst 0, 1) := by decide +kernel
theorem dX12_isOn_22 : decode cX12_isOn 22 = .ok (.ireturn, 1) := by decide +kernel
def zb_X12_isOn_22 (E : zj_E) (st : List Value) (m : zj_M) : zj_R := (zi_ret (some .boolean)) E st m
set_option maxRecDepth 20000 in
theorem zs_X12_isOn_22 : zj_KC cX12_isOn RX12 3 (0) (some .boolean) (0, fun _ => 0) 22 (zb_X12_isOn_22) := (zr_ret dX12_isOn_22)
def zb_X12_isOn_0 (E : zj_E) (st : List Value) (m : zj_M) : zj_R := (zi_ald 0 (zi_gf 12 1 (zi_push (.int 33) (zi_ild 1 (zi_b (fun x y => x + y) (zi_iald (zi_ild 2 (zi_b (fun x y => x >>> (y &&& 31)) (zi_push (.int 1) (zi_b (fun x y => x &&& y) (zi_push (.int 1) (zi_ceq (zi_push (.int 1) zb_X12_isOn_22) (zi_push (.int 0) zb_X12_isOn_22))))))))))))) E st m
set_option maxRecDepth 20000 in
theorem zs_X12_isOn_0 : zj_KC cX12_isOn RX12 3 (0) (some .boolean) (0, fun _ => 0) 0 (zb_X12_isOn_0) := (zr_aldn dX12_isOn_0 rfl (zr_gf dX12_isOn_1 zfl_X12_9_12 (zr_bipush dX12_isOn_4 rfl (zr_ildn dX12_isOn_6 rfl (zr_iadd dX12_isOn_7 (zr_iald dX12_isOn_8 (zr_ildn dX12_isOn_9 rfl (zr_ishr dX12_isOn_10 (zr_iconst dX12_isOn_11 rfl (zr_iand dX12_isOn_12 (zr_iconst dX12_isOn_13 rfl (zr_icne dX12_isOn_14 (tgt := 21) (by decide) (zr_iconst dX12_isOn_21 rfl (zs_X12_isOn_22)) (zr_iconst dX12_isOn_17 rfl (zr_goto dX12_isOn_18 (tgt := 22) (by decide) (zs_X12_isOn_22)))))))))))))))
def zf_X12_isOn : zj_F := zj_run 3 zb_X12_isOn_0
theorem zm_X12_isOn : zj_MS 0 yX12_isOn cX12_isOn 3 (some .boolean) zf_X12_isOn := zj_met (own := RX12) rfl (by decide +kernel) (Or.inr (Or.inr (Or.inl rfl))) (zs_X12_isOn_0)
theorem dX12_isStray_0 : decode cX12_isStray 0 = .ok (.aload_n 0, 1) := by decide +kernel
theorem dX12_isStray_1 : decode cX12_isStray 1 = .ok (.aload_n 0, 1) := by decide +kernel
theorem dX12_isStray_2 : decode cX12_isStray 2 = .ok (.getfield 9, 3) := by decide +kernel
theorem dX12_isStray_5 : decode cX12_isStray 5 = .ok (.bipush 8, 2) := by decide +kernel
theorem dX12_isStray_7 : decode cX12_isStray 7 = .ok (.iload_n 1, 1) := by decide +kernel
theorem dX12_isStray_8 : decode cX12_isStray 8 = .ok (.iadd, 1) := by decide +kernel
theorem dX12_isStray_9 : decode cX12_isStray 9 = .ok (.iaload, 1) := by decide +kernel
theorem dX12_isStray_10 : decode cX12_isStray 10 = .ok (.aload_n 0, 1) := by decide +kernel
theorem dX12_isStray_11 : decode cX12_isStray 11 = .ok (.getfield 9, 3) := by decide +kernel
theorem dX12_isStray_14 : decode cX12_isStray 14 = .ok (.iconst 2, 1) := by decide +kernel
theorem dX12_isStray_15 : decode cX12_isStray 15 = .ok (.iload_n 1, 1) := by decide +kernel
theorem dX12_isStray_16 : decode cX12_isStray 16 = .ok (.iadd, 1) := by decide +kernel
theorem dX12_isStray_17 : decode cX12_isStray 17 = .ok (.iaload, 1) := by decide +kernel
theorem dX12_isStray_18 : decode cX12_isStray 18 = .ok (.invokevirtual 138, 3) := by decide +kernel
theorem dX12_isStray_21 : decode cX12_isStray 21 = .ok (.ifCond .ne 7, 3) := by decide +kernel
theorem dX12_isStray_24 : decode cX12_isStray 24 = .ok (.iconst 1, 1) := by decide +kernel
theorem dX12_isStray_25 : decode cX12_isStray 25 = .ok (.goto 4, 3) := by decide +kernel
theorem dX12_isStray_28 : decode cX12_isStray 28 = .ok (.iconst 0, 1) := by decide +kernel
theorem dX12_isStray_29 : decode cX12_isStray 29 = .ok (.ireturn, 1) := by decide +kernel
def zb_X12_isStray_29 (E : zj_E) (st : List Value) (m : zj_M) : zj_R := (zi_ret (some .boolean)) E st m
set_option maxRecDepth 20000 in
theorem zs_X12_isStray_29 : zj_KC cX12_isStray RX12 2 (1) (some .boolean) (0, fun _ => 0) 29 (zb_X12_isStray_29) := (zr_ret dX12_isStray_29)
def zb_X12_isStray_0 (E : zj_E) (st : List Value) (m : zj_M) : zj_R := (zi_ald 0 (zi_ald 0 (zi_gf 12 1 (zi_push (.int 8) (zi_ild 1 (zi_b (fun x y => x + y) (zi_iald (zi_ald 0 (zi_gf 12 1 (zi_push (.int 2) (zi_ild 1 (zi_b (fun x y => x + y) (zi_iald (zi_vc 12 2 zf_X12_isOn (zi_eq (zi_push (.int 1) zb_X12_isStray_29) (zi_push (.int 0) zb_X12_isStray_29)) zi_no)))))))))))))) E st m
set_option maxRecDepth 20000 in
theorem zs_X12_isStray_0 : zj_KC cX12_isStray RX12 2 (1) (some .boolean) (0, fun _ => 0) 0 (zb_X12_isStray_0) := (zr_aldn dX12_isStray_0 rfl (zr_aldn dX12_isStray_1 rfl (zr_gf dX12_isStray_2 zfl_X12_9_12 (zr_bipush dX12_isStray_5 rfl (zr_ildn dX12_isStray_7 rfl (zr_iadd dX12_isStray_8 (zr_iald dX12_isStray_9 (zr_aldn dX12_isStray_10 rfl (zr_gf dX12_isStray_11 zfl_X12_9_12 (zr_iconst dX12_isStray_14 rfl (zr_ildn dX12_isStray_15 rfl (zr_iadd dX12_isStray_16 (zr_iald dX12_isStray_17 (zr_callV dX12_isStray_18 zm_X12_isOn ⟨⟨zq_1153, zq_77⟩, by decide +kernel, by omega, by decide⟩ rfl rfl zq_1150 zq_1152 zq_35 (zr_ifne dX12_isStray_21 (tgt := 28) (by decide) (zr_iconst dX12_isStray_28 rfl (zs_X12_isStray_29)) (zr_iconst dX12_isStray_24 rfl (zr_goto dX12_isStray_25 (tgt := 29) (by decide) (zs_X12_isStray_29)))) zr_no))))))))))))))
def zf_X12_isStray : zj_F := zj_run 2 zb_X12_isStray_0
theorem zm_X12_isStray : zj_MS 1 yX12_isStray cX12_isStray 2 (some .boolean) zf_X12_isStray := zj_met (own := RX12) rfl (by decide +kernel) (Or.inr (Or.inr (Or.inl rfl))) (zs_X12_isStray_0)
theorem dX12_hasCompany_0 : decode cX12_hasCompany 0 = .ok (.iconst 0, 1) := by decide +kernel
theorem dX12_hasCompany_1 : decode cX12_hasCompany 1 = .ok (.istore_n 2, 1) := by decide +kernel
theorem dX12_hasCompany_2 : decode cX12_hasCompany 2 = .ok (.iconst 0, 1) := by decide +kernel
theorem dX12_hasCompany_3 : decode cX12_hasCompany 3 = .ok (.istore_n 3, 1) := by decide +kernel
theorem dX12_hasCompany_4 : decode cX12_hasCompany 4 = .ok (.iload_n 3, 1) := by decide +kernel
theorem dX12_hasCompany_5 : decode cX12_hasCompany 5 = .ok (.aload_n 0, 1) := by decide +kernel
theorem dX12_hasCompany_6 : decode cX12_hasCompany 6 = .ok (.getfield 9, 3) := by decide +kernel
theorem dX12_hasCompany_9 : decode cX12_hasCompany 9 = .ok (.bipush 26, 2) := by decide +kernel
theorem dX12_hasCompany_11 : decode cX12_hasCompany 11 = .ok (.iaload, 1) := by decide +kernel
theorem dX12_hasCompany_12 : decode cX12_hasCompany 12 = .ok (.if_icmp .ge 55, 3) := by decide +kernel
theorem dX12_hasCompany_15 : decode cX12_hasCompany 15 = .ok (.iload_n 2, 1) := by decide +kernel
theorem dX12_hasCompany_16 : decode cX12_hasCompany 16 = .ok (.ifCond .ne 39, 3) := by decide +kernel
theorem dX12_hasCompany_19 : decode cX12_hasCompany 19 = .ok (.iload_n 3, 1) := by decide +kernel
theorem dX12_hasCompany_20 : decode cX12_hasCompany 20 = .ok (.iload_n 1, 1) := by decide +kernel
theorem dX12_hasCompany_21 : decode cX12_hasCompany 21 = .ok (.if_icmp .eq 38, 3) := by decide +kernel
theorem dX12_hasCompany_24 : decode cX12_hasCompany 24 = .ok (.aload_n 0, 1) := by decide +kernel
theorem dX12_hasCompany_25 : decode cX12_hasCompany 25 = .ok (.getfield 9, 3) := by decide +kernel
theorem dX12_hasCompany_28 : decode cX12_hasCompany 28 = .ok (.bipush 14, 2) := by decide +kernel
theorem dX12_hasCompany_30 : decode cX12_hasCompany 30 = .ok (.iload_n 3, 1) := by decide +kernel
theorem dX12_hasCompany_31 : decode cX12_hasCompany 31 = .ok (.iadd, 1) := by decide +kernel
theorem dX12_hasCompany_32 : decode cX12_hasCompany 32 = .ok (.iaload, 1) := by decide +kernel
theorem dX12_hasCompany_33 : decode cX12_hasCompany 33 = .ok (.ifCond .ne 26, 3) := by decide +kernel
theorem dX12_hasCompany_36 : decode cX12_hasCompany 36 = .ok (.aload_n 0, 1) := by decide +kernel
theorem dX12_hasCompany_37 : decode cX12_hasCompany 37 = .ok (.getfield 9, 3) := by decide +kernel
theorem dX12_hasCompany_40 : decode cX12_hasCompany 40 = .ok (.iconst 2, 1) := by decide +kernel
theorem dX12_hasCompany_41 : decode cX12_hasCompany 41 = .ok (.iload_n 3, 1) := by decide +kernel
theorem dX12_hasCompany_42 : decode cX12_hasCompany 42 = .ok (.iadd, 1) := by decide +kernel
theorem dX12_hasCompany_43 : decode cX12_hasCompany 43 = .ok (.iaload, 1) := by decide +kernel
theorem dX12_hasCompany_44 : decode cX12_hasCompany 44 = .ok (.aload_n 0, 1) := by decide +kernel
theorem dX12_hasCompany_45 : decode cX12_hasCompany 45 = .ok (.getfield 9, 3) := by decide +kernel
theorem dX12_hasCompany_48 : decode cX12_hasCompany 48 = .ok (.iconst 2, 1) := by decide +kernel
theorem dX12_hasCompany_49 : decode cX12_hasCompany 49 = .ok (.iload_n 1, 1) := by decide +kernel
theorem dX12_hasCompany_50 : decode cX12_hasCompany 50 = .ok (.iadd, 1) := by decide +kernel
theorem dX12_hasCompany_51 : decode cX12_hasCompany 51 = .ok (.iaload, 1) := by decide +kernel
theorem dX12_hasCompany_52 : decode cX12_hasCompany 52 = .ok (.if_icmp .ne 7, 3) := by decide +kernel
theorem dX12_hasCompany_55 : decode cX12_hasCompany 55 = .ok (.iconst 1, 1) := by decide +kernel
theorem dX12_hasCompany_56 : decode cX12_hasCompany 56 = .ok (.goto 4, 3) := by decide +kernel
theorem dX12_hasCompany_59 : decode cX12_hasCompany 59 = .ok (.iconst 0, 1) := by decide +kernel
theorem dX12_hasCompany_60 : decode cX12_hasCompany 60 = .ok (.istore_n 2, 1) := by decide +kernel
theorem dX12_hasCompany_61 : decode cX12_hasCompany 61 = .ok (.iinc 3 1, 3) := by decide +kernel
theorem dX12_hasCompany_64 : decode cX12_hasCompany 64 = .ok (.goto (-60), 3) := by decide +kernel
theorem dX12_hasCompany_67 : decode cX12_hasCompany 67 = .ok (.iload_n 2, 1) := by decide +kernel
theorem dX12_hasCompany_68 : decode cX12_hasCompany 68 = .ok (.ireturn, 1) := by decide +kernel
def zb_X12_hasCompany_60 (r4 : zj_K) (E : zj_E) (st : List Value) (m : zj_M) : zj_R := (zi_ist 2 (zi_inc 3 1 r4)) E st m
set_option maxRecDepth 20000 in
theorem zs_X12_hasCompany_60 {r4 : zj_K} (h4 : zj_KC cX12_hasCompany RX12 4 (0) (some .boolean) (0, fun _ => 0) 4 r4) : zj_KC cX12_hasCompany RX12 4 (0) (some .boolean) (0, fun _ => 0) 60 (zb_X12_hasCompany_60 r4) := (zr_istn dX12_hasCompany_60 rfl (zr_inc dX12_hasCompany_61 rfl (zr_goto dX12_hasCompany_64 (tgt := 4) (by decide) h4)))
def zb_X12_hasCompany_55 (r4 : zj_K) (E : zj_E) (st : List Value) (m : zj_M) : zj_R := (zi_push (.int 1) (zb_X12_hasCompany_60 r4)) E st m
set_option maxRecDepth 20000 in
theorem zs_X12_hasCompany_55 {r4 : zj_K} (h4 : zj_KC cX12_hasCompany RX12 4 (0) (some .boolean) (0, fun _ => 0) 4 r4) : zj_KC cX12_hasCompany RX12 4 (0) (some .boolean) (0, fun _ => 0) 55 (zb_X12_hasCompany_55 r4) := (zr_iconst dX12_hasCompany_55 rfl (zr_goto dX12_hasCompany_56 (tgt := 60) (by decide) (zs_X12_hasCompany_60 h4)))
def zb_X12_hasCompany_59 (r4 : zj_K) (E : zj_E) (st : List Value) (m : zj_M) : zj_R := (zi_push (.int 0) (zb_X12_hasCompany_60 r4)) E st m
set_option maxRecDepth 20000 in
theorem zs_X12_hasCompany_59 {r4 : zj_K} (h4 : zj_KC cX12_hasCompany RX12 4 (0) (some .boolean) (0, fun _ => 0) 4 r4) : zj_KC cX12_hasCompany RX12 4 (0) (some .boolean) (0, fun _ => 0) 59 (zb_X12_hasCompany_59 r4) := (zr_iconst dX12_hasCompany_59 rfl (zs_X12_hasCompany_60 h4))
def zb_X12_hasCompany_4 (r4 : zj_K) (E : zj_E) (st : List Value) (m : zj_M) : zj_R := (zi_ild 3 (zi_ald 0 (zi_gf 12 1 (zi_push (.int 26) (zi_iald (zi_clt (zi_ild 2 (zi_eq (zi_ild 3 (zi_ild 1 (zi_ceq (zb_X12_hasCompany_59 r4) (zi_ald 0 (zi_gf 12 1 (zi_push (.int 14) (zi_ild 3 (zi_b (fun x y => x + y) (zi_iald (zi_eq (zi_ald 0 (zi_gf 12 1 (zi_push (.int 2) (zi_ild 3 (zi_b (fun x y => x + y) (zi_iald (zi_ald 0 (zi_gf 12 1 (zi_push (.int 2) (zi_ild 1 (zi_b (fun x y => x + y) (zi_iald (zi_ceq (zb_X12_hasCompany_55 r4) (zb_X12_hasCompany_59 r4)))))))))))))) (zb_X12_hasCompany_59 r4))))))))))) (zb_X12_hasCompany_55 r4))) (zi_ild 2 (zi_ret (some .boolean))))))))) E st m
set_option maxRecDepth 20000 in
theorem zs_X12_hasCompany_4 {r4 : zj_K} (h4 : zj_KC cX12_hasCompany RX12 4 (0) (some .boolean) (0, fun _ => 0) 4 r4) : zj_KC cX12_hasCompany RX12 4 (0) (some .boolean) (0, fun _ => 0) 4 (zb_X12_hasCompany_4 r4) := (zr_ildn dX12_hasCompany_4 rfl (zr_aldn dX12_hasCompany_5 rfl (zr_gf dX12_hasCompany_6 zfl_X12_9_12 (zr_bipush dX12_hasCompany_9 rfl (zr_iald dX12_hasCompany_11 (zr_icge dX12_hasCompany_12 (tgt := 67) (by decide) (zr_ildn dX12_hasCompany_67 rfl (zr_ret dX12_hasCompany_68)) (zr_ildn dX12_hasCompany_15 rfl (zr_ifne dX12_hasCompany_16 (tgt := 55) (by decide) (zs_X12_hasCompany_55 h4) (zr_ildn dX12_hasCompany_19 rfl (zr_ildn dX12_hasCompany_20 rfl (zr_iceq dX12_hasCompany_21 (tgt := 59) (by decide) (zs_X12_hasCompany_59 h4) (zr_aldn dX12_hasCompany_24 rfl (zr_gf dX12_hasCompany_25 zfl_X12_9_12 (zr_bipush dX12_hasCompany_28 rfl (zr_ildn dX12_hasCompany_30 rfl (zr_iadd dX12_hasCompany_31 (zr_iald dX12_hasCompany_32 (zr_ifne dX12_hasCompany_33 (tgt := 59) (by decide) (zs_X12_hasCompany_59 h4) (zr_aldn dX12_hasCompany_36 rfl (zr_gf dX12_hasCompany_37 zfl_X12_9_12 (zr_iconst dX12_hasCompany_40 rfl (zr_ildn dX12_hasCompany_41 rfl (zr_iadd dX12_hasCompany_42 (zr_iald dX12_hasCompany_43 (zr_aldn dX12_hasCompany_44 rfl (zr_gf dX12_hasCompany_45 zfl_X12_9_12 (zr_iconst dX12_hasCompany_48 rfl (zr_ildn dX12_hasCompany_49 rfl (zr_iadd dX12_hasCompany_50 (zr_iald dX12_hasCompany_51 (zr_icne dX12_hasCompany_52 (tgt := 59) (by decide) (zs_X12_hasCompany_59 h4) (zs_X12_hasCompany_55 h4))))))))))))))))))))))))))))))))
def zb_X12_hasCompany_0 (E : zj_E) (st : List Value) (m : zj_M) : zj_R := (zi_push (.int 0) (zi_ist 2 (zi_push (.int 0) (zi_ist 3 (zj_lp (zb_X12_hasCompany_4) zj_fu))))) E st m
set_option maxRecDepth 20000 in
theorem zs_X12_hasCompany_0 : zj_KC cX12_hasCompany RX12 4 (0) (some .boolean) (0, fun _ => 0) 0 (zb_X12_hasCompany_0) := (zr_iconst dX12_hasCompany_0 rfl (zr_istn dX12_hasCompany_1 rfl (zr_iconst dX12_hasCompany_2 rfl (zr_istn dX12_hasCompany_3 rfl (zr_lp (fun _ h => zs_X12_hasCompany_4 h) zj_fu)))))
def zf_X12_hasCompany : zj_F := zj_run 4 zb_X12_hasCompany_0
theorem zm_X12_hasCompany : zj_MS 0 yX12_hasCompany cX12_hasCompany 4 (some .boolean) zf_X12_hasCompany := zj_met (own := RX12) rfl (by decide +kernel) (Or.inr (Or.inr (Or.inl rfl))) (zs_X12_hasCompany_0)
theorem dX12_rains_0 : decode cX12_rains 0 = .ok (.aload_n 0, 1) := by decide +kernel
theorem dX12_rains_1 : decode cX12_rains 1 = .ok (.sipush 223, 3) := by decide +kernel
theorem dX12_rains_4 : decode cX12_rains 4 = .ok (.iconst 0, 1) := by decide +kernel
theorem dX12_rains_5 : decode cX12_rains 5 = .ok (.invokevirtual 134, 3) := by decide +kernel
theorem dX12_rains_8 : decode cX12_rains 8 = .ok (.istore_n 1, 1) := by decide +kernel
theorem dX12_rains_9 : decode cX12_rains 9 = .ok (.iload_n 1, 1) := by decide +kernel
theorem dX12_rains_10 : decode cX12_rains 10 = .ok (.ifCond .le 18, 3) := by decide +kernel
theorem dX12_rains_13 : decode cX12_rains 13 = .ok (.aload_n 0, 1) := by decide +kernel
theorem dX12_rains_14 : decode cX12_rains 14 = .ok (.getfield 9, 3) := by decide +kernel
theorem dX12_rains_17 : decode cX12_rains 17 = .ok (.iconst 0, 1) := by decide +kernel
theorem dX12_rains_18 : decode cX12_rains 18 = .ok (.iaload, 1) := by decide +kernel
theorem dX12_rains_19 : decode cX12_rains 19 = .ok (.iload_n 1, 1) := by decide +kernel
theorem dX12_rains_20 : decode cX12_rains 20 = .ok (.irem, 1) := by decide +kernel
theorem dX12_rains_21 : decode cX12_rains 21 = .ok (.ifCond .ne 7, 3) := by decide +kernel
theorem dX12_rains_24 : decode cX12_rains 24 = .ok (.iconst 1, 1) := by decide +kernel
theorem dX12_rains_25 : decode cX12_rains 25 = .ok (.goto 4, 3) := by decide +kernel
theorem dX12_rains_28 : decode cX12_rains 28 = .ok (.iconst 0, 1) := by decide +kernel
theorem dX12_rains_29 : decode cX12_rains 29 = .ok (.ireturn, 1) := by decide +kernel
def zb_X12_rains_29 (E : zj_E) (st : List Value) (m : zj_M) : zj_R := (zi_ret (some .boolean)) E st m
set_option maxRecDepth 20000 in
theorem zs_X12_rains_29 : zj_KC cX12_rains RX12 2 (1) (some .boolean) (0, fun _ => 0) 29 (zb_X12_rains_29) := (zr_ret dX12_rains_29)
def zb_X12_rains_28 (E : zj_E) (st : List Value) (m : zj_M) : zj_R := (zi_push (.int 0) zb_X12_rains_29) E st m
set_option maxRecDepth 20000 in
theorem zs_X12_rains_28 : zj_KC cX12_rains RX12 2 (1) (some .boolean) (0, fun _ => 0) 28 (zb_X12_rains_28) := (zr_iconst dX12_rains_28 rfl (zs_X12_rains_29))
def zb_X12_rains_0 (E : zj_E) (st : List Value) (m : zj_M) : zj_R := (zi_ald 0 (zi_push (.int 223) (zi_push (.int 0) (zi_vc 12 2 zf_X12_tellsOf (zi_ist 1 (zi_ild 1 (zi_le zb_X12_rains_28 (zi_ald 0 (zi_gf 12 1 (zi_push (.int 0) (zi_iald (zi_ild 1 (zi_bd (fun x y => x - x / y * y) (zi_eq (zi_push (.int 1) zb_X12_rains_29) zb_X12_rains_28)))))))))) zi_no)))) E st m
set_option maxRecDepth 20000 in
theorem zs_X12_rains_0 : zj_KC cX12_rains RX12 2 (1) (some .boolean) (0, fun _ => 0) 0 (zb_X12_rains_0) := (zr_aldn dX12_rains_0 rfl (zr_sipush dX12_rains_1 rfl (zr_iconst dX12_rains_4 rfl (zr_callV dX12_rains_5 zm_X12_tellsOf ⟨⟨zq_1173, zq_77⟩, by decide +kernel, by omega, by decide⟩ rfl rfl zq_1170 zq_1172 zq_40 (zr_istn dX12_rains_8 rfl (zr_ildn dX12_rains_9 rfl (zr_ifle dX12_rains_10 (tgt := 28) (by decide) (zs_X12_rains_28) (zr_aldn dX12_rains_13 rfl (zr_gf dX12_rains_14 zfl_X12_9_12 (zr_iconst dX12_rains_17 rfl (zr_iald dX12_rains_18 (zr_ildn dX12_rains_19 rfl (zr_irem dX12_rains_20 (zr_ifne dX12_rains_21 (tgt := 28) (by decide) (zs_X12_rains_28) (zr_iconst dX12_rains_24 rfl (zr_goto dX12_rains_25 (tgt := 29) (by decide) (zs_X12_rains_29))))))))))))) zr_no))))
def zf_X12_rains : zj_F := zj_run 2 zb_X12_rains_0
theorem zm_X12_rains : zj_MS 1 yX12_rains cX12_rains 2 (some .boolean) zf_X12_rains := zj_met (own := RX12) rfl (by decide +kernel) (Or.inr (Or.inr (Or.inl rfl))) (zs_X12_rains_0)
