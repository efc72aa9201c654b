theorem dX11_count_0 : decode cX11_count 0 = .ok (.iload_n 1, 1) := by decide +kernel
theorem dX11_count_1 : decode cX11_count 1 = .ok (.tableswitch 114 0 6 #[43, 54, 62, 73, 84, 95, 106], 43) := by decide +kernel
theorem dX11_count_44 : decode cX11_count 44 = .ok (.aload_n 0, 1) := by decide +kernel
theorem dX11_count_45 : decode cX11_count 45 = .ok (.getfield 61, 3) := by decide +kernel
theorem dX11_count_48 : decode cX11_count 48 = .ok (.getfield 124, 3) := by decide +kernel
theorem dX11_count_51 : decode cX11_count 51 = .ok (.getfield 134, 3) := by decide +kernel
theorem dX11_count_54 : decode cX11_count 54 = .ok (.ireturn, 1) := by decide +kernel
theorem dX11_count_55 : decode cX11_count 55 = .ok (.aload_n 0, 1) := by decide +kernel
theorem dX11_count_56 : decode cX11_count 56 = .ok (.getfield 61, 3) := by decide +kernel
theorem dX11_count_59 : decode cX11_count 59 = .ok (.getfield 93, 3) := by decide +kernel
theorem dX11_count_62 : decode cX11_count 62 = .ok (.ireturn, 1) := by decide +kernel
theorem dX11_count_63 : decode cX11_count 63 = .ok (.aload_n 0, 1) := by decide +kernel
theorem dX11_count_64 : decode cX11_count 64 = .ok (.getfield 61, 3) := by decide +kernel
theorem dX11_count_67 : decode cX11_count 67 = .ok (.getfield 228, 3) := by decide +kernel
theorem dX11_count_70 : decode cX11_count 70 = .ok (.getfield 89, 3) := by decide +kernel
theorem dX11_count_73 : decode cX11_count 73 = .ok (.ireturn, 1) := by decide +kernel
theorem dX11_count_74 : decode cX11_count 74 = .ok (.aload_n 0, 1) := by decide +kernel
theorem dX11_count_75 : decode cX11_count 75 = .ok (.getfield 61, 3) := by decide +kernel
theorem dX11_count_78 : decode cX11_count 78 = .ok (.getfield 240, 3) := by decide +kernel
theorem dX11_count_81 : decode cX11_count 81 = .ok (.getfield 89, 3) := by decide +kernel
theorem dX11_count_84 : decode cX11_count 84 = .ok (.ireturn, 1) := by decide +kernel
theorem dX11_count_85 : decode cX11_count 85 = .ok (.aload_n 0, 1) := by decide +kernel
theorem dX11_count_86 : decode cX11_count 86 = .ok (.getfield 61, 3) := by decide +kernel
theorem dX11_count_89 : decode cX11_count 89 = .ok (.getfield 249, 3) := by decide +kernel
theorem dX11_count_92 : decode cX11_count 92 = .ok (.getfield 89, 3) := by decide +kernel
theorem dX11_count_95 : decode cX11_count 95 = .ok (.ireturn, 1) := by decide +kernel
theorem dX11_count_96 : decode cX11_count 96 = .ok (.aload_n 0, 1) := by decide +kernel
theorem dX11_count_97 : decode cX11_count 97 = .ok (.getfield 61, 3) := by decide +kernel
theorem dX11_count_100 : decode cX11_count 100 = .ok (.getfield 78, 3) := by decide +kernel
theorem dX11_count_103 : decode cX11_count 103 = .ok (.getfield 89, 3) := by decide +kernel
theorem dX11_count_106 : decode cX11_count 106 = .ok (.ireturn, 1) := by decide +kernel
theorem dX11_count_107 : decode cX11_count 107 = .ok (.aload_n 0, 1) := by decide +kernel
theorem dX11_count_108 : decode cX11_count 108 = .ok (.getfield 44, 3) := by decide +kernel
theorem dX11_count_111 : decode cX11_count 111 = .ok (.getfield 89, 3) := by decide +kernel
theorem dX11_count_114 : decode cX11_count 114 = .ok (.ireturn, 1) := by decide +kernel
theorem dX11_count_115 : decode cX11_count 115 = .ok (.iconst (-1), 1) := by decide +kernel
theorem dX11_count_116 : decode cX11_count 116 = .ok (.ireturn, 1) := by decide +kernel
def zb_X11_count_44 (E : zj_E) (st : List Value) (m : zj_M) : zj_R := (zi_ald 0 (zi_gf 11 3 (zi_gf 10 1 (zi_gf 4 7 (zi_ret (some .int)))))) E st m
set_option maxRecDepth 20000 in
theorem zs_X11_count_44 : zj_KC cX11_count RX11 2 (0) (some .int) (0, fun _ => 0) 44 (zb_X11_count_44) := (zr_aldn dX11_count_44 rfl (zr_gf dX11_count_45 zfl_X11_61_11 (zr_gf dX11_count_48 zfl_X11_124_10 (zr_gf dX11_count_51 zfl_X11_134_4 (zr_ret dX11_count_54)))))
def zb_X11_count_55 (E : zj_E) (st : List Value) (m : zj_M) : zj_R := (zi_ald 0 (zi_gf 11 3 (zi_gf 10 6 (zi_ret (some .int))))) E st m
set_option maxRecDepth 20000 in
theorem zs_X11_count_55 : zj_KC cX11_count RX11 2 (0) (some .int) (0, fun _ => 0) 55 (zb_X11_count_55) := (zr_aldn dX11_count_55 rfl (zr_gf dX11_count_56 zfl_X11_61_11 (zr_gf dX11_count_59 zfl_X11_93_10 (zr_ret dX11_count_62))))
def zb_X11_count_63 (E : zj_E) (st : List Value) (m : zj_M) : zj_R := (zi_ald 0 (zi_gf 11 3 (zi_gf 10 3 (zi_gf 5 3 (zi_ret (some .int)))))) E st m
set_option maxRecDepth 20000 in
theorem zs_X11_count_63 : zj_KC cX11_count RX11 2 (0) (some .int) (0, fun _ => 0) 63 (zb_X11_count_63) := (zr_aldn dX11_count_63 rfl (zr_gf dX11_count_64 zfl_X11_61_11 (zr_gf dX11_count_67 zfl_X11_228_10 (zr_gf dX11_count_70 zfl_X11_89_5 (zr_ret dX11_count_73)))))
def zb_X11_count_74 (E : zj_E) (st : List Value) (m : zj_M) : zj_R := (zi_ald 0 (zi_gf 11 3 (zi_gf 10 4 (zi_gf 5 3 (zi_ret (some .int)))))) E st m
set_option maxRecDepth 20000 in
theorem zs_X11_count_74 : zj_KC cX11_count RX11 2 (0) (some .int) (0, fun _ => 0) 74 (zb_X11_count_74) := (zr_aldn dX11_count_74 rfl (zr_gf dX11_count_75 zfl_X11_61_11 (zr_gf dX11_count_78 zfl_X11_240_10 (zr_gf dX11_count_81 zfl_X11_89_5 (zr_ret dX11_count_84)))))
def zb_X11_count_85 (E : zj_E) (st : List Value) (m : zj_M) : zj_R := (zi_ald 0 (zi_gf 11 3 (zi_gf 10 5 (zi_gf 5 3 (zi_ret (some .int)))))) E st m
set_option maxRecDepth 20000 in
theorem zs_X11_count_85 : zj_KC cX11_count RX11 2 (0) (some .int) (0, fun _ => 0) 85 (zb_X11_count_85) := (zr_aldn dX11_count_85 rfl (zr_gf dX11_count_86 zfl_X11_61_11 (zr_gf dX11_count_89 zfl_X11_249_10 (zr_gf dX11_count_92 zfl_X11_89_5 (zr_ret dX11_count_95)))))
def zb_X11_count_96 (E : zj_E) (st : List Value) (m : zj_M) : zj_R := (zi_ald 0 (zi_gf 11 3 (zi_gf 10 2 (zi_gf 5 3 (zi_ret (some .int)))))) E st m
set_option maxRecDepth 20000 in
theorem zs_X11_count_96 : zj_KC cX11_count RX11 2 (0) (some .int) (0, fun _ => 0) 96 (zb_X11_count_96) := (zr_aldn dX11_count_96 rfl (zr_gf dX11_count_97 zfl_X11_61_11 (zr_gf dX11_count_100 zfl_X11_78_10 (zr_gf dX11_count_103 zfl_X11_89_5 (zr_ret dX11_count_106)))))
def zb_X11_count_107 (E : zj_E) (st : List Value) (m : zj_M) : zj_R := (zi_ald 0 (zi_gf 11 0 (zi_gf 5 3 (zi_ret (some .int))))) E st m
set_option maxRecDepth 20000 in
theorem zs_X11_count_107 : zj_KC cX11_count RX11 2 (0) (some .int) (0, fun _ => 0) 107 (zb_X11_count_107) := (zr_aldn dX11_count_107 rfl (zr_gf dX11_count_108 zfl_X11_44_11 (zr_gf dX11_count_111 zfl_X11_89_5 (zr_ret dX11_count_114))))
def zb_X11_count_115 (E : zj_E) (st : List Value) (m : zj_M) : zj_R := (zi_push (.int (-1)) (zi_ret (some .int))) E st m
set_option maxRecDepth 20000 in
theorem zs_X11_count_115 : zj_KC cX11_count RX11 2 (0) (some .int) (0, fun _ => 0) 115 (zb_X11_count_115) := (zr_iconst dX11_count_115 rfl (zr_ret dX11_count_116))
def zb_X11_count_0 (E : zj_E) (st : List Value) (m : zj_M) : zj_R := (zi_ild 1 (zi_tsw 0 [zb_X11_count_44, zb_X11_count_55, zb_X11_count_63, zb_X11_count_74, zb_X11_count_85, zb_X11_count_96, zb_X11_count_107] zb_X11_count_115)) E st m
set_option maxRecDepth 20000 in
theorem zs_X11_count_0 : zj_KC cX11_count RX11 2 (0) (some .int) (0, fun _ => 0) 0 (zb_X11_count_0) := (zr_ildn dX11_count_0 rfl (zr_tsw dX11_count_1 (tgt := 115) (by decide) (hkd := (zs_X11_count_115)) (tg := [44, 55, 63, 74, 85, 96, 107] ) (hn := rfl) (hoff := by decide) (hl := rfl) ⟨(zs_X11_count_44), (zs_X11_count_55), (zs_X11_count_63), (zs_X11_count_74), (zs_X11_count_85), (zs_X11_count_96), (zs_X11_count_107), trivial⟩))
def zf_X11_count : zj_F := zj_run 2 zb_X11_count_0
theorem zm_X11_count : zj_MS 0 yX11_count cX11_count 2 (some .int) zf_X11_count := zj_met (own := RX11) rfl (by decide +kernel) (Or.inr (Or.inl rfl)) (zs_X11_count_0)
theorem dX12_in_0 : decode cX12_in 0 = .ok (.iload_n 0, 1) := by decide +kernel
theorem dX12_in_1 : decode cX12_in 1 = .ok (.iload_n 1, 1) := by decide +kernel
theorem dX12_in_2 : decode cX12_in 2 = .ok (.if_icmp .lt 12, 3) := by decide +kernel
theorem dX12_in_5 : decode cX12_in 5 = .ok (.iload_n 0, 1) := by decide +kernel
theorem dX12_in_6 : decode cX12_in 6 = .ok (.iload_n 2, 1) := by decide +kernel
theorem dX12_in_7 : decode cX12_in 7 = .ok (.if_icmp .gt 7, 3) := by decide +kernel
theorem dX12_in_10 : decode cX12_in 10 = .ok (.iconst 1, 1) := by decide +kernel
theorem dX12_in_11 : decode cX12_in 11 = .ok (.goto 4, 3) := by decide +kernel
theorem dX12_in_14 : decode cX12_in 14 = .ok (.iconst 0, 1) := by decide +kernel
theorem dX12_in_15 : decode cX12_in 15 = .ok (.ireturn, 1) := by decide +kernel
def zb_X12_in_15 (E : zj_E) (st : List Value) (m : zj_M) : zj_R := (zi_ret (some .boolean)) E st m
set_option maxRecDepth 20000 in
theorem zs_X12_in_15 : zj_KC cX12_in RX12 3 (0) (some .boolean) (0, fun _ => 0) 15 (zb_X12_in_15) := (zr_ret dX12_in_15)
def zb_X12_in_14 (E : zj_E) (st : List Value) (m : zj_M) : zj_R := (zi_push (.int 0) zb_X12_in_15) E st m
set_option maxRecDepth 20000 in
theorem zs_X12_in_14 : zj_KC cX12_in RX12 3 (0) (some .boolean) (0, fun _ => 0) 14 (zb_X12_in_14) := (zr_iconst dX12_in_14 rfl (zs_X12_in_15))
def zb_X12_in_0 (E : zj_E) (st : List Value) (m : zj_M) : zj_R := (zi_ild 0 (zi_ild 1 (zi_clt zb_X12_in_14 (zi_ild 0 (zi_ild 2 (zi_cle (zi_push (.int 1) zb_X12_in_15) zb_X12_in_14)))))) E st m
set_option maxRecDepth 20000 in
theorem zs_X12_in_0 : zj_KC cX12_in RX12 3 (0) (some .boolean) (0, fun _ => 0) 0 (zb_X12_in_0) := (zr_ildn dX12_in_0 rfl (zr_ildn dX12_in_1 rfl (zr_iclt dX12_in_2 (tgt := 14) (by decide) (zs_X12_in_14) (zr_ildn dX12_in_5 rfl (zr_ildn dX12_in_6 rfl (zr_icgt dX12_in_7 (tgt := 14) (by decide) (zs_X12_in_14) (zr_iconst dX12_in_10 rfl (zr_goto dX12_in_11 (tgt := 15) (by decide) (zs_X12_in_15)))))))))
def zf_X12_in : zj_F := zj_run 3 zb_X12_in_0
theorem zm_X12_in : zj_MS 0 yX12_in cX12_in 3 (some .boolean) zf_X12_in := zj_met (own := RX12) rfl (by decide +kernel) (Or.inr (Or.inr (Or.inl rfl))) (zs_X12_in_0)
theorem dX12_isCell_0 : decode cX12_isCell 0 = .ok (.iload_n 0, 1) := by decide +kernel
theorem dX12_isCell_1 : decode cX12_isCell 1 = .ok (.iconst 0, 1) := by decide +kernel
theorem dX12_isCell_2 : decode cX12_isCell 2 = .ok (.bipush 15, 2) := by decide +kernel
theorem dX12_isCell_4 : decode cX12_isCell 4 = .ok (.invokestatic 47, 3) := by decide +kernel
theorem dX12_isCell_7 : decode cX12_isCell 7 = .ok (.ireturn, 1) := by decide +kernel
def zb_X12_isCell_0 (E : zj_E) (st : List Value) (m : zj_M) : zj_R := (zi_ild 0 (zi_push (.int 0) (zi_push (.int 15) (zi_call 3 zf_X12_in (zi_ret (some .boolean)))))) E st m
set_option maxRecDepth 20000 in
theorem zs_X12_isCell_0 : zj_KC cX12_isCell RX12 1 (1) (some .boolean) (0, fun _ => 0) 0 (zb_X12_isCell_0) := (zr_ildn dX12_isCell_0 rfl (zr_iconst dX12_isCell_1 rfl (zr_bipush dX12_isCell_2 rfl (zr_callS dX12_isCell_4 zm_X12_in ⟨⟨zq_1054, zq_77⟩, by decide +kernel, by omega, by decide⟩ zq_1052 zq_1053 (zr_ret dX12_isCell_7)))))
def zf_X12_isCell : zj_F := zj_run 1 zb_X12_isCell_0
theorem zm_X12_isCell : zj_MS 1 yX12_isCell cX12_isCell 1 (some .boolean) zf_X12_isCell := zj_met (own := RX12) rfl (by decide +kernel) (Or.inr (Or.inr (Or.inl rfl))) (zs_X12_isCell_0)
theorem dX12_isMood_0 : decode cX12_isMood 0 = .ok (.iload_n 0, 1) := by decide +kernel
theorem dX12_isMood_1 : decode cX12_isMood 1 = .ok (.iconst 0, 1) := by decide +kernel
theorem dX12_isMood_2 : decode cX12_isMood 2 = .ok (.iconst 3, 1) := by decide +kernel
theorem dX12_isMood_3 : decode cX12_isMood 3 = .ok (.invokestatic 47, 3) := by decide +kernel
theorem dX12_isMood_6 : decode cX12_isMood 6 = .ok (.ireturn, 1) := by decide +kernel
def zb_X12_isMood_0 (E : zj_E) (st : List Value) (m : zj_M) : zj_R := (zi_ild 0 (zi_push (.int 0) (zi_push (.int 3) (zi_call 3 zf_X12_in (zi_ret (some .boolean)))))) E st m
set_option maxRecDepth 20000 in
theorem zs_X12_isMood_0 : zj_KC cX12_isMood RX12 1 (1) (some .boolean) (0, fun _ => 0) 0 (zb_X12_isMood_0) := (zr_ildn dX12_isMood_0 rfl (zr_iconst dX12_isMood_1 rfl (zr_iconst dX12_isMood_2 rfl (zr_callS dX12_isMood_3 zm_X12_in ⟨⟨zq_1054, zq_77⟩, by decide +kernel, by omega, by decide⟩ zq_1052 zq_1053 (zr_ret dX12_isMood_6)))))
def zf_X12_isMood : zj_F := zj_run 1 zb_X12_isMood_0
theorem zm_X12_isMood : zj_MS 1 yX12_isMood cX12_isMood 1 (some .boolean) zf_X12_isMood := zj_met (own := RX12) rfl (by decide +kernel) (Or.inr (Or.inr (Or.inl rfl))) (zs_X12_isMood_0)
theorem dX12_isWalker_0 : decode cX12_isWalker 0 = .ok (.iload_n 1, 1) := by decide +kernel
theorem dX12_isWalker_1 : decode cX12_isWalker 1 = .ok (.iconst 0, 1) := by decide +kernel
theorem dX12_isWalker_2 : decode cX12_isWalker 2 = .ok (.aload_n 0, 1) := by decide +kernel
theorem dX12_isWalker_3 : decode cX12_isWalker 3 = .ok (.getfield 9, 3) := by decide +kernel
theorem dX12_isWalker_6 : decode cX12_isWalker 6 = .ok (.bipush 26, 2) := by decide +kernel
theorem dX12_isWalker_8 : decode cX12_isWalker 8 = .ok (.iaload, 1) := by decide +kernel
theorem dX12_isWalker_9 : decode cX12_isWalker 9 = .ok (.iconst 1, 1) := by decide +kernel
theorem dX12_isWalker_10 : decode cX12_isWalker 10 = .ok (.isub, 1) := by decide +kernel
theorem dX12_isWalker_11 : decode cX12_isWalker 11 = .ok (.invokestatic 47, 3) := by decide +kernel
theorem dX12_isWalker_14 : decode cX12_isWalker 14 = .ok (.ireturn, 1) := by decide +kernel
def zb_X12_isWalker_0 (E : zj_E) (st : List Value) (m : zj_M) : zj_R := (zi_ild 1 (zi_push (.int 0) (zi_ald 0 (zi_gf 12 1 (zi_push (.int 26) (zi_iald (zi_push (.int 1) (zi_b (fun x y => x - y) (zi_call 3 zf_X12_in (zi_ret (some .boolean))))))))))) E st m
set_option maxRecDepth 20000 in
theorem zs_X12_isWalker_0 : zj_KC cX12_isWalker RX12 2 (1) (some .boolean) (0, fun _ => 0) 0 (zb_X12_isWalker_0) := (zr_ildn dX12_isWalker_0 rfl (zr_iconst dX12_isWalker_1 rfl (zr_aldn dX12_isWalker_2 rfl (zr_gf dX12_isWalker_3 zfl_X12_9_12 (zr_bipush dX12_isWalker_6 rfl (zr_iald dX12_isWalker_8 (zr_iconst dX12_isWalker_9 rfl (zr_isub dX12_isWalker_10 (zr_callS dX12_isWalker_11 zm_X12_in ⟨⟨zq_1054, zq_77⟩, by decide +kernel, by omega, by decide⟩ zq_1052 zq_1053 (zr_ret dX12_isWalker_14))))))))))
def zf_X12_isWalker : zj_F := zj_run 2 zb_X12_isWalker_0
theorem zm_X12_isWalker : zj_MS 1 yX12_isWalker cX12_isWalker 2 (some .boolean) zf_X12_isWalker := zj_met (own := RX12) rfl (by decide +kernel) (Or.inr (Or.inr (Or.inl rfl))) (zs_X12_isWalker_0)
theorem dX12_keeps_0 : decode cX12_keeps 0 = .ok (.iconst 0, 1) := by decide +kernel
theorem dX12_keeps_1 : decode cX12_keeps 1 = .ok (.istore_n 1, 1) := by decide +kernel
theorem dX12_keeps_2 : decode cX12_keeps 2 = .ok (.iload_n 1, 1) := by decide +kernel
theorem dX12_keeps_3 : decode cX12_keeps 3 = .ok (.bipush 26, 2) := by decide +kernel
theorem dX12_keeps_5 : decode cX12_keeps 5 = .ok (.if_icmp .ge 21, 3) := by decide +kernel
theorem dX12_keeps_8 : decode cX12_keeps 8 = .ok (.aload_n 0, 1) := by decide +kernel
theorem dX12_keeps_9 : decode cX12_keeps 9 = .ok (.getfield 18, 3) := by decide +kernel
theorem dX12_keeps_12 : decode cX12_keeps 12 = .ok (.iload_n 1, 1) := by decide +kernel
theorem dX12_keeps_13 : decode cX12_keeps 13 = .ok (.aload_n 0, 1) := by decide +kernel
theorem dX12_keeps_14 : decode cX12_keeps 14 = .ok (.getfield 9, 3) := by decide +kernel
theorem dX12_keeps_17 : decode cX12_keeps 17 = .ok (.iload_n 1, 1) := by decide +kernel
theorem dX12_keeps_18 : decode cX12_keeps 18 = .ok (.iaload, 1) := by decide +kernel
theorem dX12_keeps_19 : decode cX12_keeps 19 = .ok (.iastore, 1) := by decide +kernel
theorem dX12_keeps_20 : decode cX12_keeps 20 = .ok (.iinc 1 1, 3) := by decide +kernel
theorem dX12_keeps_23 : decode cX12_keeps 23 = .ok (.goto (-21), 3) := by decide +kernel
theorem dX12_keeps_26 : decode cX12_keeps 26 = .ok (.return_, 1) := by decide +kernel
def zb_X12_keeps_2 (r2 : zj_K) (E : zj_E) (st : List Value) (m : zj_M) : zj_R := (zi_ild 1 (zi_push (.int 26) (zi_clt (zi_ald 0 (zi_gf 12 3 (zi_ild 1 (zi_ald 0 (zi_gf 12 1 (zi_ild 1 (zi_iald (zi_iast (zi_inc 1 1 r2))))))))) (zi_ret none)))) E st m
set_option maxRecDepth 20000 in
theorem zs_X12_keeps_2 {r2 : zj_K} (h2 : zj_KC cX12_keeps RX12 2 (0) none (0, fun _ => 0) 2 r2) : zj_KC cX12_keeps RX12 2 (0) none (0, fun _ => 0) 2 (zb_X12_keeps_2 r2) := (zr_ildn dX12_keeps_2 rfl (zr_bipush dX12_keeps_3 rfl (zr_icge dX12_keeps_5 (tgt := 26) (by decide) (zr_ret dX12_keeps_26) (zr_aldn dX12_keeps_8 rfl (zr_gf dX12_keeps_9 zfl_X12_18_12 (zr_ildn dX12_keeps_12 rfl (zr_aldn dX12_keeps_13 rfl (zr_gf dX12_keeps_14 zfl_X12_9_12 (zr_ildn dX12_keeps_17 rfl (zr_iald dX12_keeps_18 (zr_iast dX12_keeps_19 (zr_inc dX12_keeps_20 rfl (zr_goto dX12_keeps_23 (tgt := 2) (by decide) h2)))))))))))))
def zb_X12_keeps_0 (E : zj_E) (st : List Value) (m : zj_M) : zj_R := (zi_push (.int 0) (zi_ist 1 (zj_lp (zb_X12_keeps_2) zj_fu))) E st m
set_option maxRecDepth 20000 in
theorem zs_X12_keeps_0 : zj_KC cX12_keeps RX12 2 (0) none (0, fun _ => 0) 0 (zb_X12_keeps_0) := (zr_iconst dX12_keeps_0 rfl (zr_istn dX12_keeps_1 rfl (zr_lp (fun _ h => zs_X12_keeps_2 h) zj_fu)))
def zf_X12_keeps : zj_F := zj_run 2 zb_X12_keeps_0
theorem zm_X12_keeps : zj_MS 0 yX12_keeps cX12_keeps 2 none zf_X12_keeps := zj_met (own := RX12) rfl (by decide +kernel) (Or.inl rfl) (zs_X12_keeps_0)
theorem dX12_goesBack_0 : decode cX12_goesBack 0 = .ok (.iconst 0, 1) := by decide +kernel
theorem dX12_goesBack_1 : decode cX12_goesBack 1 = .ok (.istore_n 1, 1) := by decide +kernel
theorem dX12_goesBack_2 : decode cX12_goesBack 2 = .ok (.iload_n 1, 1) := by decide +kernel
theorem dX12_goesBack_3 : decode cX12_goesBack 3 = .ok (.bipush 26, 2) := by decide +kernel
theorem dX12_goesBack_5 : decode cX12_goesBack 5 = .ok (.if_icmp .ge 21, 3) := by decide +kernel
theorem dX12_goesBack_8 : decode cX12_goesBack 8 = .ok (.aload_n 0, 1) := by decide +kernel
theorem dX12_goesBack_9 : decode cX12_goesBack 9 = .ok (.getfield 9, 3) := by decide +kernel
theorem dX12_goesBack_12 : decode cX12_goesBack 12 = .ok (.iload_n 1, 1) := by decide +kernel
theorem dX12_goesBack_13 : decode cX12_goesBack 13 = .ok (.aload_n 0, 1) := by decide +kernel
theorem dX12_goesBack_14 : decode cX12_goesBack 14 = .ok (.getfield 18, 3) := by decide +kernel
theorem dX12_goesBack_17 : decode cX12_goesBack 17 = .ok (.iload_n 1, 1) := by decide +kernel
theorem dX12_goesBack_18 : decode cX12_goesBack 18 = .ok (.iaload, 1) := by decide +kernel
theorem dX12_goesBack_19 : decode cX12_goesBack 19 = .ok (.iastore, 1) := by decide +kernel
theorem dX12_goesBack_20 : decode cX12_goesBack 20 = .ok (.iinc 1 1, 3) := by decide +kernel
theorem dX12_goesBack_23 : decode cX12_goesBack 23 = .ok (.goto (-21), 3) := by decide +kernel
theorem dX12_goesBack_26 : decode cX12_goesBack 26 = .ok (.return_, 1) := by decide +kernel
def zb_X12_goesBack_2 (r2 : zj_K) (E : zj_E) (st : List Value) (m : zj_M) : zj_R := (zi_ild 1 (zi_push (.int 26) (zi_clt (zi_ald 0 (zi_gf 12 1 (zi_ild 1 (zi_ald 0 (zi_gf 12 3 (zi_ild 1 (zi_iald (zi_iast (zi_inc 1 1 r2))))))))) (zi_ret none)))) E st m
set_option maxRecDepth 20000 in
theorem zs_X12_goesBack_2 {r2 : zj_K} (h2 : zj_KC cX12_goesBack RX12 2 (0) none (0, fun _ => 0) 2 r2) : zj_KC cX12_goesBack RX12 2 (0) none (0, fun _ => 0) 2 (zb_X12_goesBack_2 r2) := (zr_ildn dX12_goesBack_2 rfl (zr_bipush dX12_goesBack_3 rfl (zr_icge dX12_goesBack_5 (tgt := 26) (by decide) (zr_ret dX12_goesBack_26) (zr_aldn dX12_goesBack_8 rfl (zr_gf dX12_goesBack_9 zfl_X12_9_12 (zr_ildn dX12_goesBack_12 rfl (zr_aldn dX12_goesBack_13 rfl (zr_gf dX12_goesBack_14 zfl_X12_18_12 (zr_ildn dX12_goesBack_17 rfl (zr_iald dX12_goesBack_18 (zr_iast dX12_goesBack_19 (zr_inc dX12_goesBack_20 rfl (zr_goto dX12_goesBack_23 (tgt := 2) (by decide) h2)))))))))))))
def zb_X12_goesBack_0 (E : zj_E) (st : List Value) (m : zj_M) : zj_R := (zi_push (.int 0) (zi_ist 1 (zj_lp (zb_X12_goesBack_2) zj_fu))) E st m
set_option maxRecDepth 20000 in
theorem zs_X12_goesBack_0 : zj_KC cX12_goesBack RX12 2 (0) none (0, fun _ => 0) 0 (zb_X12_goesBack_0) := (zr_iconst dX12_goesBack_0 rfl (zr_istn dX12_goesBack_1 rfl (zr_lp (fun _ h => zs_X12_goesBack_2 h) zj_fu)))
def zf_X12_goesBack : zj_F := zj_run 2 zb_X12_goesBack_0
theorem zm_X12_goesBack : zj_MS 0 yX12_goesBack cX12_goesBack 2 none zf_X12_goesBack := zj_met (own := RX12) rfl (by decide +kernel) (Or.inl rfl) (zs_X12_goesBack_0)
theorem dX12_feed_0 : decode cX12_feed 0 = .ok (.iload_n 1, 1) := by decide +kernel
theorem dX12_feed_1 : decode cX12_feed 1 = .ok (.iconst 0, 1) := by decide +kernel
theorem dX12_feed_2 : decode cX12_feed 2 = .ok (.bipush 127, 2) := by decide +kernel
theorem dX12_feed_4 : decode cX12_feed 4 = .ok (.invokestatic 47, 3) := by decide +kernel
theorem dX12_feed_7 : decode cX12_feed 7 = .ok (.ifCond .ne 6, 3) := by decide +kernel
theorem dX12_feed_10 : decode cX12_feed 10 = .ok (.bipush (-2), 2) := by decide +kernel
theorem dX12_feed_12 : decode cX12_feed 12 = .ok (.ireturn, 1) := by decide +kernel
theorem dX12_feed_13 : decode cX12_feed 13 = .ok (.aload_n 0, 1) := by decide +kernel
theorem dX12_feed_14 : decode cX12_feed 14 = .ok (.getfield 9, 3) := by decide +kernel
theorem dX12_feed_17 : decode cX12_feed 17 = .ok (.bipush 31, 2) := by decide +kernel
theorem dX12_feed_19 : decode cX12_feed 19 = .ok (.iaload, 1) := by decide +kernel
theorem dX12_feed_20 : decode cX12_feed 20 = .ok (.bipush 100, 2) := by decide +kernel
theorem dX12_feed_22 : decode cX12_feed 22 = .ok (.if_icmp .ne 6, 3) := by decide +kernel
theorem dX12_feed_25 : decode cX12_feed 25 = .ok (.bipush (-4), 2) := by decide +kernel
theorem dX12_feed_27 : decode cX12_feed 27 = .ok (.ireturn, 1) := by decide +kernel
theorem dX12_feed_28 : decode cX12_feed 28 = .ok (.aload_n 0, 1) := by decide +kernel
theorem dX12_feed_29 : decode cX12_feed 29 = .ok (.getfield 9, 3) := by decide +kernel
theorem dX12_feed_32 : decode cX12_feed 32 = .ok (.bipush 123, 2) := by decide +kernel
theorem dX12_feed_34 : decode cX12_feed 34 = .ok (.aload_n 0, 1) := by decide +kernel
theorem dX12_feed_35 : decode cX12_feed 35 = .ok (.getfield 9, 3) := by decide +kernel
theorem dX12_feed_38 : decode cX12_feed 38 = .ok (.bipush 31, 2) := by decide +kernel
theorem dX12_feed_40 : decode cX12_feed 40 = .ok (.iaload, 1) := by decide +kernel
theorem dX12_feed_41 : decode cX12_feed 41 = .ok (.iadd, 1) := by decide +kernel
theorem dX12_feed_42 : decode cX12_feed 42 = .ok (.iload_n 1, 1) := by decide +kernel
theorem dX12_feed_43 : decode cX12_feed 43 = .ok (.iastore, 1) := by decide +kernel
theorem dX12_feed_44 : decode cX12_feed 44 = .ok (.aload_n 0, 1) := by decide +kernel
theorem dX12_feed_45 : decode cX12_feed 45 = .ok (.getfield 9, 3) := by decide +kernel
theorem dX12_feed_48 : decode cX12_feed 48 = .ok (.bipush 31, 2) := by decide +kernel
theorem dX12_feed_50 : decode cX12_feed 50 = .ok (.dup2, 1) := by decide +kernel
theorem dX12_feed_51 : decode cX12_feed 51 = .ok (.iaload, 1) := by decide +kernel
theorem dX12_feed_52 : decode cX12_feed 52 = .ok (.iconst 1, 1) := by decide +kernel
theorem dX12_feed_53 : decode cX12_feed 53 = .ok (.iadd, 1) := by decide +kernel
theorem dX12_feed_54 : decode cX12_feed 54 = .ok (.iastore, 1) := by decide +kernel
theorem dX12_feed_55 : decode cX12_feed 55 = .ok (.aload_n 0, 1) := by decide +kernel
theorem dX12_feed_56 : decode cX12_feed 56 = .ok (.getfield 9, 3) := by decide +kernel
theorem dX12_feed_59 : decode cX12_feed 59 = .ok (.bipush 31, 2) := by decide +kernel
theorem dX12_feed_61 : decode cX12_feed 61 = .ok (.iaload, 1) := by decide +kernel
theorem dX12_feed_62 : decode cX12_feed 62 = .ok (.ireturn, 1) := by decide +kernel
def zb_X12_feed_0 (E : zj_E) (st : List Value) (m : zj_M) : zj_R := (zi_ild 1 (zi_push (.int 0) (zi_push (.int 127) (zi_call 3 zf_X12_in (zi_eq (zi_push (.int (-2)) (zi_ret (some .int))) (zi_ald 0 (zi_gf 12 1 (zi_push (.int 31) (zi_iald (zi_push (.int 100) (zi_ceq (zi_push (.int (-4)) (zi_ret (some .int))) (zi_ald 0 (zi_gf 12 1 (zi_push (.int 123) (zi_ald 0 (zi_gf 12 1 (zi_push (.int 31) (zi_iald (zi_b (fun x y => x + y) (zi_ild 1 (zi_iast (zi_ald 0 (zi_gf 12 1 (zi_push (.int 31) (zi_dup2 (zi_iald (zi_push (.int 1) (zi_b (fun x y => x + y) (zi_iast (zi_ald 0 (zi_gf 12 1 (zi_push (.int 31) (zi_iald (zi_ret (some .int))))))))))))))))))))))))))))))))))) E st m
set_option maxRecDepth 20000 in
theorem zs_X12_feed_0 : zj_KC cX12_feed RX12 2 (1) (some .int) (0, fun _ => 0) 0 (zb_X12_feed_0) := (zr_ildn dX12_feed_0 rfl (zr_iconst dX12_feed_1 rfl (zr_bipush dX12_feed_2 rfl (zr_callS dX12_feed_4 zm_X12_in ⟨⟨zq_1054, zq_77⟩, by decide +kernel, by omega, by decide⟩ zq_1052 zq_1053 (zr_ifne dX12_feed_7 (tgt := 13) (by decide) (zr_aldn dX12_feed_13 rfl (zr_gf dX12_feed_14 zfl_X12_9_12 (zr_bipush dX12_feed_17 rfl (zr_iald dX12_feed_19 (zr_bipush dX12_feed_20 rfl (zr_icne dX12_feed_22 (tgt := 28) (by decide) (zr_aldn dX12_feed_28 rfl (zr_gf dX12_feed_29 zfl_X12_9_12 (zr_bipush dX12_feed_32 rfl (zr_aldn dX12_feed_34 rfl (zr_gf dX12_feed_35 zfl_X12_9_12 (zr_bipush dX12_feed_38 rfl (zr_iald dX12_feed_40 (zr_iadd dX12_feed_41 (zr_ildn dX12_feed_42 rfl (zr_iast dX12_feed_43 (zr_aldn dX12_feed_44 rfl (zr_gf dX12_feed_45 zfl_X12_9_12 (zr_bipush dX12_feed_48 rfl (zr_dup2 dX12_feed_50 (zr_iald dX12_feed_51 (zr_iconst dX12_feed_52 rfl (zr_iadd dX12_feed_53 (zr_iast dX12_feed_54 (zr_aldn dX12_feed_55 rfl (zr_gf dX12_feed_56 zfl_X12_9_12 (zr_bipush dX12_feed_59 rfl (zr_iald dX12_feed_61 (zr_ret dX12_feed_62))))))))))))))))))))))) (zr_bipush dX12_feed_25 rfl (zr_ret dX12_feed_27)))))))) (zr_bipush dX12_feed_10 rfl (zr_ret dX12_feed_12)))))))
def zf_X12_feed : zj_F := zj_run 2 zb_X12_feed_0
theorem zm_X12_feed : zj_MS 1 yX12_feed cX12_feed 2 (some .int) zf_X12_feed := zj_met (own := RX12) rfl (by decide +kernel) (Or.inr (Or.inl rfl)) (zs_X12_feed_0)
theorem dX12_here_0 : decode cX12_here 0 = .ok (.aload_n 0, 1) := by decide +kernel
theorem dX12_here_1 : decode cX12_here 1 = .ok (.getfield 51, 3) := by decide +kernel
theorem dX12_here_4 : decode cX12_here 4 = .ok (.aload_n 0, 1) := by decide +kernel
theorem dX12_here_5 : decode cX12_here 5 = .ok (.getfield 54, 3) := by decide +kernel
theorem dX12_here_8 : decode cX12_here 8 = .ok (.if_icmp .ge 18, 3) := by decide +kernel
theorem dX12_here_11 : decode cX12_here 11 = .ok (.aload_n 0, 1) := by decide +kernel
theorem dX12_here_12 : decode cX12_here 12 = .ok (.getfield 9, 3) := by decide +kernel
theorem dX12_here_15 : decode cX12_here 15 = .ok (.bipush 123, 2) := by decide +kernel
theorem dX12_here_17 : decode cX12_here 17 = .ok (.aload_n 0, 1) := by decide +kernel
theorem dX12_here_18 : decode cX12_here 18 = .ok (.getfield 51, 3) := by decide +kernel
theorem dX12_here_21 : decode cX12_here 21 = .ok (.iadd, 1) := by decide +kernel
theorem dX12_here_22 : decode cX12_here 22 = .ok (.iaload, 1) := by decide +kernel
theorem dX12_here_23 : decode cX12_here 23 = .ok (.goto 4, 3) := by decide +kernel
theorem dX12_here_26 : decode cX12_here 26 = .ok (.iconst (-1), 1) := by decide +kernel
theorem dX12_here_27 : decode cX12_here 27 = .ok (.ireturn, 1) := by decide +kernel
def zb_X12_here_27 (E : zj_E) (st : List Value) (m : zj_M) : zj_R := (zi_ret (some .int)) E st m
set_option maxRecDepth 20000 in
theorem zs_X12_here_27 : zj_KC cX12_here RX12 1 (0) (some .int) (0, fun _ => 0) 27 (zb_X12_here_27) := (zr_ret dX12_here_27)
def zb_X12_here_0 (E : zj_E) (st : List Value) (m : zj_M) : zj_R := (zi_ald 0 (zi_gf 12 6 (zi_ald 0 (zi_gf 12 7 (zi_clt (zi_ald 0 (zi_gf 12 1 (zi_push (.int 123) (zi_ald 0 (zi_gf 12 6 (zi_b (fun x y => x + y) (zi_iald zb_X12_here_27))))))) (zi_push (.int (-1)) zb_X12_here_27)))))) E st m
set_option maxRecDepth 20000 in
theorem zs_X12_here_0 : zj_KC cX12_here RX12 1 (0) (some .int) (0, fun _ => 0) 0 (zb_X12_here_0) := (zr_aldn dX12_here_0 rfl (zr_gf dX12_here_1 zfl_X12_51_12 (zr_aldn dX12_here_4 rfl (zr_gf dX12_here_5 zfl_X12_54_12 (zr_icge dX12_here_8 (tgt := 26) (by decide) (zr_iconst dX12_here_26 rfl (zs_X12_here_27)) (zr_aldn dX12_here_11 rfl (zr_gf dX12_here_12 zfl_X12_9_12 (zr_bipush dX12_here_15 rfl (zr_aldn dX12_here_17 rfl (zr_gf dX12_here_18 zfl_X12_51_12 (zr_iadd dX12_here_21 (zr_iald dX12_here_22 (zr_goto dX12_here_23 (tgt := 27) (by decide) (zs_X12_here_27))))))))))))))
def zf_X12_here : zj_F := zj_run 1 zb_X12_here_0
theorem zm_X12_here : zj_MS 0 yX12_here cX12_here 1 (some .int) zf_X12_here := zj_met (own := RX12) rfl (by decide +kernel) (Or.inr (Or.inl rfl)) (zs_X12_here_0)
theorem dX12_must_0 : decode cX12_must 0 = .ok (.aload_n 0, 1) := by decide +kernel
theorem dX12_must_1 : decode cX12_must 1 = .ok (.aload_n 0, 1) := by decide +kernel
theorem dX12_must_2 : decode cX12_must 2 = .ok (.getfield 57, 3) := by decide +kernel
theorem dX12_must_5 : decode cX12_must 5 = .ok (.ifCond .ne 11, 3) := by decide +kernel
theorem dX12_must_8 : decode cX12_must 8 = .ok (.aload_n 0, 1) := by decide +kernel
theorem dX12_must_9 : decode cX12_must 9 = .ok (.invokevirtual 61, 3) := by decide +kernel
theorem dX12_must_12 : decode cX12_must 12 = .ok (.iload_n 1, 1) := by decide +kernel
theorem dX12_must_13 : decode cX12_must 13 = .ok (.if_icmp .eq 7, 3) := by decide +kernel
theorem dX12_must_16 : decode cX12_must 16 = .ok (.iconst 1, 1) := by decide +kernel
theorem dX12_must_17 : decode cX12_must 17 = .ok (.goto 4, 3) := by decide +kernel
theorem dX12_must_20 : decode cX12_must 20 = .ok (.iconst 0, 1) := by decide +kernel
theorem dX12_must_21 : decode cX12_must 21 = .ok (.putfield 57, 3) := by decide +kernel
theorem dX12_must_24 : decode cX12_must 24 = .ok (.aload_n 0, 1) := by decide +kernel
theorem dX12_must_25 : decode cX12_must 25 = .ok (.dup, 1) := by decide +kernel
theorem dX12_must_26 : decode cX12_must 26 = .ok (.getfield 51, 3) := by decide +kernel
theorem dX12_must_29 : decode cX12_must 29 = .ok (.aload_n 0, 1) := by decide +kernel
theorem dX12_must_30 : decode cX12_must 30 = .ok (.getfield 57, 3) := by decide +kernel
theorem dX12_must_33 : decode cX12_must 33 = .ok (.ifCond .eq 7, 3) := by decide +kernel
theorem dX12_must_36 : decode cX12_must 36 = .ok (.iconst 0, 1) := by decide +kernel
theorem dX12_must_37 : decode cX12_must 37 = .ok (.goto 4, 3) := by decide +kernel
theorem dX12_must_40 : decode cX12_must 40 = .ok (.iconst 1, 1) := by decide +kernel
theorem dX12_must_41 : decode cX12_must 41 = .ok (.iadd, 1) := by decide +kernel
theorem dX12_must_42 : decode cX12_must 42 = .ok (.putfield 51, 3) := by decide +kernel
theorem dX12_must_45 : decode cX12_must 45 = .ok (.return_, 1) := by decide +kernel
def zb_X12_must_41 (E : zj_E) (st : List Value) (m : zj_M) : zj_R := (zi_b (fun x y => x + y) (zi_pf 12 6 (zi_ret none))) E st m
set_option maxRecDepth 20000 in
theorem zs_X12_must_41 : zj_KC cX12_must RX12 2 (1) none (0, fun _ => 0) 41 (zb_X12_must_41) := (zr_iadd dX12_must_41 (zr_pf dX12_must_42 zfl_X12_51_12w (zr_ret dX12_must_45)))
def zb_X12_must_21 (E : zj_E) (st : List Value) (m : zj_M) : zj_R := (zi_pz 12 8 (zi_ald 0 (zi_dup (zi_gf 12 6 (zi_ald 0 (zi_gf 12 8 (zi_eq (zi_push (.int 1) zb_X12_must_41) (zi_push (.int 0) zb_X12_must_41)))))))) E st m
set_option maxRecDepth 20000 in
theorem zs_X12_must_21 : zj_KC cX12_must RX12 2 (1) none (0, fun _ => 0) 21 (zb_X12_must_21) := (zr_pz dX12_must_21 zfl_X12_57_12w (zr_aldn dX12_must_24 rfl (zr_dup dX12_must_25 (zr_gf dX12_must_26 zfl_X12_51_12 (zr_aldn dX12_must_29 rfl (zr_gf dX12_must_30 zfl_X12_57_12 (zr_ifeq dX12_must_33 (tgt := 40) (by decide) (zr_iconst dX12_must_40 rfl (zs_X12_must_41)) (zr_iconst dX12_must_36 rfl (zr_goto dX12_must_37 (tgt := 41) (by decide) (zs_X12_must_41))))))))))
def zb_X12_must_16 (E : zj_E) (st : List Value) (m : zj_M) : zj_R := (zi_push (.int 1) zb_X12_must_21) E st m
set_option maxRecDepth 20000 in
theorem zs_X12_must_16 : zj_KC cX12_must RX12 2 (1) none (0, fun _ => 0) 16 (zb_X12_must_16) := (zr_iconst dX12_must_16 rfl (zr_goto dX12_must_17 (tgt := 21) (by decide) (zs_X12_must_21)))
def zb_X12_must_0 (E : zj_E) (st : List Value) (m : zj_M) : zj_R := (zi_ald 0 (zi_ald 0 (zi_gf 12 8 (zi_eq (zi_ald 0 (zi_vc 12 0 zf_X12_here (zi_ild 1 (zi_ceq (zi_push (.int 0) zb_X12_must_21) zb_X12_must_16)) zi_no)) zb_X12_must_16)))) E st m
set_option maxRecDepth 20000 in
theorem zs_X12_must_0 : zj_KC cX12_must RX12 2 (1) none (0, fun _ => 0) 0 (zb_X12_must_0) := (zr_aldn dX12_must_0 rfl (zr_aldn dX12_must_1 rfl (zr_gf dX12_must_2 zfl_X12_57_12 (zr_ifne dX12_must_5 (tgt := 16) (by decide) (zs_X12_must_16) (zr_aldn dX12_must_8 rfl (zr_callV dX12_must_9 zm_X12_here ⟨⟨zq_1066, zq_77⟩, by decide +kernel, by omega, by decide⟩ rfl rfl zq_1063 zq_1065 zq_21 (zr_ildn dX12_must_12 rfl (zr_iceq dX12_must_13 (tgt := 20) (by decide) (zr_iconst dX12_must_20 rfl (zs_X12_must_21)) (zs_X12_must_16))) zr_no))))))
def zf_X12_must : zj_F := zj_run 2 zb_X12_must_0
theorem zm_X12_must : zj_MS 1 yX12_must cX12_must 2 none zf_X12_must := zj_met (own := RX12) rfl (by decide +kernel) (Or.inl rfl) (zs_X12_must_0)
theorem dX12_spells_0 : decode cX12_spells 0 = .ok (.iconst 0, 1) := by decide +kernel
theorem dX12_spells_1 : decode cX12_spells 1 = .ok (.istore_n 2, 1) := by decide +kernel
theorem dX12_spells_2 : decode cX12_spells 2 = .ok (.iload_n 2, 1) := by decide +kernel
theorem dX12_spells_3 : decode cX12_spells 3 = .ok (.aload_n 1, 1) := by decide +kernel
theorem dX12_spells_4 : decode cX12_spells 4 = .ok (.invokevirtual 65, 3) := by decide +kernel
theorem dX12_spells_7 : decode cX12_spells 7 = .ok (.if_icmp .ge 18, 3) := by decide +kernel
theorem dX12_spells_10 : decode cX12_spells 10 = .ok (.aload_n 0, 1) := by decide +kernel
theorem dX12_spells_11 : decode cX12_spells 11 = .ok (.aload_n 1, 1) := by decide +kernel
theorem dX12_spells_12 : decode cX12_spells 12 = .ok (.iload_n 2, 1) := by decide +kernel
theorem dX12_spells_13 : decode cX12_spells 13 = .ok (.invokevirtual 70, 3) := by decide +kernel
theorem dX12_spells_16 : decode cX12_spells 16 = .ok (.invokevirtual 74, 3) := by decide +kernel
theorem dX12_spells_19 : decode cX12_spells 19 = .ok (.iinc 2 1, 3) := by decide +kernel
theorem dX12_spells_22 : decode cX12_spells 22 = .ok (.goto (-20), 3) := by decide +kernel
theorem dX12_spells_25 : decode cX12_spells 25 = .ok (.return_, 1) := by decide +kernel
def zb_X12_spells_2 (r2 : zj_K) (E : zj_E) (st : List Value) (m : zj_M) : zj_R := (zi_ild 2 (zi_ald 1 (zi_sc 0 zf_J0_length_8abf5 (zi_clt (zi_ald 0 (zi_ald 1 (zi_ild 2 (zi_sc 1 zf_J0_charAt_5068e (zi_vc 12 1 zf_X12_must (zi_inc 2 1 r2) zi_no))))) (zi_ret none))))) E st m
set_option maxRecDepth 20000 in
theorem zs_X12_spells_2 {r2 : zj_K} (h2 : zj_KC cX12_spells RX12 3 (13) none (0, fun _ => 0) 2 r2) : zj_KC cX12_spells RX12 3 (13) none (0, fun _ => 0) 2 (zb_X12_spells_2 r2) := (zr_ildn dX12_spells_2 rfl (zr_aldn dX12_spells_3 rfl (zr_sc dX12_spells_4 zm_J0_length_8abf5 ⟨⟨zq_402, zq_78⟩, by decide +kernel, by omega, by decide⟩ rfl zq_1076 zq_400 zq_401 (zr_icge dX12_spells_7 (tgt := 25) (by decide) (zr_ret dX12_spells_25) (zr_aldn dX12_spells_10 rfl (zr_aldn dX12_spells_11 rfl (zr_ildn dX12_spells_12 rfl (zr_sc dX12_spells_13 zm_J0_charAt_5068e ⟨⟨zq_412, zq_78⟩, by decide +kernel, by omega, by decide⟩ rfl zq_1077 zq_410 zq_411 (zr_callV dX12_spells_16 zm_X12_must ⟨⟨zq_1081, zq_77⟩, by decide +kernel, by omega, by decide⟩ rfl rfl zq_1078 zq_1080 zq_24 (zr_inc dX12_spells_19 rfl (zr_goto dX12_spells_22 (tgt := 2) (by decide) h2)) zr_no)))))))))
def zb_X12_spells_0 (E : zj_E) (st : List Value) (m : zj_M) : zj_R := (zi_push (.int 0) (zi_ist 2 (zj_lp (zb_X12_spells_2) zj_fu))) E st m
set_option maxRecDepth 20000 in
theorem zs_X12_spells_0 : zj_KC cX12_spells RX12 3 (13) none (0, fun _ => 0) 0 (zb_X12_spells_0) := (zr_iconst dX12_spells_0 rfl (zr_istn dX12_spells_1 rfl (zr_lp (fun _ h => zs_X12_spells_2 h) zj_fu)))
def zf_X12_spells : zj_F := zj_run 3 zb_X12_spells_0
theorem zm_X12_spells : zj_MS 13 yX12_spells cX12_spells 3 none zf_X12_spells := zj_met (own := RX12) rfl (by decide +kernel) (Or.inl rfl) (zs_X12_spells_0)
theorem dX12_figures_0 : decode cX12_figures 0 = .ok (.aload_n 0, 1) := by decide +kernel
theorem dX12_figures_1 : decode cX12_figures 1 = .ok (.aload_n 0, 1) := by decide +kernel
theorem dX12_figures_2 : decode cX12_figures 2 = .ok (.getfield 57, 3) := by decide +kernel
theorem dX12_figures_5 : decode cX12_figures 5 = .ok (.ifCond .ne 17, 3) := by decide +kernel
theorem dX12_figures_8 : decode cX12_figures 8 = .ok (.aload_n 0, 1) := by decide +kernel
theorem dX12_figures_9 : decode cX12_figures 9 = .ok (.invokevirtual 61, 3) := by decide +kernel
theorem dX12_figures_12 : decode cX12_figures 12 = .ok (.bipush 48, 2) := by decide +kernel
theorem dX12_figures_14 : decode cX12_figures 14 = .ok (.bipush 57, 2) := by decide +kernel
theorem dX12_figures_16 : decode cX12_figures 16 = .ok (.invokestatic 47, 3) := by decide +kernel
theorem dX12_figures_19 : decode cX12_figures 19 = .ok (.ifCond .ne 7, 3) := by decide +kernel
theorem dX12_figures_22 : decode cX12_figures 22 = .ok (.iconst 1, 1) := by decide +kernel
theorem dX12_figures_23 : decode cX12_figures 23 = .ok (.goto 4, 3) := by decide +kernel
theorem dX12_figures_26 : decode cX12_figures 26 = .ok (.iconst 0, 1) := by decide +kernel
theorem dX12_figures_27 : decode cX12_figures 27 = .ok (.putfield 57, 3) := by decide +kernel
theorem dX12_figures_30 : decode cX12_figures 30 = .ok (.iconst 0, 1) := by decide +kernel
theorem dX12_figures_31 : decode cX12_figures 31 = .ok (.istore_n 1, 1) := by decide +kernel
theorem dX12_figures_32 : decode cX12_figures 32 = .ok (.iconst 0, 1) := by decide +kernel
theorem dX12_figures_33 : decode cX12_figures 33 = .ok (.istore_n 2, 1) := by decide +kernel
theorem dX12_figures_34 : decode cX12_figures 34 = .ok (.iload_n 2, 1) := by decide +kernel
theorem dX12_figures_35 : decode cX12_figures 35 = .ok (.iconst 2, 1) := by decide +kernel
theorem dX12_figures_36 : decode cX12_figures 36 = .ok (.if_icmp .ge 61, 3) := by decide +kernel
theorem dX12_figures_39 : decode cX12_figures 39 = .ok (.aload_n 0, 1) := by decide +kernel
theorem dX12_figures_40 : decode cX12_figures 40 = .ok (.getfield 57, 3) := by decide +kernel
theorem dX12_figures_43 : decode cX12_figures 43 = .ok (.ifCond .ne 54, 3) := by decide +kernel
theorem dX12_figures_46 : decode cX12_figures 46 = .ok (.aload_n 0, 1) := by decide +kernel
theorem dX12_figures_47 : decode cX12_figures 47 = .ok (.invokevirtual 61, 3) := by decide +kernel
theorem dX12_figures_50 : decode cX12_figures 50 = .ok (.bipush 48, 2) := by decide +kernel
theorem dX12_figures_52 : decode cX12_figures 52 = .ok (.bipush 57, 2) := by decide +kernel
theorem dX12_figures_54 : decode cX12_figures 54 = .ok (.invokestatic 47, 3) := by decide +kernel
theorem dX12_figures_57 : decode cX12_figures 57 = .ok (.ifCond .eq 40, 3) := by decide +kernel
theorem dX12_figures_60 : decode cX12_figures 60 = .ok (.iload_n 2, 1) := by decide +kernel
theorem dX12_figures_61 : decode cX12_figures 61 = .ok (.ifCond .eq 7, 3) := by decide +kernel
theorem dX12_figures_64 : decode cX12_figures 64 = .ok (.iload_n 1, 1) := by decide +kernel
theorem dX12_figures_65 : decode cX12_figures 65 = .ok (.ifCond .le 32, 3) := by decide +kernel
theorem dX12_figures_68 : decode cX12_figures 68 = .ok (.bipush 10, 2) := by decide +kernel
theorem dX12_figures_70 : decode cX12_figures 70 = .ok (.iload_n 1, 1) := by decide +kernel
theorem dX12_figures_71 : decode cX12_figures 71 = .ok (.imul, 1) := by decide +kernel
theorem dX12_figures_72 : decode cX12_figures 72 = .ok (.aload_n 0, 1) := by decide +kernel
theorem dX12_figures_73 : decode cX12_figures 73 = .ok (.invokevirtual 61, 3) := by decide +kernel
theorem dX12_figures_76 : decode cX12_figures 76 = .ok (.iadd, 1) := by decide +kernel
theorem dX12_figures_77 : decode cX12_figures 77 = .ok (.bipush 48, 2) := by decide +kernel
theorem dX12_figures_79 : decode cX12_figures 79 = .ok (.isub, 1) := by decide +kernel
theorem dX12_figures_80 : decode cX12_figures 80 = .ok (.istore_n 1, 1) := by decide +kernel
theorem dX12_figures_81 : decode cX12_figures 81 = .ok (.aload_n 0, 1) := by decide +kernel
theorem dX12_figures_82 : decode cX12_figures 82 = .ok (.dup, 1) := by decide +kernel
theorem dX12_figures_83 : decode cX12_figures 83 = .ok (.getfield 51, 3) := by decide +kernel
theorem dX12_figures_86 : decode cX12_figures 86 = .ok (.iconst 1, 1) := by decide +kernel
theorem dX12_figures_87 : decode cX12_figures 87 = .ok (.iadd, 1) := by decide +kernel
theorem dX12_figures_88 : decode cX12_figures 88 = .ok (.putfield 51, 3) := by decide +kernel
theorem dX12_figures_91 : decode cX12_figures 91 = .ok (.iinc 2 1, 3) := by decide +kernel
theorem dX12_figures_94 : decode cX12_figures 94 = .ok (.goto (-60), 3) := by decide +kernel
theorem dX12_figures_97 : decode cX12_figures 97 = .ok (.iload_n 1, 1) := by decide +kernel
theorem dX12_figures_98 : decode cX12_figures 98 = .ok (.ireturn, 1) := by decide +kernel
def zb_X12_figures_97 (E : zj_E) (st : List Value) (m : zj_M) : zj_R := (zi_ild 1 (zi_ret (some .int))) E st m
set_option maxRecDepth 20000 in
theorem zs_X12_figures_97 : zj_KC cX12_figures RX12 3 (1) (some .int) (0, fun _ => 0) 97 (zb_X12_figures_97) := (zr_ildn dX12_figures_97 rfl (zr_ret dX12_figures_98))
def zb_X12_figures_68 (r34 : zj_K) (E : zj_E) (st : List Value) (m : zj_M) : zj_R := (zi_push (.int 10) (zi_ild 1 (zi_b (fun x y => x * y) (zi_ald 0 (zi_vc 12 0 zf_X12_here (zi_b (fun x y => x + y) (zi_push (.int 48) (zi_b (fun x y => x - y) (zi_ist 1 (zi_ald 0 (zi_dup (zi_gf 12 6 (zi_push (.int 1) (zi_b (fun x y => x + y) (zi_pf 12 6 (zi_inc 2 1 r34))))))))))) zi_no))))) E st m
set_option maxRecDepth 20000 in
theorem zs_X12_figures_68 {r34 : zj_K} (h34 : zj_KC cX12_figures RX12 3 (1) (some .int) (0, fun _ => 0) 34 r34) : zj_KC cX12_figures RX12 3 (1) (some .int) (0, fun _ => 0) 68 (zb_X12_figures_68 r34) := (zr_bipush dX12_figures_68 rfl (zr_ildn dX12_figures_70 rfl (zr_imul dX12_figures_71 (zr_aldn dX12_figures_72 rfl (zr_callV dX12_figures_73 zm_X12_here ⟨⟨zq_1066, zq_77⟩, by decide +kernel, by omega, by decide⟩ rfl rfl zq_1063 zq_1065 zq_21 (zr_iadd dX12_figures_76 (zr_bipush dX12_figures_77 rfl (zr_isub dX12_figures_79 (zr_istn dX12_figures_80 rfl (zr_aldn dX12_figures_81 rfl (zr_dup dX12_figures_82 (zr_gf dX12_figures_83 zfl_X12_51_12 (zr_iconst dX12_figures_86 rfl (zr_iadd dX12_figures_87 (zr_pf dX12_figures_88 zfl_X12_51_12w (zr_inc dX12_figures_91 rfl (zr_goto dX12_figures_94 (tgt := 34) (by decide) h34)))))))))))) zr_no)))))
def zb_X12_figures_34 (r34 : zj_K) (E : zj_E) (st : List Value) (m : zj_M) : zj_R := (zi_ild 2 (zi_push (.int 2) (zi_clt (zi_ald 0 (zi_gf 12 8 (zi_eq (zi_ald 0 (zi_vc 12 0 zf_X12_here (zi_push (.int 48) (zi_push (.int 57) (zi_call 3 zf_X12_in (zi_eq zb_X12_figures_97 (zi_ild 2 (zi_eq (zb_X12_figures_68 r34) (zi_ild 1 (zi_le zb_X12_figures_97 (zb_X12_figures_68 r34))))))))) zi_no)) zb_X12_figures_97))) zb_X12_figures_97))) E st m
set_option maxRecDepth 20000 in
theorem zs_X12_figures_34 {r34 : zj_K} (h34 : zj_KC cX12_figures RX12 3 (1) (some .int) (0, fun _ => 0) 34 r34) : zj_KC cX12_figures RX12 3 (1) (some .int) (0, fun _ => 0) 34 (zb_X12_figures_34 r34) := (zr_ildn dX12_figures_34 rfl (zr_iconst dX12_figures_35 rfl (zr_icge dX12_figures_36 (tgt := 97) (by decide) (zs_X12_figures_97) (zr_aldn dX12_figures_39 rfl (zr_gf dX12_figures_40 zfl_X12_57_12 (zr_ifne dX12_figures_43 (tgt := 97) (by decide) (zs_X12_figures_97) (zr_aldn dX12_figures_46 rfl (zr_callV dX12_figures_47 zm_X12_here ⟨⟨zq_1066, zq_77⟩, by decide +kernel, by omega, by decide⟩ rfl rfl zq_1063 zq_1065 zq_21 (zr_bipush dX12_figures_50 rfl (zr_bipush dX12_figures_52 rfl (zr_callS dX12_figures_54 zm_X12_in ⟨⟨zq_1054, zq_77⟩, by decide +kernel, by omega, by decide⟩ zq_1052 zq_1053 (zr_ifeq dX12_figures_57 (tgt := 97) (by decide) (zs_X12_figures_97) (zr_ildn dX12_figures_60 rfl (zr_ifeq dX12_figures_61 (tgt := 68) (by decide) (zs_X12_figures_68 h34) (zr_ildn dX12_figures_64 rfl (zr_ifle dX12_figures_65 (tgt := 97) (by decide) (zs_X12_figures_97) (zs_X12_figures_68 h34))))))))) zr_no))))))))
def zb_X12_figures_27 (E : zj_E) (st : List Value) (m : zj_M) : zj_R := (zi_pz 12 8 (zi_push (.int 0) (zi_ist 1 (zi_push (.int 0) (zi_ist 2 (zj_lp (zb_X12_figures_34) zj_fu)))))) E st m
set_option maxRecDepth 20000 in
theorem zs_X12_figures_27 : zj_KC cX12_figures RX12 3 (1) (some .int) (0, fun _ => 0) 27 (zb_X12_figures_27) := (zr_pz dX12_figures_27 zfl_X12_57_12w (zr_iconst dX12_figures_30 rfl (zr_istn dX12_figures_31 rfl (zr_iconst dX12_figures_32 rfl (zr_istn dX12_figures_33 rfl (zr_lp (fun _ h => zs_X12_figures_34 h) zj_fu))))))
def zb_X12_figures_22 (E : zj_E) (st : List Value) (m : zj_M) : zj_R := (zi_push (.int 1) zb_X12_figures_27) E st m
set_option maxRecDepth 20000 in
theorem zs_X12_figures_22 : zj_KC cX12_figures RX12 3 (1) (some .int) (0, fun _ => 0) 22 (zb_X12_figures_22) := (zr_iconst dX12_figures_22 rfl (zr_goto dX12_figures_23 (tgt := 27) (by decide) (zs_X12_figures_27)))
def zb_X12_figures_0 (E : zj_E) (st : List Value) (m : zj_M) : zj_R := (zi_ald 0 (zi_ald 0 (zi_gf 12 8 (zi_eq (zi_ald 0 (zi_vc 12 0 zf_X12_here (zi_push (.int 48) (zi_push (.int 57) (zi_call 3 zf_X12_in (zi_eq zb_X12_figures_22 (zi_push (.int 0) zb_X12_figures_27))))) zi_no)) zb_X12_figures_22)))) E st m
set_option maxRecDepth 20000 in
theorem zs_X12_figures_0 : zj_KC cX12_figures RX12 3 (1) (some .int) (0, fun _ => 0) 0 (zb_X12_figures_0) := (zr_aldn dX12_figures_0 rfl (zr_aldn dX12_figures_1 rfl (zr_gf dX12_figures_2 zfl_X12_57_12 (zr_ifne dX12_figures_5 (tgt := 22) (by decide) (zs_X12_figures_22) (zr_aldn dX12_figures_8 rfl (zr_callV dX12_figures_9 zm_X12_here ⟨⟨zq_1066, zq_77⟩, by decide +kernel, by omega, by decide⟩ rfl rfl zq_1063 zq_1065 zq_21 (zr_bipush dX12_figures_12 rfl (zr_bipush dX12_figures_14 rfl (zr_callS dX12_figures_16 zm_X12_in ⟨⟨zq_1054, zq_77⟩, by decide +kernel, by omega, by decide⟩ zq_1052 zq_1053 (zr_ifne dX12_figures_19 (tgt := 26) (by decide) (zr_iconst dX12_figures_26 rfl (zs_X12_figures_27)) (zs_X12_figures_22))))) zr_no))))))
def zf_X12_figures : zj_F := zj_run 3 zb_X12_figures_0
theorem zm_X12_figures : zj_MS 1 yX12_figures cX12_figures 3 (some .int) zf_X12_figures := zj_met (own := RX12) rfl (by decide +kernel) (Or.inr (Or.inl rfl)) (zs_X12_figures_0)
theorem dX12_among_0 : decode cX12_among 0 = .ok (.iconst 0, 1) := by decide +kernel
theorem dX12_among_1 : decode cX12_among 1 = .ok (.istore_n 2, 1) := by decide +kernel
theorem dX12_among_2 : decode cX12_among 2 = .ok (.iload_n 2, 1) := by decide +kernel
theorem dX12_among_3 : decode cX12_among 3 = .ok (.aload_n 1, 1) := by decide +kernel
theorem dX12_among_4 : decode cX12_among 4 = .ok (.invokevirtual 65, 3) := by decide +kernel
theorem dX12_among_7 : decode cX12_among 7 = .ok (.if_icmp .ge 33, 3) := by decide +kernel
theorem dX12_among_10 : decode cX12_among 10 = .ok (.aload_n 0, 1) := by decide +kernel
theorem dX12_among_11 : decode cX12_among 11 = .ok (.invokevirtual 61, 3) := by decide +kernel
theorem dX12_among_14 : decode cX12_among 14 = .ok (.aload_n 1, 1) := by decide +kernel
theorem dX12_among_15 : decode cX12_among 15 = .ok (.iload_n 2, 1) := by decide +kernel
theorem dX12_among_16 : decode cX12_among 16 = .ok (.invokevirtual 70, 3) := by decide +kernel
theorem dX12_among_19 : decode cX12_among 19 = .ok (.if_icmp .ne 15, 3) := by decide +kernel
theorem dX12_among_22 : decode cX12_among 22 = .ok (.aload_n 0, 1) := by decide +kernel
theorem dX12_among_23 : decode cX12_among 23 = .ok (.dup, 1) := by decide +kernel
theorem dX12_among_24 : decode cX12_among 24 = .ok (.getfield 51, 3) := by decide +kernel
theorem dX12_among_27 : decode cX12_among 27 = .ok (.iconst 1, 1) := by decide +kernel
theorem dX12_among_28 : decode cX12_among 28 = .ok (.iadd, 1) := by decide +kernel
theorem dX12_among_29 : decode cX12_among 29 = .ok (.putfield 51, 3) := by decide +kernel
theorem dX12_among_32 : decode cX12_among 32 = .ok (.iload_n 2, 1) := by decide +kernel
theorem dX12_among_33 : decode cX12_among 33 = .ok (.ireturn, 1) := by decide +kernel
theorem dX12_among_34 : decode cX12_among 34 = .ok (.iinc 2 1, 3) := by decide +kernel
theorem dX12_among_37 : decode cX12_among 37 = .ok (.goto (-35), 3) := by decide +kernel
theorem dX12_among_40 : decode cX12_among 40 = .ok (.iconst (-1), 1) := by decide +kernel
theorem dX12_among_41 : decode cX12_among 41 = .ok (.ireturn, 1) := by decide +kernel
def zb_X12_among_2 (r2 : zj_K) (E : zj_E) (st : List Value) (m : zj_M) : zj_R := (zi_ild 2 (zi_ald 1 (zi_sc 0 zf_J0_length_8abf5 (zi_clt (zi_ald 0 (zi_vc 12 0 zf_X12_here (zi_ald 1 (zi_ild 2 (zi_sc 1 zf_J0_charAt_5068e (zi_ceq (zi_ald 0 (zi_dup (zi_gf 12 6 (zi_push (.int 1) (zi_b (fun x y => x + y) (zi_pf 12 6 (zi_ild 2 (zi_ret (some .int))))))))) (zi_inc 2 1 r2))))) zi_no)) (zi_push (.int (-1)) (zi_ret (some .int))))))) E st m
set_option maxRecDepth 20000 in
theorem zs_X12_among_2 {r2 : zj_K} (h2 : zj_KC cX12_among RX12 3 (13) (some .int) (0, fun _ => 0) 2 r2) : zj_KC cX12_among RX12 3 (13) (some .int) (0, fun _ => 0) 2 (zb_X12_among_2 r2) := (zr_ildn dX12_among_2 rfl (zr_aldn dX12_among_3 rfl (zr_sc dX12_among_4 zm_J0_length_8abf5 ⟨⟨zq_402, zq_78⟩, by decide +kernel, by omega, by decide⟩ rfl zq_1076 zq_400 zq_401 (zr_icge dX12_among_7 (tgt := 40) (by decide) (zr_iconst dX12_among_40 rfl (zr_ret dX12_among_41)) (zr_aldn dX12_among_10 rfl (zr_callV dX12_among_11 zm_X12_here ⟨⟨zq_1066, zq_77⟩, by decide +kernel, by omega, by decide⟩ rfl rfl zq_1063 zq_1065 zq_21 (zr_aldn dX12_among_14 rfl (zr_ildn dX12_among_15 rfl (zr_sc dX12_among_16 zm_J0_charAt_5068e ⟨⟨zq_412, zq_78⟩, by decide +kernel, by omega, by decide⟩ rfl zq_1077 zq_410 zq_411 (zr_icne dX12_among_19 (tgt := 34) (by decide) (zr_inc dX12_among_34 rfl (zr_goto dX12_among_37 (tgt := 2) (by decide) h2)) (zr_aldn dX12_among_22 rfl (zr_dup dX12_among_23 (zr_gf dX12_among_24 zfl_X12_51_12 (zr_iconst dX12_among_27 rfl (zr_iadd dX12_among_28 (zr_pf dX12_among_29 zfl_X12_51_12w (zr_ildn dX12_among_32 rfl (zr_ret dX12_among_33)))))))))))) zr_no))))))
def zb_X12_among_0 (E : zj_E) (st : List Value) (m : zj_M) : zj_R := (zi_push (.int 0) (zi_ist 2 (zj_lp (zb_X12_among_2) zj_fu))) E st m
set_option maxRecDepth 20000 in
theorem zs_X12_among_0 : zj_KC cX12_among RX12 3 (13) (some .int) (0, fun _ => 0) 0 (zb_X12_among_0) := (zr_iconst dX12_among_0 rfl (zr_istn dX12_among_1 rfl (zr_lp (fun _ h => zs_X12_among_2 h) zj_fu)))
def zf_X12_among : zj_F := zj_run 3 zb_X12_among_0
theorem zm_X12_among : zj_MS 13 yX12_among cX12_among 3 (some .int) zf_X12_among := zj_met (own := RX12) rfl (by decide +kernel) (Or.inr (Or.inl rfl)) (zs_X12_among_0)
theorem dX12_emits_0 : decode cX12_emits 0 = .ok (.aload_n 0, 1) := by decide +kernel
theorem dX12_emits_1 : decode cX12_emits 1 = .ok (.getfield 57, 3) := by decide +kernel
theorem dX12_emits_4 : decode cX12_emits 4 = .ok (.ifCond .ne 52, 3) := by decide +kernel
theorem dX12_emits_7 : decode cX12_emits 7 = .ok (.aload_n 0, 1) := by decide +kernel
theorem dX12_emits_8 : decode cX12_emits 8 = .ok (.getfield 9, 3) := by decide +kernel
theorem dX12_emits_11 : decode cX12_emits 11 = .ok (.sipush 233, 3) := by decide +kernel
theorem dX12_emits_14 : decode cX12_emits 14 = .ok (.sipush 140, 3) := by decide +kernel
theorem dX12_emits_17 : decode cX12_emits 17 = .ok (.aload_n 0, 1) := by decide +kernel
theorem dX12_emits_18 : decode cX12_emits 18 = .ok (.getfield 78, 3) := by decide +kernel
theorem dX12_emits_21 : decode cX12_emits 21 = .ok (.imul, 1) := by decide +kernel
theorem dX12_emits_22 : decode cX12_emits 22 = .ok (.iadd, 1) := by decide +kernel
theorem dX12_emits_23 : decode cX12_emits 23 = .ok (.aload_n 0, 1) := by decide +kernel
theorem dX12_emits_24 : decode cX12_emits 24 = .ok (.getfield 9, 3) := by decide +kernel
theorem dX12_emits_27 : decode cX12_emits 27 = .ok (.sipush 228, 3) := by decide +kernel
theorem dX12_emits_30 : decode cX12_emits 30 = .ok (.aload_n 0, 1) := by decide +kernel
theorem dX12_emits_31 : decode cX12_emits 31 = .ok (.getfield 78, 3) := by decide +kernel
theorem dX12_emits_34 : decode cX12_emits 34 = .ok (.iadd, 1) := by decide +kernel
theorem dX12_emits_35 : decode cX12_emits 35 = .ok (.iaload, 1) := by decide +kernel
theorem dX12_emits_36 : decode cX12_emits 36 = .ok (.iadd, 1) := by decide +kernel
theorem dX12_emits_37 : decode cX12_emits 37 = .ok (.iload_n 1, 1) := by decide +kernel
theorem dX12_emits_38 : decode cX12_emits 38 = .ok (.iastore, 1) := by decide +kernel
theorem dX12_emits_39 : decode cX12_emits 39 = .ok (.aload_n 0, 1) := by decide +kernel
theorem dX12_emits_40 : decode cX12_emits 40 = .ok (.getfield 9, 3) := by decide +kernel
theorem dX12_emits_43 : decode cX12_emits 43 = .ok (.sipush 228, 3) := by decide +kernel
theorem dX12_emits_46 : decode cX12_emits 46 = .ok (.aload_n 0, 1) := by decide +kernel
theorem dX12_emits_47 : decode cX12_emits 47 = .ok (.getfield 78, 3) := by decide +kernel
theorem dX12_emits_50 : decode cX12_emits 50 = .ok (.iadd, 1) := by decide +kernel
theorem dX12_emits_51 : decode cX12_emits 51 = .ok (.dup2, 1) := by decide +kernel
theorem dX12_emits_52 : decode cX12_emits 52 = .ok (.iaload, 1) := by decide +kernel
theorem dX12_emits_53 : decode cX12_emits 53 = .ok (.iconst 1, 1) := by decide +kernel
theorem dX12_emits_54 : decode cX12_emits 54 = .ok (.iadd, 1) := by decide +kernel
theorem dX12_emits_55 : decode cX12_emits 55 = .ok (.iastore, 1) := by decide +kernel
theorem dX12_emits_56 : decode cX12_emits 56 = .ok (.return_, 1) := by decide +kernel
def zb_X12_emits_56 (E : zj_E) (st : List Value) (m : zj_M) : zj_R := (zi_ret none) E st m
set_option maxRecDepth 20000 in
theorem zs_X12_emits_56 : zj_KC cX12_emits RX12 2 (0) none (0, fun _ => 0) 56 (zb_X12_emits_56) := (zr_ret dX12_emits_56)
def zb_X12_emits_0 (E : zj_E) (st : List Value) (m : zj_M) : zj_R := (zi_ald 0 (zi_gf 12 8 (zi_eq (zi_ald 0 (zi_gf 12 1 (zi_push (.int 233) (zi_push (.int 140) (zi_ald 0 (zi_gf 12 5 (zi_b (fun x y => x * y) (zi_b (fun x y => x + y) (zi_ald 0 (zi_gf 12 1 (zi_push (.int 228) (zi_ald 0 (zi_gf 12 5 (zi_b (fun x y => x + y) (zi_iald (zi_b (fun x y => x + y) (zi_ild 1 (zi_iast (zi_ald 0 (zi_gf 12 1 (zi_push (.int 228) (zi_ald 0 (zi_gf 12 5 (zi_b (fun x y => x + y) (zi_dup2 (zi_iald (zi_push (.int 1) (zi_b (fun x y => x + y) (zi_iast zb_X12_emits_56))))))))))))))))))))))))))))) zb_X12_emits_56))) E st m
set_option maxRecDepth 20000 in
theorem zs_X12_emits_0 : zj_KC cX12_emits RX12 2 (0) none (0, fun _ => 0) 0 (zb_X12_emits_0) := (zr_aldn dX12_emits_0 rfl (zr_gf dX12_emits_1 zfl_X12_57_12 (zr_ifne dX12_emits_4 (tgt := 56) (by decide) (zs_X12_emits_56) (zr_aldn dX12_emits_7 rfl (zr_gf dX12_emits_8 zfl_X12_9_12 (zr_sipush dX12_emits_11 rfl (zr_sipush dX12_emits_14 rfl (zr_aldn dX12_emits_17 rfl (zr_gf dX12_emits_18 zfl_X12_78_12 (zr_imul dX12_emits_21 (zr_iadd dX12_emits_22 (zr_aldn dX12_emits_23 rfl (zr_gf dX12_emits_24 zfl_X12_9_12 (zr_sipush dX12_emits_27 rfl (zr_aldn dX12_emits_30 rfl (zr_gf dX12_emits_31 zfl_X12_78_12 (zr_iadd dX12_emits_34 (zr_iald dX12_emits_35 (zr_iadd dX12_emits_36 (zr_ildn dX12_emits_37 rfl (zr_iast dX12_emits_38 (zr_aldn dX12_emits_39 rfl (zr_gf dX12_emits_40 zfl_X12_9_12 (zr_sipush dX12_emits_43 rfl (zr_aldn dX12_emits_46 rfl (zr_gf dX12_emits_47 zfl_X12_78_12 (zr_iadd dX12_emits_50 (zr_dup2 dX12_emits_51 (zr_iald dX12_emits_52 (zr_iconst dX12_emits_53 rfl (zr_iadd dX12_emits_54 (zr_iast dX12_emits_55 (zs_X12_emits_56)))))))))))))))))))))))))))))))))
def zf_X12_emits : zj_F := zj_run 2 zb_X12_emits_0
theorem zm_X12_emits : zj_MS 0 yX12_emits cX12_emits 2 none zf_X12_emits := zj_met (own := RX12) rfl (by decide +kernel) (Or.inl rfl) (zs_X12_emits_0)
theorem dX12_factor_0 : decode cX12_factor 0 = .ok (.aload_n 0, 1) := by decide +kernel
theorem dX12_factor_1 : decode cX12_factor 1 = .ok (.getfield 57, 3) := by decide +kernel
theorem dX12_factor_4 : decode cX12_factor 4 = .ok (.ifCond .eq 4, 3) := by decide +kernel
theorem dX12_factor_7 : decode cX12_factor 7 = .ok (.return_, 1) := by decide +kernel
theorem dX12_factor_8 : decode cX12_factor 8 = .ok (.aload_n 0, 1) := by decide +kernel
theorem dX12_factor_9 : decode cX12_factor 9 = .ok (.invokevirtual 61, 3) := by decide +kernel
theorem dX12_factor_12 : decode cX12_factor 12 = .ok (.istore_n 1, 1) := by decide +kernel
theorem dX12_factor_13 : decode cX12_factor 13 = .ok (.iload_n 1, 1) := by decide +kernel
theorem dX12_factor_14 : decode cX12_factor 14 = .ok (.bipush 33, 2) := by decide +kernel
theorem dX12_factor_16 : decode cX12_factor 16 = .ok (.if_icmp .eq 9, 3) := by decide +kernel
theorem dX12_factor_19 : decode cX12_factor 19 = .ok (.iload_n 1, 1) := by decide +kernel
theorem dX12_factor_20 : decode cX12_factor 20 = .ok (.bipush 40, 2) := by decide +kernel
theorem dX12_factor_22 : decode cX12_factor 22 = .ok (.if_icmp .ne 90, 3) := by decide +kernel
theorem dX12_factor_25 : decode cX12_factor 25 = .ok (.aload_n 0, 1) := by decide +kernel
theorem dX12_factor_26 : decode cX12_factor 26 = .ok (.aload_n 0, 1) := by decide +kernel
theorem dX12_factor_27 : decode cX12_factor 27 = .ok (.getfield 81, 3) := by decide +kernel
theorem dX12_factor_30 : decode cX12_factor 30 = .ok (.iconst 5, 1) := by decide +kernel
theorem dX12_factor_31 : decode cX12_factor 31 = .ok (.if_icmp .ne 7, 3) := by decide +kernel
theorem dX12_factor_34 : decode cX12_factor 34 = .ok (.iconst 1, 1) := by decide +kernel
theorem dX12_factor_35 : decode cX12_factor 35 = .ok (.goto 4, 3) := by decide +kernel
theorem dX12_factor_38 : decode cX12_factor 38 = .ok (.iconst 0, 1) := by decide +kernel
theorem dX12_factor_39 : decode cX12_factor 39 = .ok (.putfield 57, 3) := by decide +kernel
theorem dX12_factor_42 : decode cX12_factor 42 = .ok (.aload_n 0, 1) := by decide +kernel
theorem dX12_factor_43 : decode cX12_factor 43 = .ok (.dup, 1) := by decide +kernel
theorem dX12_factor_44 : decode cX12_factor 44 = .ok (.getfield 81, 3) := by decide +kernel
theorem dX12_factor_47 : decode cX12_factor 47 = .ok (.iconst 1, 1) := by decide +kernel
theorem dX12_factor_48 : decode cX12_factor 48 = .ok (.iadd, 1) := by decide +kernel
theorem dX12_factor_49 : decode cX12_factor 49 = .ok (.putfield 81, 3) := by decide +kernel
theorem dX12_factor_52 : decode cX12_factor 52 = .ok (.aload_n 0, 1) := by decide +kernel
theorem dX12_factor_53 : decode cX12_factor 53 = .ok (.dup, 1) := by decide +kernel
theorem dX12_factor_54 : decode cX12_factor 54 = .ok (.getfield 51, 3) := by decide +kernel
theorem dX12_factor_57 : decode cX12_factor 57 = .ok (.aload_n 0, 1) := by decide +kernel
theorem dX12_factor_58 : decode cX12_factor 58 = .ok (.getfield 57, 3) := by decide +kernel
theorem dX12_factor_61 : decode cX12_factor 61 = .ok (.ifCond .eq 7, 3) := by decide +kernel
theorem dX12_factor_64 : decode cX12_factor 64 = .ok (.iconst 0, 1) := by decide +kernel
theorem dX12_factor_65 : decode cX12_factor 65 = .ok (.goto 4, 3) := by decide +kernel
theorem dX12_factor_68 : decode cX12_factor 68 = .ok (.iconst 1, 1) := by decide +kernel
theorem dX12_factor_69 : decode cX12_factor 69 = .ok (.iadd, 1) := by decide +kernel
theorem dX12_factor_70 : decode cX12_factor 70 = .ok (.putfield 51, 3) := by decide +kernel
theorem dX12_factor_73 : decode cX12_factor 73 = .ok (.iload_n 1, 1) := by decide +kernel
theorem dX12_factor_74 : decode cX12_factor 74 = .ok (.bipush 33, 2) := by decide +kernel
theorem dX12_factor_76 : decode cX12_factor 76 = .ok (.if_icmp .ne 15, 3) := by decide +kernel
theorem dX12_factor_79 : decode cX12_factor 79 = .ok (.aload_n 0, 1) := by decide +kernel
theorem dX12_factor_80 : decode cX12_factor 80 = .ok (.invokevirtual 84, 3) := by decide +kernel
theorem dX12_factor_83 : decode cX12_factor 83 = .ok (.aload_n 0, 1) := by decide +kernel
theorem dX12_factor_84 : decode cX12_factor 84 = .ok (.iconst (-1), 1) := by decide +kernel
theorem dX12_factor_85 : decode cX12_factor 85 = .ok (.invokevirtual 87, 3) := by decide +kernel
theorem dX12_factor_88 : decode cX12_factor 88 = .ok (.goto 13, 3) := by decide +kernel
theorem dX12_factor_91 : decode cX12_factor 91 = .ok (.aload_n 0, 1) := by decide +kernel
theorem dX12_factor_92 : decode cX12_factor 92 = .ok (.invokevirtual 90, 3) := by decide +kernel
theorem dX12_factor_95 : decode cX12_factor 95 = .ok (.aload_n 0, 1) := by decide +kernel
theorem dX12_factor_96 : decode cX12_factor 96 = .ok (.bipush 41, 2) := by decide +kernel
theorem dX12_factor_98 : decode cX12_factor 98 = .ok (.invokevirtual 74, 3) := by decide +kernel
theorem dX12_factor_101 : decode cX12_factor 101 = .ok (.aload_n 0, 1) := by decide +kernel
theorem dX12_factor_102 : decode cX12_factor 102 = .ok (.dup, 1) := by decide +kernel
theorem dX12_factor_103 : decode cX12_factor 103 = .ok (.getfield 81, 3) := by decide +kernel
theorem dX12_factor_106 : decode cX12_factor 106 = .ok (.iconst 1, 1) := by decide +kernel
theorem dX12_factor_107 : decode cX12_factor 107 = .ok (.isub, 1) := by decide +kernel
theorem dX12_factor_108 : decode cX12_factor 108 = .ok (.putfield 81, 3) := by decide +kernel
theorem dX12_factor_111 : decode cX12_factor 111 = .ok (.return_, 1) := by decide +kernel
theorem dX12_factor_112 : decode cX12_factor 112 = .ok (.aload_n 0, 1) := by decide +kernel
theorem dX12_factor_113 : decode cX12_factor 113 = .ok (.ldc 93, 2) := by decide +kernel
theorem dX12_factor_115 : decode cX12_factor 115 = .ok (.invokevirtual 95, 3) := by decide +kernel
theorem dX12_factor_118 : decode cX12_factor 118 = .ok (.istore_n 2, 1) := by decide +kernel
theorem dX12_factor_119 : decode cX12_factor 119 = .ok (.aload_n 0, 1) := by decide +kernel
theorem dX12_factor_120 : decode cX12_factor 120 = .ok (.iload_n 2, 1) := by decide +kernel
theorem dX12_factor_121 : decode cX12_factor 121 = .ok (.iconst (-1), 1) := by decide +kernel
theorem dX12_factor_122 : decode cX12_factor 122 = .ok (.if_icmp .ne 7, 3) := by decide +kernel
theorem dX12_factor_125 : decode cX12_factor 125 = .ok (.iconst 1, 1) := by decide +kernel
theorem dX12_factor_126 : decode cX12_factor 126 = .ok (.goto 4, 3) := by decide +kernel
theorem dX12_factor_129 : decode cX12_factor 129 = .ok (.iconst 0, 1) := by decide +kernel
theorem dX12_factor_130 : decode cX12_factor 130 = .ok (.putfield 57, 3) := by decide +kernel
theorem dX12_factor_133 : decode cX12_factor 133 = .ok (.aload_n 0, 1) := by decide +kernel
theorem dX12_factor_134 : decode cX12_factor 134 = .ok (.getfield 57, 3) := by decide +kernel
theorem dX12_factor_137 : decode cX12_factor 137 = .ok (.ifCond .eq 7, 3) := by decide +kernel
theorem dX12_factor_140 : decode cX12_factor 140 = .ok (.iconst 0, 1) := by decide +kernel
theorem dX12_factor_141 : decode cX12_factor 141 = .ok (.goto 9, 3) := by decide +kernel
theorem dX12_factor_144 : decode cX12_factor 144 = .ok (.aload_n 0, 1) := by decide +kernel
theorem dX12_factor_145 : decode cX12_factor 145 = .ok (.ldc 99, 2) := by decide +kernel
theorem dX12_factor_147 : decode cX12_factor 147 = .ok (.invokevirtual 95, 3) := by decide +kernel
theorem dX12_factor_150 : decode cX12_factor 150 = .ok (.istore_n 3, 1) := by decide +kernel
theorem dX12_factor_151 : decode cX12_factor 151 = .ok (.aload_n 0, 1) := by decide +kernel
theorem dX12_factor_152 : decode cX12_factor 152 = .ok (.aload_n 0, 1) := by decide +kernel
theorem dX12_factor_153 : decode cX12_factor 153 = .ok (.getfield 57, 3) := by decide +kernel
theorem dX12_factor_156 : decode cX12_factor 156 = .ok (.ifCond .ne 8, 3) := by decide +kernel
theorem dX12_factor_159 : decode cX12_factor 159 = .ok (.iload_n 3, 1) := by decide +kernel
theorem dX12_factor_160 : decode cX12_factor 160 = .ok (.iconst (-1), 1) := by decide +kernel
theorem dX12_factor_161 : decode cX12_factor 161 = .ok (.if_icmp .ne 7, 3) := by decide +kernel
theorem dX12_factor_164 : decode cX12_factor 164 = .ok (.iconst 1, 1) := by decide +kernel
theorem dX12_factor_165 : decode cX12_factor 165 = .ok (.goto 4, 3) := by decide +kernel
theorem dX12_factor_168 : decode cX12_factor 168 = .ok (.iconst 0, 1) := by decide +kernel
theorem dX12_factor_169 : decode cX12_factor 169 = .ok (.putfield 57, 3) := by decide +kernel
theorem dX12_factor_172 : decode cX12_factor 172 = .ok (.aload_n 0, 1) := by decide +kernel
theorem dX12_factor_173 : decode cX12_factor 173 = .ok (.invokevirtual 101, 3) := by decide +kernel
theorem dX12_factor_176 : decode cX12_factor 176 = .ok (.istore 4, 2) := by decide +kernel
theorem dX12_factor_178 : decode cX12_factor 178 = .ok (.aload_n 0, 1) := by decide +kernel
theorem dX12_factor_179 : decode cX12_factor 179 = .ok (.iload_n 2, 1) := by decide +kernel
theorem dX12_factor_180 : decode cX12_factor 180 = .ok (.bipush 8, 2) := by decide +kernel
theorem dX12_factor_182 : decode cX12_factor 182 = .ok (.iload_n 3, 1) := by decide +kernel
theorem dX12_factor_183 : decode cX12_factor 183 = .ok (.imul, 1) := by decide +kernel
theorem dX12_factor_184 : decode cX12_factor 184 = .ok (.iadd, 1) := by decide +kernel
theorem dX12_factor_185 : decode cX12_factor 185 = .ok (.bipush 32, 2) := by decide +kernel
theorem dX12_factor_187 : decode cX12_factor 187 = .ok (.iload 4, 2) := by decide +kernel
theorem dX12_factor_189 : decode cX12_factor 189 = .ok (.imul, 1) := by decide +kernel
theorem dX12_factor_190 : decode cX12_factor 190 = .ok (.iadd, 1) := by decide +kernel
theorem dX12_factor_191 : decode cX12_factor 191 = .ok (.invokevirtual 87, 3) := by decide +kernel
theorem dX12_factor_194 : decode cX12_factor 194 = .ok (.return_, 1) := by decide +kernel
def zb_X12_factor_101 (F : Nat → zj_F) (E : zj_E) (st : List Value) (m : zj_M) : zj_R := (zi_ald 0 (zi_dup (zi_gf 12 9 (zi_push (.int 1) (zi_b (fun x y => x - y) (zi_pf 12 9 (zi_ret none))))))) E st m
set_option maxRecDepth 20000 in
theorem zs_X12_factor_101 {F : Nat → zj_F} {dn : Nat} (hF0 : zj_MS (14 + dn) yX12_factor cX12_factor 5 none (F 0)) (hF1 : zj_MS (14 + dn) yX12_every cX12_every 1 none (F 1)) (hF2 : zj_MS (14 + dn) yX12_some cX12_some 1 none (F 2)) : zj_KC cX12_factor RX12 5 (14 + (dn + 1)) none (0, fun _ => 0) 101 (zb_X12_factor_101 F) := (zr_aldn dX12_factor_101 rfl (zr_dup dX12_factor_102 (zr_gf dX12_factor_103 zfl_X12_81_12 (zr_iconst dX12_factor_106 rfl (zr_isub dX12_factor_107 (zr_pf dX12_factor_108 zfl_X12_81_12w (zr_ret dX12_factor_111)))))))
def zb_X12_factor_69 (F : Nat → zj_F) (E : zj_E) (st : List Value) (m : zj_M) : zj_R := (zi_b (fun x y => x + y) (zi_pf 12 6 (zi_ild 1 (zi_push (.int 33) (zi_ceq (zi_ald 0 (zi_vc 12 0 (F 0) (zi_ald 0 (zi_push (.int (-1)) (zi_vc 12 1 zf_X12_emits (zb_X12_factor_101 F) zi_no))) zi_no)) (zi_ald 0 (zi_vc 12 0 (F 2) (zi_ald 0 (zi_push (.int 41) (zi_vc 12 1 zf_X12_must (zb_X12_factor_101 F) zi_no))) zi_no))))))) E st m
set_option maxRecDepth 20000 in
theorem zs_X12_factor_69 {F : Nat → zj_F} {dn : Nat} (hF0 : zj_MS (14 + dn) yX12_factor cX12_factor 5 none (F 0)) (hF1 : zj_MS (14 + dn) yX12_every cX12_every 1 none (F 1)) (hF2 : zj_MS (14 + dn) yX12_some cX12_some 1 none (F 2)) : zj_KC cX12_factor RX12 5 (14 + (dn + 1)) none (0, fun _ => 0) 69 (zb_X12_factor_69 F) := (zr_iadd dX12_factor_69 (zr_pf dX12_factor_70 zfl_X12_51_12w (zr_ildn dX12_factor_73 rfl (zr_bipush dX12_factor_74 rfl (zr_icne dX12_factor_76 (tgt := 91) (by decide) (zr_aldn dX12_factor_91 rfl (zr_callV dX12_factor_92 hF2 ⟨⟨zq_1094, zq_77⟩, by decide +kernel, by omega, by decide⟩ rfl rfl zq_1091 zq_1093 zq_27 (zr_aldn dX12_factor_95 rfl (zr_bipush dX12_factor_96 rfl (zr_callV dX12_factor_98 zm_X12_must ⟨⟨zq_1081, zq_77⟩, by decide +kernel, by omega, by decide⟩ rfl rfl zq_1078 zq_1080 zq_24 (zs_X12_factor_101 hF0 hF1 hF2) zr_no))) zr_no)) (zr_aldn dX12_factor_79 rfl (zr_callV dX12_factor_80 hF0 ⟨⟨zq_1102, zq_77⟩, by decide +kernel, by omega, by decide⟩ rfl rfl zq_1099 zq_1101 zq_29 (zr_aldn dX12_factor_83 rfl (zr_iconst dX12_factor_84 rfl (zr_callV dX12_factor_85 zm_X12_emits ⟨⟨zq_1106, zq_77⟩, by decide +kernel, by omega, by decide⟩ rfl rfl zq_1103 zq_1105 zq_30 (zr_goto dX12_factor_88 (tgt := 101) (by decide) (zs_X12_factor_101 hF0 hF1 hF2)) zr_no))) zr_no)))))))
def zb_X12_factor_39 (F : Nat → zj_F) (E : zj_E) (st : List Value) (m : zj_M) : zj_R := (zi_pz 12 8 (zi_ald 0 (zi_dup (zi_gf 12 9 (zi_push (.int 1) (zi_b (fun x y => x + y) (zi_pf 12 9 (zi_ald 0 (zi_dup (zi_gf 12 6 (zi_ald 0 (zi_gf 12 8 (zi_eq (zi_push (.int 1) (zb_X12_factor_69 F)) (zi_push (.int 0) (zb_X12_factor_69 F))))))))))))))) E st m
set_option maxRecDepth 20000 in
theorem zs_X12_factor_39 {F : Nat → zj_F} {dn : Nat} (hF0 : zj_MS (14 + dn) yX12_factor cX12_factor 5 none (F 0)) (hF1 : zj_MS (14 + dn) yX12_every cX12_every 1 none (F 1)) (hF2 : zj_MS (14 + dn) yX12_some cX12_some 1 none (F 2)) : zj_KC cX12_factor RX12 5 (14 + (dn + 1)) none (0, fun _ => 0) 39 (zb_X12_factor_39 F) := (zr_pz dX12_factor_39 zfl_X12_57_12w (zr_aldn dX12_factor_42 rfl (zr_dup dX12_factor_43 (zr_gf dX12_factor_44 zfl_X12_81_12 (zr_iconst dX12_factor_47 rfl (zr_iadd dX12_factor_48 (zr_pf dX12_factor_49 zfl_X12_81_12w (zr_aldn dX12_factor_52 rfl (zr_dup dX12_factor_53 (zr_gf dX12_factor_54 zfl_X12_51_12 (zr_aldn dX12_factor_57 rfl (zr_gf dX12_factor_58 zfl_X12_57_12 (zr_ifeq dX12_factor_61 (tgt := 68) (by decide) (zr_iconst dX12_factor_68 rfl (zs_X12_factor_69 hF0 hF1 hF2)) (zr_iconst dX12_factor_64 rfl (zr_goto dX12_factor_65 (tgt := 69) (by decide) (zs_X12_factor_69 hF0 hF1 hF2))))))))))))))))
def zb_X12_factor_25 (F : Nat → zj_F) (E : zj_E) (st : List Value) (m : zj_M) : zj_R := (zi_ald 0 (zi_ald 0 (zi_gf 12 9 (zi_push (.int 5) (zi_ceq (zi_push (.int 1) (zb_X12_factor_39 F)) (zi_push (.int 0) (zb_X12_factor_39 F))))))) E st m
set_option maxRecDepth 20000 in
theorem zs_X12_factor_25 {F : Nat → zj_F} {dn : Nat} (hF0 : zj_MS (14 + dn) yX12_factor cX12_factor 5 none (F 0)) (hF1 : zj_MS (14 + dn) yX12_every cX12_every 1 none (F 1)) (hF2 : zj_MS (14 + dn) yX12_some cX12_some 1 none (F 2)) : zj_KC cX12_factor RX12 5 (14 + (dn + 1)) none (0, fun _ => 0) 25 (zb_X12_factor_25 F) := (zr_aldn dX12_factor_25 rfl (zr_aldn dX12_factor_26 rfl (zr_gf dX12_factor_27 zfl_X12_81_12 (zr_iconst dX12_factor_30 rfl (zr_icne dX12_factor_31 (tgt := 38) (by decide) (zr_iconst dX12_factor_38 rfl (zs_X12_factor_39 hF0 hF1 hF2)) (zr_iconst dX12_factor_34 rfl (zr_goto dX12_factor_35 (tgt := 39) (by decide) (zs_X12_factor_39 hF0 hF1 hF2))))))))
def zb_X12_factor_169 (F : Nat → zj_F) (E : zj_E) (st : List Value) (m : zj_M) : zj_R := (zi_pz 12 8 (zi_ald 0 (zi_vc 12 0 zf_X12_figures (zi_ist 4 (zi_ald 0 (zi_ild 2 (zi_push (.int 8) (zi_ild 3 (zi_b (fun x y => x * y) (zi_b (fun x y => x + y) (zi_push (.int 32) (zi_ild 4 (zi_b (fun x y => x * y) (zi_b (fun x y => x + y) (zi_vc 12 1 zf_X12_emits (zi_ret none) zi_no)))))))))))) zi_no))) E st m
set_option maxRecDepth 20000 in
theorem zs_X12_factor_169 {F : Nat → zj_F} {dn : Nat} (hF0 : zj_MS (14 + dn) yX12_factor cX12_factor 5 none (F 0)) (hF1 : zj_MS (14 + dn) yX12_every cX12_every 1 none (F 1)) (hF2 : zj_MS (14 + dn) yX12_some cX12_some 1 none (F 2)) : zj_KC cX12_factor RX12 5 (14 + (dn + 1)) none (0, fun _ => 0) 169 (zb_X12_factor_169 F) := (zr_pz dX12_factor_169 zfl_X12_57_12w (zr_aldn dX12_factor_172 rfl (zr_callV dX12_factor_173 zm_X12_figures ⟨⟨zq_1085, zq_77⟩, by decide +kernel, by omega, by decide⟩ rfl rfl zq_1082 zq_1084 zq_25 (zr_ist dX12_factor_176 (zr_aldn dX12_factor_178 rfl (zr_ildn dX12_factor_179 rfl (zr_bipush dX12_factor_180 rfl (zr_ildn dX12_factor_182 rfl (zr_imul dX12_factor_183 (zr_iadd dX12_factor_184 (zr_bipush dX12_factor_185 rfl (zr_ild dX12_factor_187 (zr_imul dX12_factor_189 (zr_iadd dX12_factor_190 (zr_callV dX12_factor_191 zm_X12_emits ⟨⟨zq_1106, zq_77⟩, by decide +kernel, by omega, by decide⟩ rfl rfl zq_1103 zq_1105 zq_30 (zr_ret dX12_factor_194) zr_no)))))))))))) zr_no)))
def zb_X12_factor_164 (F : Nat → zj_F) (E : zj_E) (st : List Value) (m : zj_M) : zj_R := (zi_push (.int 1) (zb_X12_factor_169 F)) E st m
set_option maxRecDepth 20000 in
theorem zs_X12_factor_164 {F : Nat → zj_F} {dn : Nat} (hF0 : zj_MS (14 + dn) yX12_factor cX12_factor 5 none (F 0)) (hF1 : zj_MS (14 + dn) yX12_every cX12_every 1 none (F 1)) (hF2 : zj_MS (14 + dn) yX12_some cX12_some 1 none (F 2)) : zj_KC cX12_factor RX12 5 (14 + (dn + 1)) none (0, fun _ => 0) 164 (zb_X12_factor_164 F) := (zr_iconst dX12_factor_164 rfl (zr_goto dX12_factor_165 (tgt := 169) (by decide) (zs_X12_factor_169 hF0 hF1 hF2)))
def zb_X12_factor_150 (F : Nat → zj_F) (E : zj_E) (st : List Value) (m : zj_M) : zj_R := (zi_ist 3 (zi_ald 0 (zi_ald 0 (zi_gf 12 8 (zi_eq (zi_ild 3 (zi_push (.int (-1)) (zi_ceq (zb_X12_factor_164 F) (zi_push (.int 0) (zb_X12_factor_169 F))))) (zb_X12_factor_164 F)))))) E st m
set_option maxRecDepth 20000 in
theorem zs_X12_factor_150 {F : Nat → zj_F} {dn : Nat} (hF0 : zj_MS (14 + dn) yX12_factor cX12_factor 5 none (F 0)) (hF1 : zj_MS (14 + dn) yX12_every cX12_every 1 none (F 1)) (hF2 : zj_MS (14 + dn) yX12_some cX12_some 1 none (F 2)) : zj_KC cX12_factor RX12 5 (14 + (dn + 1)) none (0, fun _ => 0) 150 (zb_X12_factor_150 F) := (zr_istn dX12_factor_150 rfl (zr_aldn dX12_factor_151 rfl (zr_aldn dX12_factor_152 rfl (zr_gf dX12_factor_153 zfl_X12_57_12 (zr_ifne dX12_factor_156 (tgt := 164) (by decide) (zs_X12_factor_164 hF0 hF1 hF2) (zr_ildn dX12_factor_159 rfl (zr_iconst dX12_factor_160 rfl (zr_icne dX12_factor_161 (tgt := 168) (by decide) (zr_iconst dX12_factor_168 rfl (zs_X12_factor_169 hF0 hF1 hF2)) (zs_X12_factor_164 hF0 hF1 hF2)))))))))
def zb_X12_factor_130 (F : Nat → zj_F) (E : zj_E) (st : List Value) (m : zj_M) : zj_R := (zi_pz 12 8 (zi_ald 0 (zi_gf 12 8 (zi_eq (zi_ald 0 (zi_push (.ref (1000 + 8)) (zi_vc 12 1 zf_X12_among (zb_X12_factor_150 F) zi_no))) (zi_push (.int 0) (zb_X12_factor_150 F)))))) E st m
set_option maxRecDepth 20000 in
theorem zs_X12_factor_130 {F : Nat → zj_F} {dn : Nat} (hF0 : zj_MS (14 + dn) yX12_factor cX12_factor 5 none (F 0)) (hF1 : zj_MS (14 + dn) yX12_every cX12_every 1 none (F 1)) (hF2 : zj_MS (14 + dn) yX12_some cX12_some 1 none (F 2)) : zj_KC cX12_factor RX12 5 (14 + (dn + 1)) none (0, fun _ => 0) 130 (zb_X12_factor_130 F) := (zr_pz dX12_factor_130 zfl_X12_57_12w (zr_aldn dX12_factor_133 rfl (zr_gf dX12_factor_134 zfl_X12_57_12 (zr_ifeq dX12_factor_137 (tgt := 144) (by decide) (zr_aldn dX12_factor_144 rfl (zr_ldcS (tx := "<=>") dX12_factor_145 (by decide +kernel) (zr_callV dX12_factor_147 zm_X12_among ⟨⟨zq_1111, zq_77⟩, by decide +kernel, by omega, by decide⟩ rfl rfl zq_1108 zq_1110 zq_31 (zs_X12_factor_150 hF0 hF1 hF2) zr_no))) (zr_iconst dX12_factor_140 rfl (zr_goto dX12_factor_141 (tgt := 150) (by decide) (zs_X12_factor_150 hF0 hF1 hF2)))))))
def zb_X12_factor_0 (F : Nat → zj_F) (E : zj_E) (st : List Value) (m : zj_M) : zj_R := (zi_ald 0 (zi_gf 12 8 (zi_eq (zi_ald 0 (zi_vc 12 0 zf_X12_here (zi_ist 1 (zi_ild 1 (zi_push (.int 33) (zi_ceq (zb_X12_factor_25 F) (zi_ild 1 (zi_push (.int 40) (zi_ceq (zb_X12_factor_25 F) (zi_ald 0 (zi_push (.ref (1000 + 7)) (zi_vc 12 1 zf_X12_among (zi_ist 2 (zi_ald 0 (zi_ild 2 (zi_push (.int (-1)) (zi_ceq (zi_push (.int 1) (zb_X12_factor_130 F)) (zi_push (.int 0) (zb_X12_factor_130 F))))))) zi_no)))))))))) zi_no)) (zi_ret none)))) E st m
set_option maxRecDepth 20000 in
theorem zs_X12_factor_0 {F : Nat → zj_F} {dn : Nat} (hF0 : zj_MS (14 + dn) yX12_factor cX12_factor 5 none (F 0)) (hF1 : zj_MS (14 + dn) yX12_every cX12_every 1 none (F 1)) (hF2 : zj_MS (14 + dn) yX12_some cX12_some 1 none (F 2)) : zj_KC cX12_factor RX12 5 (14 + (dn + 1)) none (0, fun _ => 0) 0 (zb_X12_factor_0 F) := (zr_aldn dX12_factor_0 rfl (zr_gf dX12_factor_1 zfl_X12_57_12 (zr_ifeq dX12_factor_4 (tgt := 8) (by decide) (zr_aldn dX12_factor_8 rfl (zr_callV dX12_factor_9 zm_X12_here ⟨⟨zq_1066, zq_77⟩, by decide +kernel, by omega, by decide⟩ rfl rfl zq_1063 zq_1065 zq_21 (zr_istn dX12_factor_12 rfl (zr_ildn dX12_factor_13 rfl (zr_bipush dX12_factor_14 rfl (zr_iceq dX12_factor_16 (tgt := 25) (by decide) (zs_X12_factor_25 hF0 hF1 hF2) (zr_ildn dX12_factor_19 rfl (zr_bipush dX12_factor_20 rfl (zr_icne dX12_factor_22 (tgt := 112) (by decide) (zr_aldn dX12_factor_112 rfl (zr_ldcS (tx := "pkvcms") dX12_factor_113 (by decide +kernel) (zr_callV dX12_factor_115 zm_X12_among ⟨⟨zq_1111, zq_77⟩, by decide +kernel, by omega, by decide⟩ rfl rfl zq_1108 zq_1110 zq_31 (zr_istn dX12_factor_118 rfl (zr_aldn dX12_factor_119 rfl (zr_ildn dX12_factor_120 rfl (zr_iconst dX12_factor_121 rfl (zr_icne dX12_factor_122 (tgt := 129) (by decide) (zr_iconst dX12_factor_129 rfl (zs_X12_factor_130 hF0 hF1 hF2)) (zr_iconst dX12_factor_125 rfl (zr_goto dX12_factor_126 (tgt := 130) (by decide) (zs_X12_factor_130 hF0 hF1 hF2)))))))) zr_no))) (zs_X12_factor_25 hF0 hF1 hF2)))))))) zr_no)) (zr_ret dX12_factor_7))))
theorem dX12_every_0 : decode cX12_every 0 = .ok (.aload_n 0, 1) := by decide +kernel
theorem dX12_every_1 : decode cX12_every 1 = .ok (.invokevirtual 84, 3) := by decide +kernel
theorem dX12_every_4 : decode cX12_every 4 = .ok (.aload_n 0, 1) := by decide +kernel
theorem dX12_every_5 : decode cX12_every 5 = .ok (.getfield 57, 3) := by decide +kernel
theorem dX12_every_8 : decode cX12_every 8 = .ok (.ifCond .ne 35, 3) := by decide +kernel
theorem dX12_every_11 : decode cX12_every 11 = .ok (.aload_n 0, 1) := by decide +kernel
theorem dX12_every_12 : decode cX12_every 12 = .ok (.invokevirtual 61, 3) := by decide +kernel
theorem dX12_every_15 : decode cX12_every 15 = .ok (.bipush 38, 2) := by decide +kernel
theorem dX12_every_17 : decode cX12_every 17 = .ok (.if_icmp .ne 26, 3) := by decide +kernel
theorem dX12_every_20 : decode cX12_every 20 = .ok (.aload_n 0, 1) := by decide +kernel
theorem dX12_every_21 : decode cX12_every 21 = .ok (.dup, 1) := by decide +kernel
theorem dX12_every_22 : decode cX12_every 22 = .ok (.getfield 51, 3) := by decide +kernel
theorem dX12_every_25 : decode cX12_every 25 = .ok (.iconst 1, 1) := by decide +kernel
theorem dX12_every_26 : decode cX12_every 26 = .ok (.iadd, 1) := by decide +kernel
theorem dX12_every_27 : decode cX12_every 27 = .ok (.putfield 51, 3) := by decide +kernel
theorem dX12_every_30 : decode cX12_every 30 = .ok (.aload_n 0, 1) := by decide +kernel
theorem dX12_every_31 : decode cX12_every 31 = .ok (.invokevirtual 84, 3) := by decide +kernel
theorem dX12_every_34 : decode cX12_every 34 = .ok (.aload_n 0, 1) := by decide +kernel
theorem dX12_every_35 : decode cX12_every 35 = .ok (.bipush (-2), 2) := by decide +kernel
theorem dX12_every_37 : decode cX12_every 37 = .ok (.invokevirtual 87, 3) := by decide +kernel
theorem dX12_every_40 : decode cX12_every 40 = .ok (.goto (-36), 3) := by decide +kernel
theorem dX12_every_43 : decode cX12_every 43 = .ok (.return_, 1) := by decide +kernel
def zb_X12_every_43 (F : Nat → zj_F) (E : zj_E) (st : List Value) (m : zj_M) : zj_R := (zi_ret none) E st m
set_option maxRecDepth 20000 in
theorem zs_X12_every_43 {F : Nat → zj_F} {dn : Nat} (hF0 : zj_MS (14 + dn) yX12_factor cX12_factor 5 none (F 0)) (hF1 : zj_MS (14 + dn) yX12_every cX12_every 1 none (F 1)) (hF2 : zj_MS (14 + dn) yX12_some cX12_some 1 none (F 2)) : zj_KC cX12_every RX12 1 (14 + (dn + 1)) none (0, fun _ => 0) 43 (zb_X12_every_43 F) := (zr_ret dX12_every_43)
def zb_X12_every_4 (F : Nat → zj_F) (r4 : zj_K) (E : zj_E) (st : List Value) (m : zj_M) : zj_R := (zi_ald 0 (zi_gf 12 8 (zi_eq (zi_ald 0 (zi_vc 12 0 zf_X12_here (zi_push (.int 38) (zi_ceq (zi_ald 0 (zi_dup (zi_gf 12 6 (zi_push (.int 1) (zi_b (fun x y => x + y) (zi_pf 12 6 (zi_ald 0 (zi_vc 12 0 (F 0) (zi_ald 0 (zi_push (.int (-2)) (zi_vc 12 1 zf_X12_emits r4 zi_no))) zi_no)))))))) (zb_X12_every_43 F))) zi_no)) (zb_X12_every_43 F)))) E st m
set_option maxRecDepth 20000 in
theorem zs_X12_every_4 {F : Nat → zj_F} {dn : Nat} (hF0 : zj_MS (14 + dn) yX12_factor cX12_factor 5 none (F 0)) (hF1 : zj_MS (14 + dn) yX12_every cX12_every 1 none (F 1)) (hF2 : zj_MS (14 + dn) yX12_some cX12_some 1 none (F 2)) {r4 : zj_K} (h4 : zj_KC cX12_every RX12 1 (14 + (dn + 1)) none (0, fun _ => 0) 4 r4) : zj_KC cX12_every RX12 1 (14 + (dn + 1)) none (0, fun _ => 0) 4 (zb_X12_every_4 F r4) := (zr_aldn dX12_every_4 rfl (zr_gf dX12_every_5 zfl_X12_57_12 (zr_ifne dX12_every_8 (tgt := 43) (by decide) (zs_X12_every_43 hF0 hF1 hF2) (zr_aldn dX12_every_11 rfl (zr_callV dX12_every_12 zm_X12_here ⟨⟨zq_1066, zq_77⟩, by decide +kernel, by omega, by decide⟩ rfl rfl zq_1063 zq_1065 zq_21 (zr_bipush dX12_every_15 rfl (zr_icne dX12_every_17 (tgt := 43) (by decide) (zs_X12_every_43 hF0 hF1 hF2) (zr_aldn dX12_every_20 rfl (zr_dup dX12_every_21 (zr_gf dX12_every_22 zfl_X12_51_12 (zr_iconst dX12_every_25 rfl (zr_iadd dX12_every_26 (zr_pf dX12_every_27 zfl_X12_51_12w (zr_aldn dX12_every_30 rfl (zr_callV dX12_every_31 hF0 ⟨⟨zq_1102, zq_77⟩, by decide +kernel, by omega, by decide⟩ rfl rfl zq_1099 zq_1101 zq_29 (zr_aldn dX12_every_34 rfl (zr_bipush dX12_every_35 rfl (zr_callV dX12_every_37 zm_X12_emits ⟨⟨zq_1106, zq_77⟩, by decide +kernel, by omega, by decide⟩ rfl rfl zq_1103 zq_1105 zq_30 (zr_goto dX12_every_40 (tgt := 4) (by decide) h4) zr_no))) zr_no)))))))))) zr_no)))))
def zb_X12_every_0 (F : Nat → zj_F) (E : zj_E) (st : List Value) (m : zj_M) : zj_R := (zi_ald 0 (zi_vc 12 0 (F 0) (zj_lp (zb_X12_every_4 F) zj_fu) zi_no)) E st m
set_option maxRecDepth 20000 in
theorem zs_X12_every_0 {F : Nat → zj_F} {dn : Nat} (hF0 : zj_MS (14 + dn) yX12_factor cX12_factor 5 none (F 0)) (hF1 : zj_MS (14 + dn) yX12_every cX12_every 1 none (F 1)) (hF2 : zj_MS (14 + dn) yX12_some cX12_some 1 none (F 2)) : zj_KC cX12_every RX12 1 (14 + (dn + 1)) none (0, fun _ => 0) 0 (zb_X12_every_0 F) := (zr_aldn dX12_every_0 rfl (zr_callV dX12_every_1 hF0 ⟨⟨zq_1102, zq_77⟩, by decide +kernel, by omega, by decide⟩ rfl rfl zq_1099 zq_1101 zq_29 (zr_lp (fun _ h => zs_X12_every_4 hF0 hF1 hF2 h) zj_fu) zr_no))
theorem dX12_some_0 : decode cX12_some 0 = .ok (.aload_n 0, 1) := by decide +kernel
theorem dX12_some_1 : decode cX12_some 1 = .ok (.invokevirtual 104, 3) := by decide +kernel
theorem dX12_some_4 : decode cX12_some 4 = .ok (.aload_n 0, 1) := by decide +kernel
theorem dX12_some_5 : decode cX12_some 5 = .ok (.getfield 57, 3) := by decide +kernel
theorem dX12_some_8 : decode cX12_some 8 = .ok (.ifCond .ne 35, 3) := by decide +kernel
theorem dX12_some_11 : decode cX12_some 11 = .ok (.aload_n 0, 1) := by decide +kernel
theorem dX12_some_12 : decode cX12_some 12 = .ok (.invokevirtual 61, 3) := by decide +kernel
theorem dX12_some_15 : decode cX12_some 15 = .ok (.bipush 124, 2) := by decide +kernel
theorem dX12_some_17 : decode cX12_some 17 = .ok (.if_icmp .ne 26, 3) := by decide +kernel
theorem dX12_some_20 : decode cX12_some 20 = .ok (.aload_n 0, 1) := by decide +kernel
theorem dX12_some_21 : decode cX12_some 21 = .ok (.dup, 1) := by decide +kernel
theorem dX12_some_22 : decode cX12_some 22 = .ok (.getfield 51, 3) := by decide +kernel
theorem dX12_some_25 : decode cX12_some 25 = .ok (.iconst 1, 1) := by decide +kernel
theorem dX12_some_26 : decode cX12_some 26 = .ok (.iadd, 1) := by decide +kernel
theorem dX12_some_27 : decode cX12_some 27 = .ok (.putfield 51, 3) := by decide +kernel
theorem dX12_some_30 : decode cX12_some 30 = .ok (.aload_n 0, 1) := by decide +kernel
theorem dX12_some_31 : decode cX12_some 31 = .ok (.invokevirtual 104, 3) := by decide +kernel
theorem dX12_some_34 : decode cX12_some 34 = .ok (.aload_n 0, 1) := by decide +kernel
theorem dX12_some_35 : decode cX12_some 35 = .ok (.bipush (-3), 2) := by decide +kernel
theorem dX12_some_37 : decode cX12_some 37 = .ok (.invokevirtual 87, 3) := by decide +kernel
theorem dX12_some_40 : decode cX12_some 40 = .ok (.goto (-36), 3) := by decide +kernel
theorem dX12_some_43 : decode cX12_some 43 = .ok (.return_, 1) := by decide +kernel
def zb_X12_some_43 (F : Nat → zj_F) (E : zj_E) (st : List Value) (m : zj_M) : zj_R := (zi_ret none) E st m
set_option maxRecDepth 20000 in
theorem zs_X12_some_43 {F : Nat → zj_F} {dn : Nat} (hF0 : zj_MS (14 + dn) yX12_factor cX12_factor 5 none (F 0)) (hF1 : zj_MS (14 + dn) yX12_every cX12_every 1 none (F 1)) (hF2 : zj_MS (14 + dn) yX12_some cX12_some 1 none (F 2)) : zj_KC cX12_some RX12 1 (14 + (dn + 1)) none (0, fun _ => 0) 43 (zb_X12_some_43 F) := (zr_ret dX12_some_43)
def zb_X12_some_4 (F : Nat → zj_F) (r4 : zj_K) (E : zj_E) (st : List Value) (m : zj_M) : zj_R := (zi_ald 0 (zi_gf 12 8 (zi_eq (zi_ald 0 (zi_vc 12 0 zf_X12_here (zi_push (.int 124) (zi_ceq (zi_ald 0 (zi_dup (zi_gf 12 6 (zi_push (.int 1) (zi_b (fun x y => x + y) (zi_pf 12 6 (zi_ald 0 (zi_vc 12 0 (F 1) (zi_ald 0 (zi_push (.int (-3)) (zi_vc 12 1 zf_X12_emits r4 zi_no))) zi_no)))))))) (zb_X12_some_43 F))) zi_no)) (zb_X12_some_43 F)))) E st m
set_option maxRecDepth 20000 in
theorem zs_X12_some_4 {F : Nat → zj_F} {dn : Nat} (hF0 : zj_MS (14 + dn) yX12_factor cX12_factor 5 none (F 0)) (hF1 : zj_MS (14 + dn) yX12_every cX12_every 1 none (F 1)) (hF2 : zj_MS (14 + dn) yX12_some cX12_some 1 none (F 2)) {r4 : zj_K} (h4 : zj_KC cX12_some RX12 1 (14 + (dn + 1)) none (0, fun _ => 0) 4 r4) : zj_KC cX12_some RX12 1 (14 + (dn + 1)) none (0, fun _ => 0) 4 (zb_X12_some_4 F r4) := (zr_aldn dX12_some_4 rfl (zr_gf dX12_some_5 zfl_X12_57_12 (zr_ifne dX12_some_8 (tgt := 43) (by decide) (zs_X12_some_43 hF0 hF1 hF2) (zr_aldn dX12_some_11 rfl (zr_callV dX12_some_12 zm_X12_here ⟨⟨zq_1066, zq_77⟩, by decide +kernel, by omega, by decide⟩ rfl rfl zq_1063 zq_1065 zq_21 (zr_bipush dX12_some_15 rfl (zr_icne dX12_some_17 (tgt := 43) (by decide) (zs_X12_some_43 hF0 hF1 hF2) (zr_aldn dX12_some_20 rfl (zr_dup dX12_some_21 (zr_gf dX12_some_22 zfl_X12_51_12 (zr_iconst dX12_some_25 rfl (zr_iadd dX12_some_26 (zr_pf dX12_some_27 zfl_X12_51_12w (zr_aldn dX12_some_30 rfl (zr_callV dX12_some_31 hF1 ⟨⟨zq_1098, zq_77⟩, by decide +kernel, by omega, by decide⟩ rfl rfl zq_1095 zq_1097 zq_28 (zr_aldn dX12_some_34 rfl (zr_bipush dX12_some_35 rfl (zr_callV dX12_some_37 zm_X12_emits ⟨⟨zq_1106, zq_77⟩, by decide +kernel, by omega, by decide⟩ rfl rfl zq_1103 zq_1105 zq_30 (zr_goto dX12_some_40 (tgt := 4) (by decide) h4) zr_no))) zr_no)))))))))) zr_no)))))
def zb_X12_some_0 (F : Nat → zj_F) (E : zj_E) (st : List Value) (m : zj_M) : zj_R := (zi_ald 0 (zi_vc 12 0 (F 1) (zj_lp (zb_X12_some_4 F) zj_fu) zi_no)) E st m
set_option maxRecDepth 20000 in
theorem zs_X12_some_0 {F : Nat → zj_F} {dn : Nat} (hF0 : zj_MS (14 + dn) yX12_factor cX12_factor 5 none (F 0)) (hF1 : zj_MS (14 + dn) yX12_every cX12_every 1 none (F 1)) (hF2 : zj_MS (14 + dn) yX12_some cX12_some 1 none (F 2)) : zj_KC cX12_some RX12 1 (14 + (dn + 1)) none (0, fun _ => 0) 0 (zb_X12_some_0 F) := (zr_aldn dX12_some_0 rfl (zr_callV dX12_some_1 hF1 ⟨⟨zq_1098, zq_77⟩, by decide +kernel, by omega, by decide⟩ rfl rfl zq_1095 zq_1097 zq_28 (zr_lp (fun _ h => zs_X12_some_4 hF0 hF1 hF2 h) zj_fu) zr_no))
def zg_X12_factor : (Nat → zj_F) → Nat → zj_F := fun F i => if i = 0 then zj_run 5 (zb_X12_factor_0 F) else if i = 1 then zj_run 1 (zb_X12_every_0 F) else if i = 2 then zj_run 1 (zb_X12_some_0 F) else fun _ _ => none
theorem zg_X12_factor_ms : ∀ dn : Nat, zj_MS (14 + dn) yX12_factor cX12_factor 5 none (zj_rec zg_X12_factor dn 0) ∧ zj_MS (14 + dn) yX12_every cX12_every 1 none (zj_rec zg_X12_factor dn 1) ∧ zj_MS (14 + dn) yX12_some cX12_some 1 none (zj_rec zg_X12_factor dn 2)
  | 0 => ⟨(fun _ _ _ _ _ _ h => by cases h), (fun _ _ _ _ _ _ h => by cases h), (fun _ _ _ _ _ _ h => by cases h)⟩
  | dn + 1 => by
    obtain ⟨hF0, hF1, hF2⟩ := zg_X12_factor_ms dn
    exact ⟨zj_met (own := RX12) rfl (by decide +kernel) (Or.inl rfl) (zs_X12_factor_0 hF0 hF1 hF2), zj_met (own := RX12) rfl (by decide +kernel) (Or.inl rfl) (zs_X12_every_0 hF0 hF1 hF2), zj_met (own := RX12) rfl (by decide +kernel) (Or.inl rfl) (zs_X12_some_0 hF0 hF1 hF2)⟩
def zf_X12_factor : zj_F := zj_rec zg_X12_factor 40 0
theorem zm_X12_factor : zj_MS 54 yX12_factor cX12_factor 5 none zf_X12_factor := (zg_X12_factor_ms 40).1
def zf_X12_every : zj_F := zj_rec zg_X12_factor 40 1
theorem zm_X12_every : zj_MS 54 yX12_every cX12_every 1 none zf_X12_every := (zg_X12_factor_ms 40).2.1
def zf_X12_some : zj_F := zj_rec zg_X12_factor 40 2
theorem zm_X12_some : zj_MS 54 yX12_some cX12_some 1 none zf_X12_some := (zg_X12_factor_ms 40).2.2
theorem dX12_much_0 : decode cX12_much 0 = .ok (.aload_n 0, 1) := by decide +kernel
theorem dX12_much_1 : decode cX12_much 1 = .ok (.aload_n 2, 1) := by decide +kernel
theorem dX12_much_2 : decode cX12_much 2 = .ok (.invokevirtual 107, 3) := by decide +kernel
theorem dX12_much_5 : decode cX12_much 5 = .ok (.aload_n 0, 1) := by decide +kernel
theorem dX12_much_6 : decode cX12_much 6 = .ok (.invokevirtual 101, 3) := by decide +kernel
theorem dX12_much_9 : decode cX12_much 9 = .ok (.istore_n 3, 1) := by decide +kernel
theorem dX12_much_10 : decode cX12_much 10 = .ok (.aload_n 0, 1) := by decide +kernel
theorem dX12_much_11 : decode cX12_much 11 = .ok (.bipush 32, 2) := by decide +kernel
theorem dX12_much_13 : decode cX12_much 13 = .ok (.invokevirtual 74, 3) := by decide +kernel
theorem dX12_much_16 : decode cX12_much 16 = .ok (.aload_n 0, 1) := by decide +kernel
theorem dX12_much_17 : decode cX12_much 17 = .ok (.invokevirtual 90, 3) := by decide +kernel
theorem dX12_much_20 : decode cX12_much 20 = .ok (.aload_n 0, 1) := by decide +kernel
theorem dX12_much_21 : decode cX12_much 21 = .ok (.iload_n 1, 1) := by decide +kernel
theorem dX12_much_22 : decode cX12_much 22 = .ok (.iload_n 3, 1) := by decide +kernel
theorem dX12_much_23 : decode cX12_much 23 = .ok (.isub, 1) := by decide +kernel
theorem dX12_much_24 : decode cX12_much 24 = .ok (.invokevirtual 87, 3) := by decide +kernel
theorem dX12_much_27 : decode cX12_much 27 = .ok (.return_, 1) := by decide +kernel
def zb_X12_much_0 (E : zj_E) (st : List Value) (m : zj_M) : zj_R := (zi_ald 0 (zi_ald 2 (zi_vc 12 1 zf_X12_spells (zi_ald 0 (zi_vc 12 0 zf_X12_figures (zi_ist 3 (zi_ald 0 (zi_push (.int 32) (zi_vc 12 1 zf_X12_must (zi_ald 0 (zi_vc 12 0 zf_X12_some (zi_ald 0 (zi_ild 1 (zi_ild 3 (zi_b (fun x y => x - y) (zi_vc 12 1 zf_X12_emits (zi_ret none) zi_no))))) zi_no)) zi_no)))) zi_no)) zi_no))) E st m
set_option maxRecDepth 20000 in
theorem zs_X12_much_0 : zj_KC cX12_much RX12 4 (55) none (0, fun _ => 0) 0 (zb_X12_much_0) := (zr_aldn dX12_much_0 rfl (zr_aldn dX12_much_1 rfl (zr_callV dX12_much_2 zm_X12_spells ⟨⟨zq_1075, zq_77⟩, by decide +kernel, by omega, by decide⟩ rfl rfl zq_1072 zq_1074 zq_23 (zr_aldn dX12_much_5 rfl (zr_callV dX12_much_6 zm_X12_figures ⟨⟨zq_1085, zq_77⟩, by decide +kernel, by omega, by decide⟩ rfl rfl zq_1082 zq_1084 zq_25 (zr_istn dX12_much_9 rfl (zr_aldn dX12_much_10 rfl (zr_bipush dX12_much_11 rfl (zr_callV dX12_much_13 zm_X12_must ⟨⟨zq_1081, zq_77⟩, by decide +kernel, by omega, by decide⟩ rfl rfl zq_1078 zq_1080 zq_24 (zr_aldn dX12_much_16 rfl (zr_callV dX12_much_17 zm_X12_some ⟨⟨zq_1094, zq_77⟩, by decide +kernel, by omega, by decide⟩ rfl rfl zq_1091 zq_1093 zq_27 (zr_aldn dX12_much_20 rfl (zr_ildn dX12_much_21 rfl (zr_ildn dX12_much_22 rfl (zr_isub dX12_much_23 (zr_callV dX12_much_24 zm_X12_emits ⟨⟨zq_1106, zq_77⟩, by decide +kernel, by omega, by decide⟩ rfl rfl zq_1103 zq_1105 zq_30 (zr_ret dX12_much_27) zr_no))))) zr_no)) zr_no)))) zr_no)) zr_no)))
def zf_X12_much : zj_F := zj_run 4 zb_X12_much_0
theorem zm_X12_much : zj_MS 55 yX12_much cX12_much 4 none zf_X12_much := zj_met (own := RX12) rfl (by decide +kernel) (Or.inl rfl) (zs_X12_much_0)
theorem dX12_tellsHere_0 : decode cX12_tellsHere 0 = .ok (.aload_n 0, 1) := by decide +kernel
theorem dX12_tellsHere_1 : decode cX12_tellsHere 1 = .ok (.aload_n 2, 1) := by decide +kernel
theorem dX12_tellsHere_2 : decode cX12_tellsHere 2 = .ok (.invokevirtual 107, 3) := by decide +kernel
theorem dX12_tellsHere_5 : decode cX12_tellsHere 5 = .ok (.aload_n 0, 1) := by decide +kernel
theorem dX12_tellsHere_6 : decode cX12_tellsHere 6 = .ok (.invokevirtual 101, 3) := by decide +kernel
theorem dX12_tellsHere_9 : decode cX12_tellsHere 9 = .ok (.istore_n 3, 1) := by decide +kernel
theorem dX12_tellsHere_10 : decode cX12_tellsHere 10 = .ok (.aload_n 0, 1) := by decide +kernel
theorem dX12_tellsHere_11 : decode cX12_tellsHere 11 = .ok (.getfield 57, 3) := by decide +kernel
theorem dX12_tellsHere_14 : decode cX12_tellsHere 14 = .ok (.ifCond .ne 15, 3) := by decide +kernel
theorem dX12_tellsHere_17 : decode cX12_tellsHere 17 = .ok (.aload_n 0, 1) := by decide +kernel
theorem dX12_tellsHere_18 : decode cX12_tellsHere 18 = .ok (.getfield 9, 3) := by decide +kernel
theorem dX12_tellsHere_21 : decode cX12_tellsHere 21 = .ok (.iload_n 1, 1) := by decide +kernel
theorem dX12_tellsHere_22 : decode cX12_tellsHere 22 = .ok (.aload_n 0, 1) := by decide +kernel
theorem dX12_tellsHere_23 : decode cX12_tellsHere 23 = .ok (.getfield 78, 3) := by decide +kernel
theorem dX12_tellsHere_26 : decode cX12_tellsHere 26 = .ok (.iadd, 1) := by decide +kernel
theorem dX12_tellsHere_27 : decode cX12_tellsHere 27 = .ok (.iload_n 3, 1) := by decide +kernel
theorem dX12_tellsHere_28 : decode cX12_tellsHere 28 = .ok (.iastore, 1) := by decide +kernel
theorem dX12_tellsHere_29 : decode cX12_tellsHere 29 = .ok (.return_, 1) := by decide +kernel
def zb_X12_tellsHere_29 (E : zj_E) (st : List Value) (m : zj_M) : zj_R := (zi_ret none) E st m
set_option maxRecDepth 20000 in
theorem zs_X12_tellsHere_29 : zj_KC cX12_tellsHere RX12 4 (14) none (0, fun _ => 0) 29 (zb_X12_tellsHere_29) := (zr_ret dX12_tellsHere_29)
def zb_X12_tellsHere_0 (E : zj_E) (st : List Value) (m : zj_M) : zj_R := (zi_ald 0 (zi_ald 2 (zi_vc 12 1 zf_X12_spells (zi_ald 0 (zi_vc 12 0 zf_X12_figures (zi_ist 3 (zi_ald 0 (zi_gf 12 8 (zi_eq (zi_ald 0 (zi_gf 12 1 (zi_ild 1 (zi_ald 0 (zi_gf 12 5 (zi_b (fun x y => x + y) (zi_ild 3 (zi_iast zb_X12_tellsHere_29)))))))) zb_X12_tellsHere_29)))) zi_no)) zi_no))) E st m
set_option maxRecDepth 20000 in
theorem zs_X12_tellsHere_0 : zj_KC cX12_tellsHere RX12 4 (14) none (0, fun _ => 0) 0 (zb_X12_tellsHere_0) := (zr_aldn dX12_tellsHere_0 rfl (zr_aldn dX12_tellsHere_1 rfl (zr_callV dX12_tellsHere_2 zm_X12_spells ⟨⟨zq_1075, zq_77⟩, by decide +kernel, by omega, by decide⟩ rfl rfl zq_1072 zq_1074 zq_23 (zr_aldn dX12_tellsHere_5 rfl (zr_callV dX12_tellsHere_6 zm_X12_figures ⟨⟨zq_1085, zq_77⟩, by decide +kernel, by omega, by decide⟩ rfl rfl zq_1082 zq_1084 zq_25 (zr_istn dX12_tellsHere_9 rfl (zr_aldn dX12_tellsHere_10 rfl (zr_gf dX12_tellsHere_11 zfl_X12_57_12 (zr_ifne dX12_tellsHere_14 (tgt := 29) (by decide) (zs_X12_tellsHere_29) (zr_aldn dX12_tellsHere_17 rfl (zr_gf dX12_tellsHere_18 zfl_X12_9_12 (zr_ildn dX12_tellsHere_21 rfl (zr_aldn dX12_tellsHere_22 rfl (zr_gf dX12_tellsHere_23 zfl_X12_78_12 (zr_iadd dX12_tellsHere_26 (zr_ildn dX12_tellsHere_27 rfl (zr_iast dX12_tellsHere_28 (zs_X12_tellsHere_29))))))))))))) zr_no)) zr_no)))
def zf_X12_tellsHere : zj_F := zj_run 4 zb_X12_tellsHere_0
theorem zm_X12_tellsHere : zj_MS 14 yX12_tellsHere cX12_tellsHere 4 none zf_X12_tellsHere := zj_met (own := RX12) rfl (by decide +kernel) (Or.inl rfl) (zs_X12_tellsHere_0)
