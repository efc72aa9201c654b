theorem dX12_figure_0 : decode cX12_figure 0 = .ok (.iconst 0, 1) := by decide +kernel
theorem dX12_figure_1 : decode cX12_figure 1 = .ok (.istore_n 2, 1) := by decide +kernel
theorem dX12_figure_2 : decode cX12_figure 2 = .ok (.iconst 0, 1) := by decide +kernel
theorem dX12_figure_3 : decode cX12_figure 3 = .ok (.istore_n 3, 1) := by decide +kernel
theorem dX12_figure_4 : decode cX12_figure 4 = .ok (.iload_n 3, 1) := by decide +kernel
theorem dX12_figure_5 : decode cX12_figure 5 = .ok (.bipush 16, 2) := by decide +kernel
theorem dX12_figure_7 : decode cX12_figure 7 = .ok (.if_icmp .ge 72, 3) := by decide +kernel
theorem dX12_figure_10 : decode cX12_figure 10 = .ok (.iconst 0, 1) := by decide +kernel
theorem dX12_figure_11 : decode cX12_figure 11 = .ok (.istore 4, 2) := by decide +kernel
theorem dX12_figure_13 : decode cX12_figure 13 = .ok (.iconst 0, 1) := by decide +kernel
theorem dX12_figure_14 : decode cX12_figure 14 = .ok (.istore 5, 2) := by decide +kernel
theorem dX12_figure_16 : decode cX12_figure 16 = .ok (.iload 5, 2) := by decide +kernel
theorem dX12_figure_18 : decode cX12_figure 18 = .ok (.iconst 4, 1) := by decide +kernel
theorem dX12_figure_19 : decode cX12_figure 19 = .ok (.if_icmp .ge 29, 3) := by decide +kernel
theorem dX12_figure_22 : decode cX12_figure 22 = .ok (.iload 4, 2) := by decide +kernel
theorem dX12_figure_24 : decode cX12_figure 24 = .ok (.aload_n 0, 1) := by decide +kernel
theorem dX12_figure_25 : decode cX12_figure 25 = .ok (.iload 5, 2) := by decide +kernel
theorem dX12_figure_27 : decode cX12_figure 27 = .ok (.iload_n 3, 1) := by decide +kernel
theorem dX12_figure_28 : decode cX12_figure 28 = .ok (.invokevirtual 138, 3) := by decide +kernel
theorem dX12_figure_31 : decode cX12_figure 31 = .ok (.ifCond .eq 7, 3) := by decide +kernel
theorem dX12_figure_34 : decode cX12_figure 34 = .ok (.iconst 1, 1) := by decide +kernel
theorem dX12_figure_35 : decode cX12_figure 35 = .ok (.goto 4, 3) := by decide +kernel
theorem dX12_figure_38 : decode cX12_figure 38 = .ok (.iconst 0, 1) := by decide +kernel
theorem dX12_figure_39 : decode cX12_figure 39 = .ok (.iadd, 1) := by decide +kernel
theorem dX12_figure_40 : decode cX12_figure 40 = .ok (.istore 4, 2) := by decide +kernel
theorem dX12_figure_42 : decode cX12_figure 42 = .ok (.iinc 5 1, 3) := by decide +kernel
theorem dX12_figure_45 : decode cX12_figure 45 = .ok (.goto (-29), 3) := by decide +kernel
theorem dX12_figure_48 : decode cX12_figure 48 = .ok (.iload_n 2, 1) := by decide +kernel
theorem dX12_figure_49 : decode cX12_figure 49 = .ok (.iload 4, 2) := by decide +kernel
theorem dX12_figure_51 : decode cX12_figure 51 = .ok (.iconst 1, 1) := by decide +kernel
theorem dX12_figure_52 : decode cX12_figure 52 = .ok (.if_icmp .eq 12, 3) := by decide +kernel
theorem dX12_figure_55 : decode cX12_figure 55 = .ok (.iload 4, 2) := by decide +kernel
theorem dX12_figure_57 : decode cX12_figure 57 = .ok (.ifCond .le 13, 3) := by decide +kernel
theorem dX12_figure_60 : decode cX12_figure 60 = .ok (.iload_n 1, 1) := by decide +kernel
theorem dX12_figure_61 : decode cX12_figure 61 = .ok (.ifCond .ne 9, 3) := by decide +kernel
theorem dX12_figure_64 : decode cX12_figure 64 = .ok (.iconst 1, 1) := by decide +kernel
theorem dX12_figure_65 : decode cX12_figure 65 = .ok (.iload_n 3, 1) := by decide +kernel
theorem dX12_figure_66 : decode cX12_figure 66 = .ok (.ishl, 1) := by decide +kernel
theorem dX12_figure_67 : decode cX12_figure 67 = .ok (.goto 4, 3) := by decide +kernel
theorem dX12_figure_70 : decode cX12_figure 70 = .ok (.iconst 0, 1) := by decide +kernel
theorem dX12_figure_71 : decode cX12_figure 71 = .ok (.ior, 1) := by decide +kernel
theorem dX12_figure_72 : decode cX12_figure 72 = .ok (.istore_n 2, 1) := by decide +kernel
theorem dX12_figure_73 : decode cX12_figure 73 = .ok (.iinc 3 1, 3) := by decide +kernel
theorem dX12_figure_76 : decode cX12_figure 76 = .ok (.goto (-72), 3) := by decide +kernel
theorem dX12_figure_79 : decode cX12_figure 79 = .ok (.iload_n 2, 1) := by decide +kernel
theorem dX12_figure_80 : decode cX12_figure 80 = .ok (.ireturn, 1) := by decide +kernel
def zb_X12_figure_71 (r4 : zj_K) (E : zj_E) (st : List Value) (m : zj_M) : zj_R := (zi_b (fun x y => x ||| y) (zi_ist 2 (zi_inc 3 1 r4))) E st m
set_option maxRecDepth 20000 in
theorem zs_X12_figure_71 {r4 : zj_K} (h4 : zj_KC cX12_figure RX12 6 (1) (some .int) (0, fun _ => 0) 4 r4) : zj_KC cX12_figure RX12 6 (1) (some .int) (0, fun _ => 0) 71 (zb_X12_figure_71 r4) := (zr_ior dX12_figure_71 (zr_istn dX12_figure_72 rfl (zr_inc dX12_figure_73 rfl (zr_goto dX12_figure_76 (tgt := 4) (by decide) h4))))
def zb_X12_figure_64 (r4 : zj_K) (E : zj_E) (st : List Value) (m : zj_M) : zj_R := (zi_push (.int 1) (zi_ild 3 (zi_b (fun x y => x <<< (y &&& 31)) (zb_X12_figure_71 r4)))) E st m
set_option maxRecDepth 20000 in
theorem zs_X12_figure_64 {r4 : zj_K} (h4 : zj_KC cX12_figure RX12 6 (1) (some .int) (0, fun _ => 0) 4 r4) : zj_KC cX12_figure RX12 6 (1) (some .int) (0, fun _ => 0) 64 (zb_X12_figure_64 r4) := (zr_iconst dX12_figure_64 rfl (zr_ildn dX12_figure_65 rfl (zr_ishl dX12_figure_66 (zr_goto dX12_figure_67 (tgt := 71) (by decide) (zs_X12_figure_71 h4)))))
def zb_X12_figure_70 (r4 : zj_K) (E : zj_E) (st : List Value) (m : zj_M) : zj_R := (zi_push (.int 0) (zb_X12_figure_71 r4)) E st m
set_option maxRecDepth 20000 in
theorem zs_X12_figure_70 {r4 : zj_K} (h4 : zj_KC cX12_figure RX12 6 (1) (some .int) (0, fun _ => 0) 4 r4) : zj_KC cX12_figure RX12 6 (1) (some .int) (0, fun _ => 0) 70 (zb_X12_figure_70 r4) := (zr_iconst dX12_figure_70 rfl (zs_X12_figure_71 h4))
def zb_X12_figure_39 (r4 : zj_K) (r16 : zj_K) (E : zj_E) (st : List Value) (m : zj_M) : zj_R := (zi_b (fun x y => x + y) (zi_ist 4 (zi_inc 5 1 r16))) E st m
set_option maxRecDepth 20000 in
theorem zs_X12_figure_39 {r4 : zj_K} (h4 : zj_KC cX12_figure RX12 6 (1) (some .int) (0, fun _ => 0) 4 r4) {r16 : zj_K} (h16 : zj_KC cX12_figure RX12 6 (1) (some .int) (0, fun _ => 0) 16 r16) : zj_KC cX12_figure RX12 6 (1) (some .int) (0, fun _ => 0) 39 (zb_X12_figure_39 r4 r16) := (zr_iadd dX12_figure_39 (zr_ist dX12_figure_40 (zr_inc dX12_figure_42 rfl (zr_goto dX12_figure_45 (tgt := 16) (by decide) h16))))
def zb_X12_figure_16 (r4 : zj_K) (r16 : zj_K) (E : zj_E) (st : List Value) (m : zj_M) : zj_R := (zi_ild 5 (zi_push (.int 4) (zi_clt (zi_ild 4 (zi_ald 0 (zi_ild 5 (zi_ild 3 (zi_vc 12 2 zf_X12_isOn (zi_eq (zi_push (.int 0) (zb_X12_figure_39 r4 r16)) (zi_push (.int 1) (zb_X12_figure_39 r4 r16))) zi_no))))) (zi_ild 2 (zi_ild 4 (zi_push (.int 1) (zi_ceq (zb_X12_figure_64 r4) (zi_ild 4 (zi_le (zb_X12_figure_70 r4) (zi_ild 1 (zi_eq (zb_X12_figure_64 r4) (zb_X12_figure_70 r4)))))))))))) E st m
set_option maxRecDepth 20000 in
theorem zs_X12_figure_16 {r4 : zj_K} (h4 : zj_KC cX12_figure RX12 6 (1) (some .int) (0, fun _ => 0) 4 r4) {r16 : zj_K} (h16 : zj_KC cX12_figure RX12 6 (1) (some .int) (0, fun _ => 0) 16 r16) : zj_KC cX12_figure RX12 6 (1) (some .int) (0, fun _ => 0) 16 (zb_X12_figure_16 r4 r16) := (zr_ild dX12_figure_16 (zr_iconst dX12_figure_18 rfl (zr_icge dX12_figure_19 (tgt := 48) (by decide) (zr_ildn dX12_figure_48 rfl (zr_ild dX12_figure_49 (zr_iconst dX12_figure_51 rfl (zr_iceq dX12_figure_52 (tgt := 64) (by decide) (zs_X12_figure_64 h4) (zr_ild dX12_figure_55 (zr_ifle dX12_figure_57 (tgt := 70) (by decide) (zs_X12_figure_70 h4) (zr_ildn dX12_figure_60 rfl (zr_ifne dX12_figure_61 (tgt := 70) (by decide) (zs_X12_figure_70 h4) (zs_X12_figure_64 h4))))))))) (zr_ild dX12_figure_22 (zr_aldn dX12_figure_24 rfl (zr_ild dX12_figure_25 (zr_ildn dX12_figure_27 rfl (zr_callV dX12_figure_28 zm_X12_isOn ⟨⟨zq_1153, zq_77⟩, by decide +kernel, by omega, by decide⟩ rfl rfl zq_1150 zq_1152 zq_35 (zr_ifeq dX12_figure_31 (tgt := 38) (by decide) (zr_iconst dX12_figure_38 rfl (zs_X12_figure_39 h4 h16)) (zr_iconst dX12_figure_34 rfl (zr_goto dX12_figure_35 (tgt := 39) (by decide) (zs_X12_figure_39 h4 h16)))) zr_no))))))))
def zb_X12_figure_4 (r4 : zj_K) (E : zj_E) (st : List Value) (m : zj_M) : zj_R := (zi_ild 3 (zi_push (.int 16) (zi_clt (zi_push (.int 0) (zi_ist 4 (zi_push (.int 0) (zi_ist 5 (zj_lp (zb_X12_figure_16 r4) zj_fu))))) (zi_ild 2 (zi_ret (some .int)))))) E st m
set_option maxRecDepth 20000 in
theorem zs_X12_figure_4 {r4 : zj_K} (h4 : zj_KC cX12_figure RX12 6 (1) (some .int) (0, fun _ => 0) 4 r4) : zj_KC cX12_figure RX12 6 (1) (some .int) (0, fun _ => 0) 4 (zb_X12_figure_4 r4) := (zr_ildn dX12_figure_4 rfl (zr_bipush dX12_figure_5 rfl (zr_icge dX12_figure_7 (tgt := 79) (by decide) (zr_ildn dX12_figure_79 rfl (zr_ret dX12_figure_80)) (zr_iconst dX12_figure_10 rfl (zr_ist dX12_figure_11 (zr_iconst dX12_figure_13 rfl (zr_ist dX12_figure_14 (zr_lp (fun _ h => zs_X12_figure_16 h4 h) zj_fu))))))))
def zb_X12_figure_0 (E : zj_E) (st : List Value) (m : zj_M) : zj_R := (zi_push (.int 0) (zi_ist 2 (zi_push (.int 0) (zi_ist 3 (zj_lp (zb_X12_figure_4) zj_fu))))) E st m
set_option maxRecDepth 20000 in
theorem zs_X12_figure_0 : zj_KC cX12_figure RX12 6 (1) (some .int) (0, fun _ => 0) 0 (zb_X12_figure_0) := (zr_iconst dX12_figure_0 rfl (zr_istn dX12_figure_1 rfl (zr_iconst dX12_figure_2 rfl (zr_istn dX12_figure_3 rfl (zr_lp (fun _ h => zs_X12_figure_4 h) zj_fu)))))
def zf_X12_figure : zj_F := zj_run 6 zb_X12_figure_0
theorem zm_X12_figure : zj_MS 1 yX12_figure cX12_figure 6 (some .int) zf_X12_figure := zj_met (own := RX12) rfl (by decide +kernel) (Or.inr (Or.inl rfl)) (zs_X12_figure_0)
theorem dX12_leastMood_0 : decode cX12_leastMood 0 = .ok (.iconst 0, 1) := by decide +kernel
theorem dX12_leastMood_1 : decode cX12_leastMood 1 = .ok (.istore_n 3, 1) := by decide +kernel
theorem dX12_leastMood_2 : decode cX12_leastMood 2 = .ok (.iload_n 3, 1) := by decide +kernel
theorem dX12_leastMood_3 : decode cX12_leastMood 3 = .ok (.iconst 4, 1) := by decide +kernel
theorem dX12_leastMood_4 : decode cX12_leastMood 4 = .ok (.if_icmp .ge 20, 3) := by decide +kernel
theorem dX12_leastMood_7 : decode cX12_leastMood 7 = .ok (.aload_n 0, 1) := by decide +kernel
theorem dX12_leastMood_8 : decode cX12_leastMood 8 = .ok (.iload_n 3, 1) := by decide +kernel
theorem dX12_leastMood_9 : decode cX12_leastMood 9 = .ok (.iload_n 1, 1) := by decide +kernel
theorem dX12_leastMood_10 : decode cX12_leastMood 10 = .ok (.invokevirtual 138, 3) := by decide +kernel
theorem dX12_leastMood_13 : decode cX12_leastMood 13 = .ok (.ifCond .eq 5, 3) := by decide +kernel
theorem dX12_leastMood_16 : decode cX12_leastMood 16 = .ok (.iload_n 3, 1) := by decide +kernel
theorem dX12_leastMood_17 : decode cX12_leastMood 17 = .ok (.ireturn, 1) := by decide +kernel
theorem dX12_leastMood_18 : decode cX12_leastMood 18 = .ok (.iinc 3 1, 3) := by decide +kernel
theorem dX12_leastMood_21 : decode cX12_leastMood 21 = .ok (.goto (-19), 3) := by decide +kernel
theorem dX12_leastMood_24 : decode cX12_leastMood 24 = .ok (.iload_n 2, 1) := by decide +kernel
theorem dX12_leastMood_25 : decode cX12_leastMood 25 = .ok (.ireturn, 1) := by decide +kernel
def zb_X12_leastMood_2 (r2 : zj_K) (E : zj_E) (st : List Value) (m : zj_M) : zj_R := (zi_ild 3 (zi_push (.int 4) (zi_clt (zi_ald 0 (zi_ild 3 (zi_ild 1 (zi_vc 12 2 zf_X12_isOn (zi_eq (zi_inc 3 1 r2) (zi_ild 3 (zi_ret (some .int)))) zi_no)))) (zi_ild 2 (zi_ret (some .int)))))) E st m
set_option maxRecDepth 20000 in
theorem zs_X12_leastMood_2 {r2 : zj_K} (h2 : zj_KC cX12_leastMood RX12 4 (1) (some .int) (0, fun _ => 0) 2 r2) : zj_KC cX12_leastMood RX12 4 (1) (some .int) (0, fun _ => 0) 2 (zb_X12_leastMood_2 r2) := (zr_ildn dX12_leastMood_2 rfl (zr_iconst dX12_leastMood_3 rfl (zr_icge dX12_leastMood_4 (tgt := 24) (by decide) (zr_ildn dX12_leastMood_24 rfl (zr_ret dX12_leastMood_25)) (zr_aldn dX12_leastMood_7 rfl (zr_ildn dX12_leastMood_8 rfl (zr_ildn dX12_leastMood_9 rfl (zr_callV dX12_leastMood_10 zm_X12_isOn ⟨⟨zq_1153, zq_77⟩, by decide +kernel, by omega, by decide⟩ rfl rfl zq_1150 zq_1152 zq_35 (zr_ifeq dX12_leastMood_13 (tgt := 18) (by decide) (zr_inc dX12_leastMood_18 rfl (zr_goto dX12_leastMood_21 (tgt := 2) (by decide) h2)) (zr_ildn dX12_leastMood_16 rfl (zr_ret dX12_leastMood_17))) zr_no)))))))
def zb_X12_leastMood_0 (E : zj_E) (st : List Value) (m : zj_M) : zj_R := (zi_push (.int 0) (zi_ist 3 (zj_lp (zb_X12_leastMood_2) zj_fu))) E st m
set_option maxRecDepth 20000 in
theorem zs_X12_leastMood_0 : zj_KC cX12_leastMood RX12 4 (1) (some .int) (0, fun _ => 0) 0 (zb_X12_leastMood_0) := (zr_iconst dX12_leastMood_0 rfl (zr_istn dX12_leastMood_1 rfl (zr_lp (fun _ h => zs_X12_leastMood_2 h) zj_fu)))
def zf_X12_leastMood : zj_F := zj_run 4 zb_X12_leastMood_0
theorem zm_X12_leastMood : zj_MS 1 yX12_leastMood cX12_leastMood 4 (some .int) zf_X12_leastMood := zj_met (own := RX12) rfl (by decide +kernel) (Or.inr (Or.inl rfl)) (zs_X12_leastMood_0)
theorem dX12_goes_0 : decode cX12_goes 0 = .ok (.iconst 0, 1) := by decide +kernel
theorem dX12_goes_1 : decode cX12_goes 1 = .ok (.istore_n 1, 1) := by decide +kernel
theorem dX12_goes_2 : decode cX12_goes 2 = .ok (.iload_n 1, 1) := by decide +kernel
theorem dX12_goes_3 : decode cX12_goes 3 = .ok (.aload_n 0, 1) := by decide +kernel
theorem dX12_goes_4 : decode cX12_goes 4 = .ok (.getfield 9, 3) := by decide +kernel
theorem dX12_goes_7 : decode cX12_goes 7 = .ok (.bipush 26, 2) := by decide +kernel
theorem dX12_goes_9 : decode cX12_goes 9 = .ok (.iaload, 1) := by decide +kernel
theorem dX12_goes_10 : decode cX12_goes 10 = .ok (.if_icmp .ge 104, 3) := by decide +kernel
theorem dX12_goes_13 : decode cX12_goes 13 = .ok (.aload_n 0, 1) := by decide +kernel
theorem dX12_goes_14 : decode cX12_goes 14 = .ok (.getfield 9, 3) := by decide +kernel
theorem dX12_goes_17 : decode cX12_goes 17 = .ok (.bipush 14, 2) := by decide +kernel
theorem dX12_goes_19 : decode cX12_goes 19 = .ok (.iload_n 1, 1) := by decide +kernel
theorem dX12_goes_20 : decode cX12_goes 20 = .ok (.iadd, 1) := by decide +kernel
theorem dX12_goes_21 : decode cX12_goes 21 = .ok (.iaload, 1) := by decide +kernel
theorem dX12_goes_22 : decode cX12_goes 22 = .ok (.ifCond .ne 7, 3) := by decide +kernel
theorem dX12_goes_25 : decode cX12_goes 25 = .ok (.iconst 1, 1) := by decide +kernel
theorem dX12_goes_26 : decode cX12_goes 26 = .ok (.goto 4, 3) := by decide +kernel
theorem dX12_goes_29 : decode cX12_goes 29 = .ok (.iconst 0, 1) := by decide +kernel
theorem dX12_goes_30 : decode cX12_goes 30 = .ok (.istore_n 2, 1) := by decide +kernel
theorem dX12_goes_31 : decode cX12_goes 31 = .ok (.aload_n 0, 1) := by decide +kernel
theorem dX12_goes_32 : decode cX12_goes 32 = .ok (.getfield 34, 3) := by decide +kernel
theorem dX12_goes_35 : decode cX12_goes 35 = .ok (.iload_n 1, 1) := by decide +kernel
theorem dX12_goes_36 : decode cX12_goes 36 = .ok (.iload_n 2, 1) := by decide +kernel
theorem dX12_goes_37 : decode cX12_goes 37 = .ok (.ifCond .eq 23, 3) := by decide +kernel
theorem dX12_goes_40 : decode cX12_goes 40 = .ok (.aload_n 0, 1) := by decide +kernel
theorem dX12_goes_41 : decode cX12_goes 41 = .ok (.getfield 9, 3) := by decide +kernel
theorem dX12_goes_44 : decode cX12_goes 44 = .ok (.iconst 2, 1) := by decide +kernel
theorem dX12_goes_45 : decode cX12_goes 45 = .ok (.iload_n 1, 1) := by decide +kernel
theorem dX12_goes_46 : decode cX12_goes 46 = .ok (.iadd, 1) := by decide +kernel
theorem dX12_goes_47 : decode cX12_goes 47 = .ok (.iaload, 1) := by decide +kernel
theorem dX12_goes_48 : decode cX12_goes 48 = .ok (.aload_n 0, 1) := by decide +kernel
theorem dX12_goes_49 : decode cX12_goes 49 = .ok (.iload_n 1, 1) := by decide +kernel
theorem dX12_goes_50 : decode cX12_goes 50 = .ok (.invokevirtual 173, 3) := by decide +kernel
theorem dX12_goes_53 : decode cX12_goes 53 = .ok (.iadd, 1) := by decide +kernel
theorem dX12_goes_54 : decode cX12_goes 54 = .ok (.bipush 16, 2) := by decide +kernel
theorem dX12_goes_56 : decode cX12_goes 56 = .ok (.irem, 1) := by decide +kernel
theorem dX12_goes_57 : decode cX12_goes 57 = .ok (.goto 11, 3) := by decide +kernel
theorem dX12_goes_60 : decode cX12_goes 60 = .ok (.aload_n 0, 1) := by decide +kernel
theorem dX12_goes_61 : decode cX12_goes 61 = .ok (.getfield 9, 3) := by decide +kernel
theorem dX12_goes_64 : decode cX12_goes 64 = .ok (.iconst 2, 1) := by decide +kernel
theorem dX12_goes_65 : decode cX12_goes 65 = .ok (.iload_n 1, 1) := by decide +kernel
theorem dX12_goes_66 : decode cX12_goes 66 = .ok (.iadd, 1) := by decide +kernel
theorem dX12_goes_67 : decode cX12_goes 67 = .ok (.iaload, 1) := by decide +kernel
theorem dX12_goes_68 : decode cX12_goes 68 = .ok (.iastore, 1) := by decide +kernel
theorem dX12_goes_69 : decode cX12_goes 69 = .ok (.aload_n 0, 1) := by decide +kernel
theorem dX12_goes_70 : decode cX12_goes 70 = .ok (.getfield 37, 3) := by decide +kernel
theorem dX12_goes_73 : decode cX12_goes 73 = .ok (.iload_n 1, 1) := by decide +kernel
theorem dX12_goes_74 : decode cX12_goes 74 = .ok (.iload_n 2, 1) := by decide +kernel
theorem dX12_goes_75 : decode cX12_goes 75 = .ok (.ifCond .eq 23, 3) := by decide +kernel
theorem dX12_goes_78 : decode cX12_goes 78 = .ok (.aload_n 0, 1) := by decide +kernel
theorem dX12_goes_79 : decode cX12_goes 79 = .ok (.getfield 9, 3) := by decide +kernel
theorem dX12_goes_82 : decode cX12_goes 82 = .ok (.bipush 8, 2) := by decide +kernel
theorem dX12_goes_84 : decode cX12_goes 84 = .ok (.iload_n 1, 1) := by decide +kernel
theorem dX12_goes_85 : decode cX12_goes 85 = .ok (.iadd, 1) := by decide +kernel
theorem dX12_goes_86 : decode cX12_goes 86 = .ok (.iaload, 1) := by decide +kernel
theorem dX12_goes_87 : decode cX12_goes 87 = .ok (.aload_n 0, 1) := by decide +kernel
theorem dX12_goes_88 : decode cX12_goes 88 = .ok (.iload_n 1, 1) := by decide +kernel
theorem dX12_goes_89 : decode cX12_goes 89 = .ok (.invokevirtual 170, 3) := by decide +kernel
theorem dX12_goes_92 : decode cX12_goes 92 = .ok (.iadd, 1) := by decide +kernel
theorem dX12_goes_93 : decode cX12_goes 93 = .ok (.iconst 4, 1) := by decide +kernel
theorem dX12_goes_94 : decode cX12_goes 94 = .ok (.irem, 1) := by decide +kernel
theorem dX12_goes_95 : decode cX12_goes 95 = .ok (.goto 12, 3) := by decide +kernel
theorem dX12_goes_98 : decode cX12_goes 98 = .ok (.aload_n 0, 1) := by decide +kernel
theorem dX12_goes_99 : decode cX12_goes 99 = .ok (.getfield 9, 3) := by decide +kernel
theorem dX12_goes_102 : decode cX12_goes 102 = .ok (.bipush 8, 2) := by decide +kernel
theorem dX12_goes_104 : decode cX12_goes 104 = .ok (.iload_n 1, 1) := by decide +kernel
theorem dX12_goes_105 : decode cX12_goes 105 = .ok (.iadd, 1) := by decide +kernel
theorem dX12_goes_106 : decode cX12_goes 106 = .ok (.iaload, 1) := by decide +kernel
theorem dX12_goes_107 : decode cX12_goes 107 = .ok (.iastore, 1) := by decide +kernel
theorem dX12_goes_108 : decode cX12_goes 108 = .ok (.iinc 1 1, 3) := by decide +kernel
theorem dX12_goes_111 : decode cX12_goes 111 = .ok (.goto (-109), 3) := by decide +kernel
theorem dX12_goes_114 : decode cX12_goes 114 = .ok (.iconst 0, 1) := by decide +kernel
theorem dX12_goes_115 : decode cX12_goes 115 = .ok (.istore_n 1, 1) := by decide +kernel
theorem dX12_goes_116 : decode cX12_goes 116 = .ok (.iload_n 1, 1) := by decide +kernel
theorem dX12_goes_117 : decode cX12_goes 117 = .ok (.aload_n 0, 1) := by decide +kernel
theorem dX12_goes_118 : decode cX12_goes 118 = .ok (.getfield 9, 3) := by decide +kernel
theorem dX12_goes_121 : decode cX12_goes 121 = .ok (.bipush 26, 2) := by decide +kernel
theorem dX12_goes_123 : decode cX12_goes 123 = .ok (.iaload, 1) := by decide +kernel
theorem dX12_goes_124 : decode cX12_goes 124 = .ok (.if_icmp .ge 138, 3) := by decide +kernel
theorem dX12_goes_127 : decode cX12_goes 127 = .ok (.aload_n 0, 1) := by decide +kernel
theorem dX12_goes_128 : decode cX12_goes 128 = .ok (.getfield 9, 3) := by decide +kernel
theorem dX12_goes_131 : decode cX12_goes 131 = .ok (.iconst 2, 1) := by decide +kernel
theorem dX12_goes_132 : decode cX12_goes 132 = .ok (.iload_n 1, 1) := by decide +kernel
theorem dX12_goes_133 : decode cX12_goes 133 = .ok (.iadd, 1) := by decide +kernel
theorem dX12_goes_134 : decode cX12_goes 134 = .ok (.aload_n 0, 1) := by decide +kernel
theorem dX12_goes_135 : decode cX12_goes 135 = .ok (.getfield 34, 3) := by decide +kernel
theorem dX12_goes_138 : decode cX12_goes 138 = .ok (.iload_n 1, 1) := by decide +kernel
theorem dX12_goes_139 : decode cX12_goes 139 = .ok (.iaload, 1) := by decide +kernel
theorem dX12_goes_140 : decode cX12_goes 140 = .ok (.iastore, 1) := by decide +kernel
theorem dX12_goes_141 : decode cX12_goes 141 = .ok (.aload_n 0, 1) := by decide +kernel
theorem dX12_goes_142 : decode cX12_goes 142 = .ok (.getfield 9, 3) := by decide +kernel
theorem dX12_goes_145 : decode cX12_goes 145 = .ok (.bipush 8, 2) := by decide +kernel
theorem dX12_goes_147 : decode cX12_goes 147 = .ok (.iload_n 1, 1) := by decide +kernel
theorem dX12_goes_148 : decode cX12_goes 148 = .ok (.iadd, 1) := by decide +kernel
theorem dX12_goes_149 : decode cX12_goes 149 = .ok (.aload_n 0, 1) := by decide +kernel
theorem dX12_goes_150 : decode cX12_goes 150 = .ok (.getfield 37, 3) := by decide +kernel
theorem dX12_goes_153 : decode cX12_goes 153 = .ok (.iload_n 1, 1) := by decide +kernel
theorem dX12_goes_154 : decode cX12_goes 154 = .ok (.iaload, 1) := by decide +kernel
theorem dX12_goes_155 : decode cX12_goes 155 = .ok (.ifCond .ge 14, 3) := by decide +kernel
theorem dX12_goes_158 : decode cX12_goes 158 = .ok (.aload_n 0, 1) := by decide +kernel
theorem dX12_goes_159 : decode cX12_goes 159 = .ok (.getfield 37, 3) := by decide +kernel
theorem dX12_goes_162 : decode cX12_goes 162 = .ok (.iload_n 1, 1) := by decide +kernel
theorem dX12_goes_163 : decode cX12_goes 163 = .ok (.iaload, 1) := by decide +kernel
theorem dX12_goes_164 : decode cX12_goes 164 = .ok (.iconst 4, 1) := by decide +kernel
theorem dX12_goes_165 : decode cX12_goes 165 = .ok (.iadd, 1) := by decide +kernel
theorem dX12_goes_166 : decode cX12_goes 166 = .ok (.goto 9, 3) := by decide +kernel
theorem dX12_goes_169 : decode cX12_goes 169 = .ok (.aload_n 0, 1) := by decide +kernel
theorem dX12_goes_170 : decode cX12_goes 170 = .ok (.getfield 37, 3) := by decide +kernel
theorem dX12_goes_173 : decode cX12_goes 173 = .ok (.iload_n 1, 1) := by decide +kernel
theorem dX12_goes_174 : decode cX12_goes 174 = .ok (.iaload, 1) := by decide +kernel
theorem dX12_goes_175 : decode cX12_goes 175 = .ok (.iastore, 1) := by decide +kernel
theorem dX12_goes_176 : decode cX12_goes 176 = .ok (.aload_n 0, 1) := by decide +kernel
theorem dX12_goes_177 : decode cX12_goes 177 = .ok (.getfield 9, 3) := by decide +kernel
theorem dX12_goes_180 : decode cX12_goes 180 = .ok (.bipush 14, 2) := by decide +kernel
theorem dX12_goes_182 : decode cX12_goes 182 = .ok (.iload_n 1, 1) := by decide +kernel
theorem dX12_goes_183 : decode cX12_goes 183 = .ok (.iadd, 1) := by decide +kernel
theorem dX12_goes_184 : decode cX12_goes 184 = .ok (.iaload, 1) := by decide +kernel
theorem dX12_goes_185 : decode cX12_goes 185 = .ok (.ifCond .ne 71, 3) := by decide +kernel
theorem dX12_goes_188 : decode cX12_goes 188 = .ok (.aload_n 0, 1) := by decide +kernel
theorem dX12_goes_189 : decode cX12_goes 189 = .ok (.iload_n 1, 1) := by decide +kernel
theorem dX12_goes_190 : decode cX12_goes 190 = .ok (.invokevirtual 149, 3) := by decide +kernel
theorem dX12_goes_193 : decode cX12_goes 193 = .ok (.ifCond .eq 63, 3) := by decide +kernel
theorem dX12_goes_196 : decode cX12_goes 196 = .ok (.aload_n 0, 1) := by decide +kernel
theorem dX12_goes_197 : decode cX12_goes 197 = .ok (.getfield 9, 3) := by decide +kernel
theorem dX12_goes_200 : decode cX12_goes 200 = .ok (.iconst 1, 1) := by decide +kernel
theorem dX12_goes_201 : decode cX12_goes 201 = .ok (.iaload, 1) := by decide +kernel
theorem dX12_goes_202 : decode cX12_goes 202 = .ok (.aload_n 0, 1) := by decide +kernel
theorem dX12_goes_203 : decode cX12_goes 203 = .ok (.getfield 34, 3) := by decide +kernel
theorem dX12_goes_206 : decode cX12_goes 206 = .ok (.iload_n 1, 1) := by decide +kernel
theorem dX12_goes_207 : decode cX12_goes 207 = .ok (.iaload, 1) := by decide +kernel
theorem dX12_goes_208 : decode cX12_goes 208 = .ok (.ishr, 1) := by decide +kernel
theorem dX12_goes_209 : decode cX12_goes 209 = .ok (.iconst 1, 1) := by decide +kernel
theorem dX12_goes_210 : decode cX12_goes 210 = .ok (.iand, 1) := by decide +kernel
theorem dX12_goes_211 : decode cX12_goes 211 = .ok (.iconst 1, 1) := by decide +kernel
theorem dX12_goes_212 : decode cX12_goes 212 = .ok (.if_icmp .ne 44, 3) := by decide +kernel
theorem dX12_goes_215 : decode cX12_goes 215 = .ok (.aload_n 0, 1) := by decide +kernel
theorem dX12_goes_216 : decode cX12_goes 216 = .ok (.getfield 9, 3) := by decide +kernel
theorem dX12_goes_219 : decode cX12_goes 219 = .ok (.bipush 20, 2) := by decide +kernel
theorem dX12_goes_221 : decode cX12_goes 221 = .ok (.iload_n 1, 1) := by decide +kernel
theorem dX12_goes_222 : decode cX12_goes 222 = .ok (.iadd, 1) := by decide +kernel
theorem dX12_goes_223 : decode cX12_goes 223 = .ok (.dup2, 1) := by decide +kernel
theorem dX12_goes_224 : decode cX12_goes 224 = .ok (.iaload, 1) := by decide +kernel
theorem dX12_goes_225 : decode cX12_goes 225 = .ok (.iconst 1, 1) := by decide +kernel
theorem dX12_goes_226 : decode cX12_goes 226 = .ok (.iadd, 1) := by decide +kernel
theorem dX12_goes_227 : decode cX12_goes 227 = .ok (.iastore, 1) := by decide +kernel
theorem dX12_goes_228 : decode cX12_goes 228 = .ok (.aload_n 0, 1) := by decide +kernel
theorem dX12_goes_229 : decode cX12_goes 229 = .ok (.getfield 9, 3) := by decide +kernel
theorem dX12_goes_232 : decode cX12_goes 232 = .ok (.bipush 8, 2) := by decide +kernel
theorem dX12_goes_234 : decode cX12_goes 234 = .ok (.iload_n 1, 1) := by decide +kernel
theorem dX12_goes_235 : decode cX12_goes 235 = .ok (.iadd, 1) := by decide +kernel
theorem dX12_goes_236 : decode cX12_goes 236 = .ok (.aload_n 0, 1) := by decide +kernel
theorem dX12_goes_237 : decode cX12_goes 237 = .ok (.aload_n 0, 1) := by decide +kernel
theorem dX12_goes_238 : decode cX12_goes 238 = .ok (.getfield 34, 3) := by decide +kernel
theorem dX12_goes_241 : decode cX12_goes 241 = .ok (.iload_n 1, 1) := by decide +kernel
theorem dX12_goes_242 : decode cX12_goes 242 = .ok (.iaload, 1) := by decide +kernel
theorem dX12_goes_243 : decode cX12_goes 243 = .ok (.aload_n 0, 1) := by decide +kernel
theorem dX12_goes_244 : decode cX12_goes 244 = .ok (.getfield 9, 3) := by decide +kernel
theorem dX12_goes_247 : decode cX12_goes 247 = .ok (.bipush 8, 2) := by decide +kernel
theorem dX12_goes_249 : decode cX12_goes 249 = .ok (.iload_n 1, 1) := by decide +kernel
theorem dX12_goes_250 : decode cX12_goes 250 = .ok (.iadd, 1) := by decide +kernel
theorem dX12_goes_251 : decode cX12_goes 251 = .ok (.iaload, 1) := by decide +kernel
theorem dX12_goes_252 : decode cX12_goes 252 = .ok (.invokevirtual 189, 3) := by decide +kernel
theorem dX12_goes_255 : decode cX12_goes 255 = .ok (.iastore, 1) := by decide +kernel
theorem dX12_goes_256 : decode cX12_goes 256 = .ok (.iinc 1 1, 3) := by decide +kernel
theorem dX12_goes_259 : decode cX12_goes 259 = .ok (.goto (-143), 3) := by decide +kernel
theorem dX12_goes_262 : decode cX12_goes 262 = .ok (.aload_n 0, 1) := by decide +kernel
theorem dX12_goes_263 : decode cX12_goes 263 = .ok (.getfield 9, 3) := by decide +kernel
theorem dX12_goes_266 : decode cX12_goes 266 = .ok (.iconst 0, 1) := by decide +kernel
theorem dX12_goes_267 : decode cX12_goes 267 = .ok (.dup2, 1) := by decide +kernel
theorem dX12_goes_268 : decode cX12_goes 268 = .ok (.iaload, 1) := by decide +kernel
theorem dX12_goes_269 : decode cX12_goes 269 = .ok (.iconst 1, 1) := by decide +kernel
theorem dX12_goes_270 : decode cX12_goes 270 = .ok (.iadd, 1) := by decide +kernel
theorem dX12_goes_271 : decode cX12_goes 271 = .ok (.iastore, 1) := by decide +kernel
theorem dX12_goes_272 : decode cX12_goes 272 = .ok (.return_, 1) := by decide +kernel
def zb_X12_goes_256 (r116 : zj_K) (E : zj_E) (st : List Value) (m : zj_M) : zj_R := (zi_inc 1 1 r116) E st m
set_option maxRecDepth 20000 in
theorem zs_X12_goes_256 {r116 : zj_K} (h116 : zj_KC cX12_goes RX12 3 (4) none (0, fun _ => 0) 116 r116) : zj_KC cX12_goes RX12 3 (4) none (0, fun _ => 0) 256 (zb_X12_goes_256 r116) := (zr_inc dX12_goes_256 rfl (zr_goto dX12_goes_259 (tgt := 116) (by decide) h116))
def zb_X12_goes_175 (r116 : zj_K) (E : zj_E) (st : List Value) (m : zj_M) : zj_R := (zi_iast (zi_ald 0 (zi_gf 12 1 (zi_push (.int 14) (zi_ild 1 (zi_b (fun x y => x + y) (zi_iald (zi_eq (zi_ald 0 (zi_ild 1 (zi_vc 12 1 zf_X12_isStray (zi_eq (zb_X12_goes_256 r116) (zi_ald 0 (zi_gf 12 1 (zi_push (.int 1) (zi_iald (zi_ald 0 (zi_gf 12 15 (zi_ild 1 (zi_iald (zi_b (fun x y => x >>> (y &&& 31)) (zi_push (.int 1) (zi_b (fun x y => x &&& y) (zi_push (.int 1) (zi_ceq (zi_ald 0 (zi_gf 12 1 (zi_push (.int 20) (zi_ild 1 (zi_b (fun x y => x + y) (zi_dup2 (zi_iald (zi_push (.int 1) (zi_b (fun x y => x + y) (zi_iast (zi_ald 0 (zi_gf 12 1 (zi_push (.int 8) (zi_ild 1 (zi_b (fun x y => x + y) (zi_ald 0 (zi_ald 0 (zi_gf 12 15 (zi_ild 1 (zi_iald (zi_ald 0 (zi_gf 12 1 (zi_push (.int 8) (zi_ild 1 (zi_b (fun x y => x + y) (zi_iald (zi_vc 12 2 zf_X12_leastMood (zi_iast (zb_X12_goes_256 r116)) zi_no))))))))))))))))))))))))))) (zb_X12_goes_256 r116))))))))))))))) zi_no))) (zb_X12_goes_256 r116))))))))) E st m
set_option maxRecDepth 20000 in
theorem zs_X12_goes_175 {r116 : zj_K} (h116 : zj_KC cX12_goes RX12 3 (4) none (0, fun _ => 0) 116 r116) : zj_KC cX12_goes RX12 3 (4) none (0, fun _ => 0) 175 (zb_X12_goes_175 r116) := (zr_iast dX12_goes_175 (zr_aldn dX12_goes_176 rfl (zr_gf dX12_goes_177 zfl_X12_9_12 (zr_bipush dX12_goes_180 rfl (zr_ildn dX12_goes_182 rfl (zr_iadd dX12_goes_183 (zr_iald dX12_goes_184 (zr_ifne dX12_goes_185 (tgt := 256) (by decide) (zs_X12_goes_256 h116) (zr_aldn dX12_goes_188 rfl (zr_ildn dX12_goes_189 rfl (zr_callV dX12_goes_190 zm_X12_isStray ⟨⟨zq_1149, zq_77⟩, by decide +kernel, by omega, by decide⟩ rfl rfl zq_1146 zq_1148 zq_34 (zr_ifeq dX12_goes_193 (tgt := 256) (by decide) (zs_X12_goes_256 h116) (zr_aldn dX12_goes_196 rfl (zr_gf dX12_goes_197 zfl_X12_9_12 (zr_iconst dX12_goes_200 rfl (zr_iald dX12_goes_201 (zr_aldn dX12_goes_202 rfl (zr_gf dX12_goes_203 zfl_X12_34_12 (zr_ildn dX12_goes_206 rfl (zr_iald dX12_goes_207 (zr_ishr dX12_goes_208 (zr_iconst dX12_goes_209 rfl (zr_iand dX12_goes_210 (zr_iconst dX12_goes_211 rfl (zr_icne dX12_goes_212 (tgt := 256) (by decide) (zs_X12_goes_256 h116) (zr_aldn dX12_goes_215 rfl (zr_gf dX12_goes_216 zfl_X12_9_12 (zr_bipush dX12_goes_219 rfl (zr_ildn dX12_goes_221 rfl (zr_iadd dX12_goes_222 (zr_dup2 dX12_goes_223 (zr_iald dX12_goes_224 (zr_iconst dX12_goes_225 rfl (zr_iadd dX12_goes_226 (zr_iast dX12_goes_227 (zr_aldn dX12_goes_228 rfl (zr_gf dX12_goes_229 zfl_X12_9_12 (zr_bipush dX12_goes_232 rfl (zr_ildn dX12_goes_234 rfl (zr_iadd dX12_goes_235 (zr_aldn dX12_goes_236 rfl (zr_aldn dX12_goes_237 rfl (zr_gf dX12_goes_238 zfl_X12_34_12 (zr_ildn dX12_goes_241 rfl (zr_iald dX12_goes_242 (zr_aldn dX12_goes_243 rfl (zr_gf dX12_goes_244 zfl_X12_9_12 (zr_bipush dX12_goes_247 rfl (zr_ildn dX12_goes_249 rfl (zr_iadd dX12_goes_250 (zr_iald dX12_goes_251 (zr_callV dX12_goes_252 zm_X12_leastMood ⟨⟨zq_1225, zq_77⟩, by decide +kernel, by omega, by decide⟩ rfl rfl zq_1222 zq_1224 zq_49 (zr_iast dX12_goes_255 (zs_X12_goes_256 h116)) zr_no))))))))))))))))))))))))))))))))))))))))) zr_no)))))))))))
def zb_X12_goes_116 (r116 : zj_K) (E : zj_E) (st : List Value) (m : zj_M) : zj_R := (zi_ild 1 (zi_ald 0 (zi_gf 12 1 (zi_push (.int 26) (zi_iald (zi_clt (zi_ald 0 (zi_gf 12 1 (zi_push (.int 2) (zi_ild 1 (zi_b (fun x y => x + y) (zi_ald 0 (zi_gf 12 15 (zi_ild 1 (zi_iald (zi_iast (zi_ald 0 (zi_gf 12 1 (zi_push (.int 8) (zi_ild 1 (zi_b (fun x y => x + y) (zi_ald 0 (zi_gf 12 16 (zi_ild 1 (zi_iald (zi_lt (zi_ald 0 (zi_gf 12 16 (zi_ild 1 (zi_iald (zi_push (.int 4) (zi_b (fun x y => x + y) (zb_X12_goes_175 r116))))))) (zi_ald 0 (zi_gf 12 16 (zi_ild 1 (zi_iald (zb_X12_goes_175 r116))))))))))))))))))))))))) (zi_ald 0 (zi_gf 12 1 (zi_push (.int 0) (zi_dup2 (zi_iald (zi_push (.int 1) (zi_b (fun x y => x + y) (zi_iast (zi_ret none))))))))))))))) E st m
set_option maxRecDepth 20000 in
theorem zs_X12_goes_116 {r116 : zj_K} (h116 : zj_KC cX12_goes RX12 3 (4) none (0, fun _ => 0) 116 r116) : zj_KC cX12_goes RX12 3 (4) none (0, fun _ => 0) 116 (zb_X12_goes_116 r116) := (zr_ildn dX12_goes_116 rfl (zr_aldn dX12_goes_117 rfl (zr_gf dX12_goes_118 zfl_X12_9_12 (zr_bipush dX12_goes_121 rfl (zr_iald dX12_goes_123 (zr_icge dX12_goes_124 (tgt := 262) (by decide) (zr_aldn dX12_goes_262 rfl (zr_gf dX12_goes_263 zfl_X12_9_12 (zr_iconst dX12_goes_266 rfl (zr_dup2 dX12_goes_267 (zr_iald dX12_goes_268 (zr_iconst dX12_goes_269 rfl (zr_iadd dX12_goes_270 (zr_iast dX12_goes_271 (zr_ret dX12_goes_272))))))))) (zr_aldn dX12_goes_127 rfl (zr_gf dX12_goes_128 zfl_X12_9_12 (zr_iconst dX12_goes_131 rfl (zr_ildn dX12_goes_132 rfl (zr_iadd dX12_goes_133 (zr_aldn dX12_goes_134 rfl (zr_gf dX12_goes_135 zfl_X12_34_12 (zr_ildn dX12_goes_138 rfl (zr_iald dX12_goes_139 (zr_iast dX12_goes_140 (zr_aldn dX12_goes_141 rfl (zr_gf dX12_goes_142 zfl_X12_9_12 (zr_bipush dX12_goes_145 rfl (zr_ildn dX12_goes_147 rfl (zr_iadd dX12_goes_148 (zr_aldn dX12_goes_149 rfl (zr_gf dX12_goes_150 zfl_X12_37_12 (zr_ildn dX12_goes_153 rfl (zr_iald dX12_goes_154 (zr_ifge dX12_goes_155 (tgt := 169) (by decide) (zr_aldn dX12_goes_169 rfl (zr_gf dX12_goes_170 zfl_X12_37_12 (zr_ildn dX12_goes_173 rfl (zr_iald dX12_goes_174 (zs_X12_goes_175 h116))))) (zr_aldn dX12_goes_158 rfl (zr_gf dX12_goes_159 zfl_X12_37_12 (zr_ildn dX12_goes_162 rfl (zr_iald dX12_goes_163 (zr_iconst dX12_goes_164 rfl (zr_iadd dX12_goes_165 (zr_goto dX12_goes_166 (tgt := 175) (by decide) (zs_X12_goes_175 h116))))))))))))))))))))))))))))))))))
def zb_X12_goes_107 (r2 : zj_K) (E : zj_E) (st : List Value) (m : zj_M) : zj_R := (zi_iast (zi_inc 1 1 r2)) E st m
set_option maxRecDepth 20000 in
theorem zs_X12_goes_107 {r2 : zj_K} (h2 : zj_KC cX12_goes RX12 3 (4) none (0, fun _ => 0) 2 r2) : zj_KC cX12_goes RX12 3 (4) none (0, fun _ => 0) 107 (zb_X12_goes_107 r2) := (zr_iast dX12_goes_107 (zr_inc dX12_goes_108 rfl (zr_goto dX12_goes_111 (tgt := 2) (by decide) h2)))
def zb_X12_goes_68 (r2 : zj_K) (E : zj_E) (st : List Value) (m : zj_M) : zj_R := (zi_iast (zi_ald 0 (zi_gf 12 16 (zi_ild 1 (zi_ild 2 (zi_eq (zi_ald 0 (zi_gf 12 1 (zi_push (.int 8) (zi_ild 1 (zi_b (fun x y => x + y) (zi_iald (zb_X12_goes_107 r2))))))) (zi_ald 0 (zi_gf 12 1 (zi_push (.int 8) (zi_ild 1 (zi_b (fun x y => x + y) (zi_iald (zi_ald 0 (zi_ild 1 (zi_vc 12 1 zf_X12_swayOf (zi_b (fun x y => x + y) (zi_push (.int 4) (zi_bd (fun x y => x - x / y * y) (zb_X12_goes_107 r2)))) zi_no))))))))))))))) E st m
set_option maxRecDepth 20000 in
theorem zs_X12_goes_68 {r2 : zj_K} (h2 : zj_KC cX12_goes RX12 3 (4) none (0, fun _ => 0) 2 r2) : zj_KC cX12_goes RX12 3 (4) none (0, fun _ => 0) 68 (zb_X12_goes_68 r2) := (zr_iast dX12_goes_68 (zr_aldn dX12_goes_69 rfl (zr_gf dX12_goes_70 zfl_X12_37_12 (zr_ildn dX12_goes_73 rfl (zr_ildn dX12_goes_74 rfl (zr_ifeq dX12_goes_75 (tgt := 98) (by decide) (zr_aldn dX12_goes_98 rfl (zr_gf dX12_goes_99 zfl_X12_9_12 (zr_bipush dX12_goes_102 rfl (zr_ildn dX12_goes_104 rfl (zr_iadd dX12_goes_105 (zr_iald dX12_goes_106 (zs_X12_goes_107 h2))))))) (zr_aldn dX12_goes_78 rfl (zr_gf dX12_goes_79 zfl_X12_9_12 (zr_bipush dX12_goes_82 rfl (zr_ildn dX12_goes_84 rfl (zr_iadd dX12_goes_85 (zr_iald dX12_goes_86 (zr_aldn dX12_goes_87 rfl (zr_ildn dX12_goes_88 rfl (zr_callV dX12_goes_89 zm_X12_swayOf ⟨⟨zq_1161, zq_77⟩, by decide +kernel, by omega, by decide⟩ rfl rfl zq_1158 zq_1160 zq_37 (zr_iadd dX12_goes_92 (zr_iconst dX12_goes_93 rfl (zr_irem dX12_goes_94 (zr_goto dX12_goes_95 (tgt := 107) (by decide) (zs_X12_goes_107 h2))))) zr_no)))))))))))))))
def zb_X12_goes_30 (r2 : zj_K) (E : zj_E) (st : List Value) (m : zj_M) : zj_R := (zi_ist 2 (zi_ald 0 (zi_gf 12 15 (zi_ild 1 (zi_ild 2 (zi_eq (zi_ald 0 (zi_gf 12 1 (zi_push (.int 2) (zi_ild 1 (zi_b (fun x y => x + y) (zi_iald (zb_X12_goes_68 r2))))))) (zi_ald 0 (zi_gf 12 1 (zi_push (.int 2) (zi_ild 1 (zi_b (fun x y => x + y) (zi_iald (zi_ald 0 (zi_ild 1 (zi_vc 12 1 zf_X12_paceOf (zi_b (fun x y => x + y) (zi_push (.int 16) (zi_bd (fun x y => x - x / y * y) (zb_X12_goes_68 r2)))) zi_no))))))))))))))) E st m
set_option maxRecDepth 20000 in
theorem zs_X12_goes_30 {r2 : zj_K} (h2 : zj_KC cX12_goes RX12 3 (4) none (0, fun _ => 0) 2 r2) : zj_KC cX12_goes RX12 3 (4) none (0, fun _ => 0) 30 (zb_X12_goes_30 r2) := (zr_istn dX12_goes_30 rfl (zr_aldn dX12_goes_31 rfl (zr_gf dX12_goes_32 zfl_X12_34_12 (zr_ildn dX12_goes_35 rfl (zr_ildn dX12_goes_36 rfl (zr_ifeq dX12_goes_37 (tgt := 60) (by decide) (zr_aldn dX12_goes_60 rfl (zr_gf dX12_goes_61 zfl_X12_9_12 (zr_iconst dX12_goes_64 rfl (zr_ildn dX12_goes_65 rfl (zr_iadd dX12_goes_66 (zr_iald dX12_goes_67 (zs_X12_goes_68 h2))))))) (zr_aldn dX12_goes_40 rfl (zr_gf dX12_goes_41 zfl_X12_9_12 (zr_iconst dX12_goes_44 rfl (zr_ildn dX12_goes_45 rfl (zr_iadd dX12_goes_46 (zr_iald dX12_goes_47 (zr_aldn dX12_goes_48 rfl (zr_ildn dX12_goes_49 rfl (zr_callV dX12_goes_50 zm_X12_paceOf ⟨⟨zq_1177, zq_77⟩, by decide +kernel, by omega, by decide⟩ rfl rfl zq_1174 zq_1176 zq_41 (zr_iadd dX12_goes_53 (zr_bipush dX12_goes_54 rfl (zr_irem dX12_goes_56 (zr_goto dX12_goes_57 (tgt := 68) (by decide) (zs_X12_goes_68 h2))))) zr_no)))))))))))))))
def zb_X12_goes_2 (r2 : zj_K) (E : zj_E) (st : List Value) (m : zj_M) : zj_R := (zi_ild 1 (zi_ald 0 (zi_gf 12 1 (zi_push (.int 26) (zi_iald (zi_clt (zi_ald 0 (zi_gf 12 1 (zi_push (.int 14) (zi_ild 1 (zi_b (fun x y => x + y) (zi_iald (zi_eq (zi_push (.int 1) (zb_X12_goes_30 r2)) (zi_push (.int 0) (zb_X12_goes_30 r2))))))))) (zi_push (.int 0) (zi_ist 1 (zj_lp (zb_X12_goes_116) zj_fu))))))))) E st m
set_option maxRecDepth 20000 in
theorem zs_X12_goes_2 {r2 : zj_K} (h2 : zj_KC cX12_goes RX12 3 (4) none (0, fun _ => 0) 2 r2) : zj_KC cX12_goes RX12 3 (4) none (0, fun _ => 0) 2 (zb_X12_goes_2 r2) := (zr_ildn dX12_goes_2 rfl (zr_aldn dX12_goes_3 rfl (zr_gf dX12_goes_4 zfl_X12_9_12 (zr_bipush dX12_goes_7 rfl (zr_iald dX12_goes_9 (zr_icge dX12_goes_10 (tgt := 114) (by decide) (zr_iconst dX12_goes_114 rfl (zr_istn dX12_goes_115 rfl (zr_lp (fun _ h => zs_X12_goes_116 h) zj_fu))) (zr_aldn dX12_goes_13 rfl (zr_gf dX12_goes_14 zfl_X12_9_12 (zr_bipush dX12_goes_17 rfl (zr_ildn dX12_goes_19 rfl (zr_iadd dX12_goes_20 (zr_iald dX12_goes_21 (zr_ifne dX12_goes_22 (tgt := 29) (by decide) (zr_iconst dX12_goes_29 rfl (zs_X12_goes_30 h2)) (zr_iconst dX12_goes_25 rfl (zr_goto dX12_goes_26 (tgt := 30) (by decide) (zs_X12_goes_30 h2))))))))))))))))
def zb_X12_goes_0 (E : zj_E) (st : List Value) (m : zj_M) : zj_R := (zi_push (.int 0) (zi_ist 1 (zj_lp (zb_X12_goes_2) zj_fu))) E st m
set_option maxRecDepth 20000 in
theorem zs_X12_goes_0 : zj_KC cX12_goes RX12 3 (4) none (0, fun _ => 0) 0 (zb_X12_goes_0) := (zr_iconst dX12_goes_0 rfl (zr_istn dX12_goes_1 rfl (zr_lp (fun _ h => zs_X12_goes_2 h) zj_fu)))
def zf_X12_goes : zj_F := zj_run 3 zb_X12_goes_0
theorem zm_X12_goes : zj_MS 4 yX12_goes cX12_goes 3 none zf_X12_goes := zj_met (own := RX12) rfl (by decide +kernel) (Or.inl rfl) (zs_X12_goes_0)
theorem dX12_troubleOn_0 : decode cX12_troubleOn 0 = .ok (.iconst 0, 1) := by decide +kernel
theorem dX12_troubleOn_1 : decode cX12_troubleOn 1 = .ok (.istore_n 1, 1) := by decide +kernel
theorem dX12_troubleOn_2 : decode cX12_troubleOn 2 = .ok (.iconst 1, 1) := by decide +kernel
theorem dX12_troubleOn_3 : decode cX12_troubleOn 3 = .ok (.istore_n 2, 1) := by decide +kernel
theorem dX12_troubleOn_4 : decode cX12_troubleOn 4 = .ok (.iload_n 2, 1) := by decide +kernel
theorem dX12_troubleOn_5 : decode cX12_troubleOn 5 = .ok (.bipush 12, 2) := by decide +kernel
theorem dX12_troubleOn_7 : decode cX12_troubleOn 7 = .ok (.if_icmp .gt 20, 3) := by decide +kernel
theorem dX12_troubleOn_10 : decode cX12_troubleOn 10 = .ok (.aload_n 0, 1) := by decide +kernel
theorem dX12_troubleOn_11 : decode cX12_troubleOn 11 = .ok (.invokevirtual 192, 3) := by decide +kernel
theorem dX12_troubleOn_14 : decode cX12_troubleOn 14 = .ok (.iload_n 1, 1) := by decide +kernel
theorem dX12_troubleOn_15 : decode cX12_troubleOn 15 = .ok (.aload_n 0, 1) := by decide +kernel
theorem dX12_troubleOn_16 : decode cX12_troubleOn 16 = .ok (.invokevirtual 176, 3) := by decide +kernel
theorem dX12_troubleOn_19 : decode cX12_troubleOn 19 = .ok (.iadd, 1) := by decide +kernel
theorem dX12_troubleOn_20 : decode cX12_troubleOn 20 = .ok (.istore_n 1, 1) := by decide +kernel
theorem dX12_troubleOn_21 : decode cX12_troubleOn 21 = .ok (.iinc 2 1, 3) := by decide +kernel
theorem dX12_troubleOn_24 : decode cX12_troubleOn 24 = .ok (.goto (-20), 3) := by decide +kernel
theorem dX12_troubleOn_27 : decode cX12_troubleOn 27 = .ok (.aload_n 0, 1) := by decide +kernel
theorem dX12_troubleOn_28 : decode cX12_troubleOn 28 = .ok (.invokevirtual 201, 3) := by decide +kernel
theorem dX12_troubleOn_31 : decode cX12_troubleOn 31 = .ok (.iload_n 1, 1) := by decide +kernel
theorem dX12_troubleOn_32 : decode cX12_troubleOn 32 = .ok (.ireturn, 1) := by decide +kernel
def zb_X12_troubleOn_4 (r4 : zj_K) (E : zj_E) (st : List Value) (m : zj_M) : zj_R := (zi_ild 2 (zi_push (.int 12) (zi_cle (zi_ald 0 (zi_vc 12 0 zf_X12_goes (zi_ild 1 (zi_ald 0 (zi_vc 12 0 zf_X12_manyStray (zi_b (fun x y => x + y) (zi_ist 1 (zi_inc 2 1 r4))) zi_no))) zi_no)) (zi_ald 0 (zi_vc 12 0 zf_X12_goesBack (zi_ild 1 (zi_ret (some .int))) zi_no))))) E st m
set_option maxRecDepth 20000 in
theorem zs_X12_troubleOn_4 {r4 : zj_K} (h4 : zj_KC cX12_troubleOn RX12 3 (5) (some .int) (0, fun _ => 0) 4 r4) : zj_KC cX12_troubleOn RX12 3 (5) (some .int) (0, fun _ => 0) 4 (zb_X12_troubleOn_4 r4) := (zr_ildn dX12_troubleOn_4 rfl (zr_bipush dX12_troubleOn_5 rfl (zr_icgt dX12_troubleOn_7 (tgt := 27) (by decide) (zr_aldn dX12_troubleOn_27 rfl (zr_callV dX12_troubleOn_28 zm_X12_goesBack ⟨⟨zq_1229, zq_77⟩, by decide +kernel, by omega, by decide⟩ rfl rfl zq_1226 zq_1228 zq_50 (zr_ildn dX12_troubleOn_31 rfl (zr_ret dX12_troubleOn_32)) zr_no)) (zr_aldn dX12_troubleOn_10 rfl (zr_callV dX12_troubleOn_11 zm_X12_goes ⟨⟨zq_1221, zq_77⟩, by decide +kernel, by omega, by decide⟩ rfl rfl zq_1218 zq_1220 zq_48 (zr_ildn dX12_troubleOn_14 rfl (zr_aldn dX12_troubleOn_15 rfl (zr_callV dX12_troubleOn_16 zm_X12_manyStray ⟨⟨zq_1201, zq_77⟩, by decide +kernel, by omega, by decide⟩ rfl rfl zq_1198 zq_1200 zq_43 (zr_iadd dX12_troubleOn_19 (zr_istn dX12_troubleOn_20 rfl (zr_inc dX12_troubleOn_21 rfl (zr_goto dX12_troubleOn_24 (tgt := 4) (by decide) h4)))) zr_no))) zr_no)))))
def zb_X12_troubleOn_0 (E : zj_E) (st : List Value) (m : zj_M) : zj_R := (zi_push (.int 0) (zi_ist 1 (zi_push (.int 1) (zi_ist 2 (zj_lp (zb_X12_troubleOn_4) zj_fu))))) E st m
set_option maxRecDepth 20000 in
theorem zs_X12_troubleOn_0 : zj_KC cX12_troubleOn RX12 3 (5) (some .int) (0, fun _ => 0) 0 (zb_X12_troubleOn_0) := (zr_iconst dX12_troubleOn_0 rfl (zr_istn dX12_troubleOn_1 rfl (zr_iconst dX12_troubleOn_2 rfl (zr_istn dX12_troubleOn_3 rfl (zr_lp (fun _ h => zs_X12_troubleOn_4 h) zj_fu)))))
def zf_X12_troubleOn : zj_F := zj_run 3 zb_X12_troubleOn_0
theorem zm_X12_troubleOn : zj_MS 5 yX12_troubleOn cX12_troubleOn 3 (some .int) zf_X12_troubleOn := zj_met (own := RX12) rfl (by decide +kernel) (Or.inr (Or.inl rfl)) (zs_X12_troubleOn_0)
theorem dX12_trouble_0 : decode cX12_trouble 0 = .ok (.aload_n 0, 1) := by decide +kernel
theorem dX12_trouble_1 : decode cX12_trouble 1 = .ok (.invokevirtual 198, 3) := by decide +kernel
theorem dX12_trouble_4 : decode cX12_trouble 4 = .ok (.aload_n 0, 1) := by decide +kernel
theorem dX12_trouble_5 : decode cX12_trouble 5 = .ok (.invokevirtual 204, 3) := by decide +kernel
theorem dX12_trouble_8 : decode cX12_trouble 8 = .ok (.ireturn, 1) := by decide +kernel
def zb_X12_trouble_0 (E : zj_E) (st : List Value) (m : zj_M) : zj_R := (zi_ald 0 (zi_vc 12 0 zf_X12_keeps (zi_ald 0 (zi_vc 12 0 zf_X12_troubleOn (zi_ret (some .int)) zi_no)) zi_no)) E st m
set_option maxRecDepth 20000 in
theorem zs_X12_trouble_0 : zj_KC cX12_trouble RX12 1 (6) (some .int) (0, fun _ => 0) 0 (zb_X12_trouble_0) := (zr_aldn dX12_trouble_0 rfl (zr_callV dX12_trouble_1 zm_X12_keeps ⟨⟨zq_1213, zq_77⟩, by decide +kernel, by omega, by decide⟩ rfl rfl zq_1210 zq_1212 zq_46 (zr_aldn dX12_trouble_4 rfl (zr_callV dX12_trouble_5 zm_X12_troubleOn ⟨⟨zq_1217, zq_77⟩, by decide +kernel, by omega, by decide⟩ rfl rfl zq_1214 zq_1216 zq_47 (zr_ret dX12_trouble_8) zr_no)) zr_no))
def zf_X12_trouble : zj_F := zj_run 1 zb_X12_trouble_0
theorem zm_X12_trouble : zj_MS 6 yX12_trouble cX12_trouble 1 (some .int) zf_X12_trouble := zj_met (own := RX12) rfl (by decide +kernel) (Or.inr (Or.inl rfl)) (zs_X12_trouble_0)
theorem dX12_told_0 : decode cX12_told 0 = .ok (.iload_n 1, 1) := by decide +kernel
theorem dX12_told_1 : decode cX12_told 1 = .ok (.tableswitch 114 0 8 #[51, 58, 67, 80, 87, 92, 97, 102, 108], 51) := by decide +kernel
theorem dX12_told_52 : decode cX12_told 52 = .ok (.aload_n 0, 1) := by decide +kernel
theorem dX12_told_53 : decode cX12_told 53 = .ok (.getfield 9, 3) := by decide +kernel
theorem dX12_told_56 : decode cX12_told 56 = .ok (.iconst 0, 1) := by decide +kernel
theorem dX12_told_57 : decode cX12_told 57 = .ok (.iaload, 1) := by decide +kernel
theorem dX12_told_58 : decode cX12_told 58 = .ok (.ireturn, 1) := by decide +kernel
theorem dX12_told_59 : decode cX12_told 59 = .ok (.aload_n 0, 1) := by decide +kernel
theorem dX12_told_60 : decode cX12_told 60 = .ok (.sipush 223, 3) := by decide +kernel
theorem dX12_told_63 : decode cX12_told 63 = .ok (.iconst 0, 1) := by decide +kernel
theorem dX12_told_64 : decode cX12_told 64 = .ok (.invokevirtual 134, 3) := by decide +kernel
theorem dX12_told_67 : decode cX12_told 67 = .ok (.ireturn, 1) := by decide +kernel
theorem dX12_told_68 : decode cX12_told 68 = .ok (.aload_n 0, 1) := by decide +kernel
theorem dX12_told_69 : decode cX12_told 69 = .ok (.invokevirtual 152, 3) := by decide +kernel
theorem dX12_told_72 : decode cX12_told 72 = .ok (.ifCond .eq 7, 3) := by decide +kernel
theorem dX12_told_75 : decode cX12_told 75 = .ok (.iconst 1, 1) := by decide +kernel
theorem dX12_told_76 : decode cX12_told 76 = .ok (.goto 4, 3) := by decide +kernel
theorem dX12_told_79 : decode cX12_told 79 = .ok (.iconst 0, 1) := by decide +kernel
theorem dX12_told_80 : decode cX12_told 80 = .ok (.ireturn, 1) := by decide +kernel
theorem dX12_told_81 : decode cX12_told 81 = .ok (.aload_n 0, 1) := by decide +kernel
theorem dX12_told_82 : decode cX12_told 82 = .ok (.getfield 9, 3) := by decide +kernel
theorem dX12_told_85 : decode cX12_told 85 = .ok (.iconst 1, 1) := by decide +kernel
theorem dX12_told_86 : decode cX12_told 86 = .ok (.iaload, 1) := by decide +kernel
theorem dX12_told_87 : decode cX12_told 87 = .ok (.ireturn, 1) := by decide +kernel
theorem dX12_told_88 : decode cX12_told 88 = .ok (.aload_n 0, 1) := by decide +kernel
theorem dX12_told_89 : decode cX12_told 89 = .ok (.invokevirtual 176, 3) := by decide +kernel
theorem dX12_told_92 : decode cX12_told 92 = .ok (.ireturn, 1) := by decide +kernel
theorem dX12_told_93 : decode cX12_told 93 = .ok (.aload_n 0, 1) := by decide +kernel
theorem dX12_told_94 : decode cX12_told 94 = .ok (.invokevirtual 179, 3) := by decide +kernel
theorem dX12_told_97 : decode cX12_told 97 = .ok (.ireturn, 1) := by decide +kernel
theorem dX12_told_98 : decode cX12_told 98 = .ok (.aload_n 0, 1) := by decide +kernel
theorem dX12_told_99 : decode cX12_told 99 = .ok (.invokevirtual 182, 3) := by decide +kernel
theorem dX12_told_102 : decode cX12_told 102 = .ok (.ireturn, 1) := by decide +kernel
theorem dX12_told_103 : decode cX12_told 103 = .ok (.aload_n 0, 1) := by decide +kernel
theorem dX12_told_104 : decode cX12_told 104 = .ok (.iconst 0, 1) := by decide +kernel
theorem dX12_told_105 : decode cX12_told 105 = .ok (.invokevirtual 185, 3) := by decide +kernel
theorem dX12_told_108 : decode cX12_told 108 = .ok (.ireturn, 1) := by decide +kernel
theorem dX12_told_109 : decode cX12_told 109 = .ok (.aload_n 0, 1) := by decide +kernel
theorem dX12_told_110 : decode cX12_told 110 = .ok (.iconst 1, 1) := by decide +kernel
theorem dX12_told_111 : decode cX12_told 111 = .ok (.invokevirtual 185, 3) := by decide +kernel
theorem dX12_told_114 : decode cX12_told 114 = .ok (.ireturn, 1) := by decide +kernel
theorem dX12_told_115 : decode cX12_told 115 = .ok (.iload_n 1, 1) := by decide +kernel
theorem dX12_told_116 : decode cX12_told 116 = .ok (.bipush 10, 2) := by decide +kernel
theorem dX12_told_118 : decode cX12_told 118 = .ok (.isub, 1) := by decide +kernel
theorem dX12_told_119 : decode cX12_told 119 = .ok (.invokestatic 156, 3) := by decide +kernel
theorem dX12_told_122 : decode cX12_told 122 = .ok (.ifCond .eq 18, 3) := by decide +kernel
theorem dX12_told_125 : decode cX12_told 125 = .ok (.aload_n 0, 1) := by decide +kernel
theorem dX12_told_126 : decode cX12_told 126 = .ok (.getfield 9, 3) := by decide +kernel
theorem dX12_told_129 : decode cX12_told 129 = .ok (.bipush 33, 2) := by decide +kernel
theorem dX12_told_131 : decode cX12_told 131 = .ok (.iload_n 1, 1) := by decide +kernel
theorem dX12_told_132 : decode cX12_told 132 = .ok (.iadd, 1) := by decide +kernel
theorem dX12_told_133 : decode cX12_told 133 = .ok (.bipush 10, 2) := by decide +kernel
theorem dX12_told_135 : decode cX12_told 135 = .ok (.isub, 1) := by decide +kernel
theorem dX12_told_136 : decode cX12_told 136 = .ok (.iaload, 1) := by decide +kernel
theorem dX12_told_137 : decode cX12_told 137 = .ok (.goto 4, 3) := by decide +kernel
theorem dX12_told_140 : decode cX12_told 140 = .ok (.iconst (-1), 1) := by decide +kernel
theorem dX12_told_141 : decode cX12_told 141 = .ok (.ireturn, 1) := by decide +kernel
def zb_X12_told_52 (E : zj_E) (st : List Value) (m : zj_M) : zj_R := (zi_ald 0 (zi_gf 12 1 (zi_push (.int 0) (zi_iald (zi_ret (some .int)))))) E st m
set_option maxRecDepth 20000 in
theorem zs_X12_told_52 : zj_KC cX12_told RX12 2 (7) (some .int) (0, fun _ => 0) 52 (zb_X12_told_52) := (zr_aldn dX12_told_52 rfl (zr_gf dX12_told_53 zfl_X12_9_12 (zr_iconst dX12_told_56 rfl (zr_iald dX12_told_57 (zr_ret dX12_told_58)))))
def zb_X12_told_59 (E : zj_E) (st : List Value) (m : zj_M) : zj_R := (zi_ald 0 (zi_push (.int 223) (zi_push (.int 0) (zi_vc 12 2 zf_X12_tellsOf (zi_ret (some .int)) zi_no)))) E st m
set_option maxRecDepth 20000 in
theorem zs_X12_told_59 : zj_KC cX12_told RX12 2 (7) (some .int) (0, fun _ => 0) 59 (zb_X12_told_59) := (zr_aldn dX12_told_59 rfl (zr_sipush dX12_told_60 rfl (zr_iconst dX12_told_63 rfl (zr_callV dX12_told_64 zm_X12_tellsOf ⟨⟨zq_1173, zq_77⟩, by decide +kernel, by omega, by decide⟩ rfl rfl zq_1170 zq_1172 zq_40 (zr_ret dX12_told_67) zr_no))))
def zb_X12_told_80 (E : zj_E) (st : List Value) (m : zj_M) : zj_R := (zi_ret (some .int)) E st m
set_option maxRecDepth 20000 in
theorem zs_X12_told_80 : zj_KC cX12_told RX12 2 (7) (some .int) (0, fun _ => 0) 80 (zb_X12_told_80) := (zr_ret dX12_told_80)
def zb_X12_told_68 (E : zj_E) (st : List Value) (m : zj_M) : zj_R := (zi_ald 0 (zi_vc 12 0 zf_X12_rains (zi_eq (zi_push (.int 0) zb_X12_told_80) (zi_push (.int 1) zb_X12_told_80)) zi_no)) E st m
set_option maxRecDepth 20000 in
theorem zs_X12_told_68 : zj_KC cX12_told RX12 2 (7) (some .int) (0, fun _ => 0) 68 (zb_X12_told_68) := (zr_aldn dX12_told_68 rfl (zr_callV dX12_told_69 zm_X12_rains ⟨⟨zq_1181, zq_77⟩, by decide +kernel, by omega, by decide⟩ rfl rfl zq_1178 zq_1180 zq_42 (zr_ifeq dX12_told_72 (tgt := 79) (by decide) (zr_iconst dX12_told_79 rfl (zs_X12_told_80)) (zr_iconst dX12_told_75 rfl (zr_goto dX12_told_76 (tgt := 80) (by decide) (zs_X12_told_80)))) zr_no))
def zb_X12_told_81 (E : zj_E) (st : List Value) (m : zj_M) : zj_R := (zi_ald 0 (zi_gf 12 1 (zi_push (.int 1) (zi_iald (zi_ret (some .int)))))) E st m
set_option maxRecDepth 20000 in
theorem zs_X12_told_81 : zj_KC cX12_told RX12 2 (7) (some .int) (0, fun _ => 0) 81 (zb_X12_told_81) := (zr_aldn dX12_told_81 rfl (zr_gf dX12_told_82 zfl_X12_9_12 (zr_iconst dX12_told_85 rfl (zr_iald dX12_told_86 (zr_ret dX12_told_87)))))
def zb_X12_told_88 (E : zj_E) (st : List Value) (m : zj_M) : zj_R := (zi_ald 0 (zi_vc 12 0 zf_X12_manyStray (zi_ret (some .int)) zi_no)) E st m
set_option maxRecDepth 20000 in
theorem zs_X12_told_88 : zj_KC cX12_told RX12 2 (7) (some .int) (0, fun _ => 0) 88 (zb_X12_told_88) := (zr_aldn dX12_told_88 rfl (zr_callV dX12_told_89 zm_X12_manyStray ⟨⟨zq_1201, zq_77⟩, by decide +kernel, by omega, by decide⟩ rfl rfl zq_1198 zq_1200 zq_43 (zr_ret dX12_told_92) zr_no))
def zb_X12_told_93 (E : zj_E) (st : List Value) (m : zj_M) : zj_R := (zi_ald 0 (zi_vc 12 0 zf_X12_allMoved (zi_ret (some .int)) zi_no)) E st m
set_option maxRecDepth 20000 in
theorem zs_X12_told_93 : zj_KC cX12_told RX12 2 (7) (some .int) (0, fun _ => 0) 93 (zb_X12_told_93) := (zr_aldn dX12_told_93 rfl (zr_callV dX12_told_94 zm_X12_allMoved ⟨⟨zq_1205, zq_77⟩, by decide +kernel, by omega, by decide⟩ rfl rfl zq_1202 zq_1204 zq_44 (zr_ret dX12_told_97) zr_no))
def zb_X12_told_98 (E : zj_E) (st : List Value) (m : zj_M) : zj_R := (zi_ald 0 (zi_vc 12 0 zf_X12_trouble (zi_ret (some .int)) zi_no)) E st m
set_option maxRecDepth 20000 in
theorem zs_X12_told_98 : zj_KC cX12_told RX12 2 (7) (some .int) (0, fun _ => 0) 98 (zb_X12_told_98) := (zr_aldn dX12_told_98 rfl (zr_callV dX12_told_99 zm_X12_trouble ⟨⟨zq_1209, zq_77⟩, by decide +kernel, by omega, by decide⟩ rfl rfl zq_1206 zq_1208 zq_45 (zr_ret dX12_told_102) zr_no))
def zb_X12_told_103 (E : zj_E) (st : List Value) (m : zj_M) : zj_R := (zi_ald 0 (zi_push (.int 0) (zi_vc 12 1 zf_X12_figure (zi_ret (some .int)) zi_no))) E st m
set_option maxRecDepth 20000 in
theorem zs_X12_told_103 : zj_KC cX12_told RX12 2 (7) (some .int) (0, fun _ => 0) 103 (zb_X12_told_103) := (zr_aldn dX12_told_103 rfl (zr_iconst dX12_told_104 rfl (zr_callV dX12_told_105 zm_X12_figure ⟨⟨zq_1233, zq_77⟩, by decide +kernel, by omega, by decide⟩ rfl rfl zq_1230 zq_1232 zq_51 (zr_ret dX12_told_108) zr_no)))
def zb_X12_told_109 (E : zj_E) (st : List Value) (m : zj_M) : zj_R := (zi_ald 0 (zi_push (.int 1) (zi_vc 12 1 zf_X12_figure (zi_ret (some .int)) zi_no))) E st m
set_option maxRecDepth 20000 in
theorem zs_X12_told_109 : zj_KC cX12_told RX12 2 (7) (some .int) (0, fun _ => 0) 109 (zb_X12_told_109) := (zr_aldn dX12_told_109 rfl (zr_iconst dX12_told_110 rfl (zr_callV dX12_told_111 zm_X12_figure ⟨⟨zq_1233, zq_77⟩, by decide +kernel, by omega, by decide⟩ rfl rfl zq_1230 zq_1232 zq_51 (zr_ret dX12_told_114) zr_no)))
def zb_X12_told_141 (E : zj_E) (st : List Value) (m : zj_M) : zj_R := (zi_ret (some .int)) E st m
set_option maxRecDepth 20000 in
theorem zs_X12_told_141 : zj_KC cX12_told RX12 2 (7) (some .int) (0, fun _ => 0) 141 (zb_X12_told_141) := (zr_ret dX12_told_141)
def zb_X12_told_115 (E : zj_E) (st : List Value) (m : zj_M) : zj_R := (zi_ild 1 (zi_push (.int 10) (zi_b (fun x y => x - y) (zi_call 1 zf_X12_isMood (zi_eq (zi_push (.int (-1)) zb_X12_told_141) (zi_ald 0 (zi_gf 12 1 (zi_push (.int 33) (zi_ild 1 (zi_b (fun x y => x + y) (zi_push (.int 10) (zi_b (fun x y => x - y) (zi_iald zb_X12_told_141))))))))))))) E st m
set_option maxRecDepth 20000 in
theorem zs_X12_told_115 : zj_KC cX12_told RX12 2 (7) (some .int) (0, fun _ => 0) 115 (zb_X12_told_115) := (zr_ildn dX12_told_115 rfl (zr_bipush dX12_told_116 rfl (zr_isub dX12_told_118 (zr_callS dX12_told_119 zm_X12_isMood ⟨⟨zq_1120, zq_77⟩, by decide +kernel, by omega, by decide⟩ zq_1118 zq_1119 (zr_ifeq dX12_told_122 (tgt := 140) (by decide) (zr_iconst dX12_told_140 rfl (zs_X12_told_141)) (zr_aldn dX12_told_125 rfl (zr_gf dX12_told_126 zfl_X12_9_12 (zr_bipush dX12_told_129 rfl (zr_ildn dX12_told_131 rfl (zr_iadd dX12_told_132 (zr_bipush dX12_told_133 rfl (zr_isub dX12_told_135 (zr_iald dX12_told_136 (zr_goto dX12_told_137 (tgt := 141) (by decide) (zs_X12_told_141)))))))))))))))
def zb_X12_told_0 (E : zj_E) (st : List Value) (m : zj_M) : zj_R := (zi_ild 1 (zi_tsw 0 [zb_X12_told_52, zb_X12_told_59, zb_X12_told_68, zb_X12_told_81, zb_X12_told_88, zb_X12_told_93, zb_X12_told_98, zb_X12_told_103, zb_X12_told_109] zb_X12_told_115)) E st m
set_option maxRecDepth 20000 in
theorem zs_X12_told_0 : zj_KC cX12_told RX12 2 (7) (some .int) (0, fun _ => 0) 0 (zb_X12_told_0) := (zr_ildn dX12_told_0 rfl (zr_tsw dX12_told_1 (tgt := 115) (by decide) (hkd := (zs_X12_told_115)) (tg := [52, 59, 68, 81, 88, 93, 98, 103, 109] ) (hn := rfl) (hoff := by decide) (hl := rfl) ⟨(zs_X12_told_52), (zs_X12_told_59), (zs_X12_told_68), (zs_X12_told_81), (zs_X12_told_88), (zs_X12_told_93), (zs_X12_told_98), (zs_X12_told_103), (zs_X12_told_109), trivial⟩))
def zf_X12_told : zj_F := zj_run 2 zb_X12_told_0
theorem zm_X12_told : zj_MS 7 yX12_told cX12_told 2 (some .int) zf_X12_told := zj_met (own := RX12) rfl (by decide +kernel) (Or.inr (Or.inl rfl)) (zs_X12_told_0)
theorem dX12_goesOn_0 : decode cX12_goesOn 0 = .ok (.iconst 0, 1) := by decide +kernel
theorem dX12_goesOn_1 : decode cX12_goesOn 1 = .ok (.istore_n 2, 1) := by decide +kernel
theorem dX12_goesOn_2 : decode cX12_goesOn 2 = .ok (.iload_n 2, 1) := by decide +kernel
theorem dX12_goesOn_3 : decode cX12_goesOn 3 = .ok (.iload_n 1, 1) := by decide +kernel
theorem dX12_goesOn_4 : decode cX12_goesOn 4 = .ok (.if_icmp .ge 13, 3) := by decide +kernel
theorem dX12_goesOn_7 : decode cX12_goesOn 7 = .ok (.aload_n 0, 1) := by decide +kernel
theorem dX12_goesOn_8 : decode cX12_goesOn 8 = .ok (.invokevirtual 192, 3) := by decide +kernel
theorem dX12_goesOn_11 : decode cX12_goesOn 11 = .ok (.iinc 2 1, 3) := by decide +kernel
theorem dX12_goesOn_14 : decode cX12_goesOn 14 = .ok (.goto (-12), 3) := by decide +kernel
theorem dX12_goesOn_17 : decode cX12_goesOn 17 = .ok (.return_, 1) := by decide +kernel
def zb_X12_goesOn_2 (r2 : zj_K) (E : zj_E) (st : List Value) (m : zj_M) : zj_R := (zi_ild 2 (zi_ild 1 (zi_clt (zi_ald 0 (zi_vc 12 0 zf_X12_goes (zi_inc 2 1 r2) zi_no)) (zi_ret none)))) E st m
set_option maxRecDepth 20000 in
theorem zs_X12_goesOn_2 {r2 : zj_K} (h2 : zj_KC cX12_goesOn RX12 3 (5) none (0, fun _ => 0) 2 r2) : zj_KC cX12_goesOn RX12 3 (5) none (0, fun _ => 0) 2 (zb_X12_goesOn_2 r2) := (zr_ildn dX12_goesOn_2 rfl (zr_ildn dX12_goesOn_3 rfl (zr_icge dX12_goesOn_4 (tgt := 17) (by decide) (zr_ret dX12_goesOn_17) (zr_aldn dX12_goesOn_7 rfl (zr_callV dX12_goesOn_8 zm_X12_goes ⟨⟨zq_1221, zq_77⟩, by decide +kernel, by omega, by decide⟩ rfl rfl zq_1218 zq_1220 zq_48 (zr_inc dX12_goesOn_11 rfl (zr_goto dX12_goesOn_14 (tgt := 2) (by decide) h2)) zr_no)))))
def zb_X12_goesOn_0 (E : zj_E) (st : List Value) (m : zj_M) : zj_R := (zi_push (.int 0) (zi_ist 2 (zj_lp (zb_X12_goesOn_2) zj_fu))) E st m
set_option maxRecDepth 20000 in
theorem zs_X12_goesOn_0 : zj_KC cX12_goesOn RX12 3 (5) none (0, fun _ => 0) 0 (zb_X12_goesOn_0) := (zr_iconst dX12_goesOn_0 rfl (zr_istn dX12_goesOn_1 rfl (zr_lp (fun _ h => zs_X12_goesOn_2 h) zj_fu)))
def zf_X12_goesOn : zj_F := zj_run 3 zb_X12_goesOn_0
theorem zm_X12_goesOn : zj_MS 5 yX12_goesOn cX12_goesOn 3 none zf_X12_goesOn := zj_met (own := RX12) rfl (by decide +kernel) (Or.inl rfl) (zs_X12_goesOn_0)
theorem dX12_pass_0 : decode cX12_pass 0 = .ok (.iload_n 1, 1) := by decide +kernel
theorem dX12_pass_1 : decode cX12_pass 1 = .ok (.iconst 0, 1) := by decide +kernel
theorem dX12_pass_2 : decode cX12_pass 2 = .ok (.bipush 60, 2) := by decide +kernel
theorem dX12_pass_4 : decode cX12_pass 4 = .ok (.invokestatic 47, 3) := by decide +kernel
theorem dX12_pass_7 : decode cX12_pass 7 = .ok (.ifCond .ne 6, 3) := by decide +kernel
theorem dX12_pass_10 : decode cX12_pass 10 = .ok (.bipush (-2), 2) := by decide +kernel
theorem dX12_pass_12 : decode cX12_pass 12 = .ok (.ireturn, 1) := by decide +kernel
theorem dX12_pass_13 : decode cX12_pass 13 = .ok (.aload_n 0, 1) := by decide +kernel
theorem dX12_pass_14 : decode cX12_pass 14 = .ok (.getfield 9, 3) := by decide +kernel
theorem dX12_pass_17 : decode cX12_pass 17 = .ok (.iconst 0, 1) := by decide +kernel
theorem dX12_pass_18 : decode cX12_pass 18 = .ok (.iaload, 1) := by decide +kernel
theorem dX12_pass_19 : decode cX12_pass 19 = .ok (.iload_n 1, 1) := by decide +kernel
theorem dX12_pass_20 : decode cX12_pass 20 = .ok (.iadd, 1) := by decide +kernel
theorem dX12_pass_21 : decode cX12_pass 21 = .ok (.sipush 9999, 3) := by decide +kernel
theorem dX12_pass_24 : decode cX12_pass 24 = .ok (.if_icmp .le 6, 3) := by decide +kernel
theorem dX12_pass_27 : decode cX12_pass 27 = .ok (.bipush (-3), 2) := by decide +kernel
theorem dX12_pass_29 : decode cX12_pass 29 = .ok (.ireturn, 1) := by decide +kernel
theorem dX12_pass_30 : decode cX12_pass 30 = .ok (.aload_n 0, 1) := by decide +kernel
theorem dX12_pass_31 : decode cX12_pass 31 = .ok (.iload_n 1, 1) := by decide +kernel
theorem dX12_pass_32 : decode cX12_pass 32 = .ok (.invokevirtual 195, 3) := by decide +kernel
theorem dX12_pass_35 : decode cX12_pass 35 = .ok (.iconst 0, 1) := by decide +kernel
theorem dX12_pass_36 : decode cX12_pass 36 = .ok (.istore_n 2, 1) := by decide +kernel
theorem dX12_pass_37 : decode cX12_pass 37 = .ok (.iload_n 2, 1) := by decide +kernel
theorem dX12_pass_38 : decode cX12_pass 38 = .ok (.aload_n 0, 1) := by decide +kernel
theorem dX12_pass_39 : decode cX12_pass 39 = .ok (.getfield 9, 3) := by decide +kernel
theorem dX12_pass_42 : decode cX12_pass 42 = .ok (.bipush 26, 2) := by decide +kernel
theorem dX12_pass_44 : decode cX12_pass 44 = .ok (.iaload, 1) := by decide +kernel
theorem dX12_pass_45 : decode cX12_pass 45 = .ok (.if_icmp .ge 48, 3) := by decide +kernel
theorem dX12_pass_48 : decode cX12_pass 48 = .ok (.aload_n 0, 1) := by decide +kernel
theorem dX12_pass_49 : decode cX12_pass 49 = .ok (.getfield 9, 3) := by decide +kernel
theorem dX12_pass_52 : decode cX12_pass 52 = .ok (.bipush 20, 2) := by decide +kernel
theorem dX12_pass_54 : decode cX12_pass 54 = .ok (.iload_n 2, 1) := by decide +kernel
theorem dX12_pass_55 : decode cX12_pass 55 = .ok (.iadd, 1) := by decide +kernel
theorem dX12_pass_56 : decode cX12_pass 56 = .ok (.aload_n 0, 1) := by decide +kernel
theorem dX12_pass_57 : decode cX12_pass 57 = .ok (.getfield 9, 3) := by decide +kernel
theorem dX12_pass_60 : decode cX12_pass 60 = .ok (.bipush 20, 2) := by decide +kernel
theorem dX12_pass_62 : decode cX12_pass 62 = .ok (.iload_n 2, 1) := by decide +kernel
theorem dX12_pass_63 : decode cX12_pass 63 = .ok (.iadd, 1) := by decide +kernel
theorem dX12_pass_64 : decode cX12_pass 64 = .ok (.iaload, 1) := by decide +kernel
theorem dX12_pass_65 : decode cX12_pass 65 = .ok (.sipush 9999, 3) := by decide +kernel
theorem dX12_pass_68 : decode cX12_pass 68 = .ok (.if_icmp .le 9, 3) := by decide +kernel
theorem dX12_pass_71 : decode cX12_pass 71 = .ok (.sipush 9999, 3) := by decide +kernel
theorem dX12_pass_74 : decode cX12_pass 74 = .ok (.goto 12, 3) := by decide +kernel
theorem dX12_pass_77 : decode cX12_pass 77 = .ok (.aload_n 0, 1) := by decide +kernel
theorem dX12_pass_78 : decode cX12_pass 78 = .ok (.getfield 9, 3) := by decide +kernel
theorem dX12_pass_81 : decode cX12_pass 81 = .ok (.bipush 20, 2) := by decide +kernel
theorem dX12_pass_83 : decode cX12_pass 83 = .ok (.iload_n 2, 1) := by decide +kernel
theorem dX12_pass_84 : decode cX12_pass 84 = .ok (.iadd, 1) := by decide +kernel
theorem dX12_pass_85 : decode cX12_pass 85 = .ok (.iaload, 1) := by decide +kernel
theorem dX12_pass_86 : decode cX12_pass 86 = .ok (.iastore, 1) := by decide +kernel
theorem dX12_pass_87 : decode cX12_pass 87 = .ok (.iinc 2 1, 3) := by decide +kernel
theorem dX12_pass_90 : decode cX12_pass 90 = .ok (.goto (-53), 3) := by decide +kernel
theorem dX12_pass_93 : decode cX12_pass 93 = .ok (.aload_n 0, 1) := by decide +kernel
theorem dX12_pass_94 : decode cX12_pass 94 = .ok (.getfield 9, 3) := by decide +kernel
theorem dX12_pass_97 : decode cX12_pass 97 = .ok (.iconst 0, 1) := by decide +kernel
theorem dX12_pass_98 : decode cX12_pass 98 = .ok (.iaload, 1) := by decide +kernel
theorem dX12_pass_99 : decode cX12_pass 99 = .ok (.ireturn, 1) := by decide +kernel
def zb_X12_pass_86 (r37 : zj_K) (E : zj_E) (st : List Value) (m : zj_M) : zj_R := (zi_iast (zi_inc 2 1 r37)) E st m
set_option maxRecDepth 20000 in
theorem zs_X12_pass_86 {r37 : zj_K} (h37 : zj_KC cX12_pass RX12 3 (6) (some .int) (0, fun _ => 0) 37 r37) : zj_KC cX12_pass RX12 3 (6) (some .int) (0, fun _ => 0) 86 (zb_X12_pass_86 r37) := (zr_iast dX12_pass_86 (zr_inc dX12_pass_87 rfl (zr_goto dX12_pass_90 (tgt := 37) (by decide) h37)))
def zb_X12_pass_37 (r37 : zj_K) (E : zj_E) (st : List Value) (m : zj_M) : zj_R := (zi_ild 2 (zi_ald 0 (zi_gf 12 1 (zi_push (.int 26) (zi_iald (zi_clt (zi_ald 0 (zi_gf 12 1 (zi_push (.int 20) (zi_ild 2 (zi_b (fun x y => x + y) (zi_ald 0 (zi_gf 12 1 (zi_push (.int 20) (zi_ild 2 (zi_b (fun x y => x + y) (zi_iald (zi_push (.int 9999) (zi_cle (zi_ald 0 (zi_gf 12 1 (zi_push (.int 20) (zi_ild 2 (zi_b (fun x y => x + y) (zi_iald (zb_X12_pass_86 r37))))))) (zi_push (.int 9999) (zb_X12_pass_86 r37))))))))))))))) (zi_ald 0 (zi_gf 12 1 (zi_push (.int 0) (zi_iald (zi_ret (some .int)))))))))))) E st m
set_option maxRecDepth 20000 in
theorem zs_X12_pass_37 {r37 : zj_K} (h37 : zj_KC cX12_pass RX12 3 (6) (some .int) (0, fun _ => 0) 37 r37) : zj_KC cX12_pass RX12 3 (6) (some .int) (0, fun _ => 0) 37 (zb_X12_pass_37 r37) := (zr_ildn dX12_pass_37 rfl (zr_aldn dX12_pass_38 rfl (zr_gf dX12_pass_39 zfl_X12_9_12 (zr_bipush dX12_pass_42 rfl (zr_iald dX12_pass_44 (zr_icge dX12_pass_45 (tgt := 93) (by decide) (zr_aldn dX12_pass_93 rfl (zr_gf dX12_pass_94 zfl_X12_9_12 (zr_iconst dX12_pass_97 rfl (zr_iald dX12_pass_98 (zr_ret dX12_pass_99))))) (zr_aldn dX12_pass_48 rfl (zr_gf dX12_pass_49 zfl_X12_9_12 (zr_bipush dX12_pass_52 rfl (zr_ildn dX12_pass_54 rfl (zr_iadd dX12_pass_55 (zr_aldn dX12_pass_56 rfl (zr_gf dX12_pass_57 zfl_X12_9_12 (zr_bipush dX12_pass_60 rfl (zr_ildn dX12_pass_62 rfl (zr_iadd dX12_pass_63 (zr_iald dX12_pass_64 (zr_sipush dX12_pass_65 rfl (zr_icle dX12_pass_68 (tgt := 77) (by decide) (zr_aldn dX12_pass_77 rfl (zr_gf dX12_pass_78 zfl_X12_9_12 (zr_bipush dX12_pass_81 rfl (zr_ildn dX12_pass_83 rfl (zr_iadd dX12_pass_84 (zr_iald dX12_pass_85 (zs_X12_pass_86 h37))))))) (zr_sipush dX12_pass_71 rfl (zr_goto dX12_pass_74 (tgt := 86) (by decide) (zs_X12_pass_86 h37))))))))))))))))))))))
def zb_X12_pass_0 (E : zj_E) (st : List Value) (m : zj_M) : zj_R := (zi_ild 1 (zi_push (.int 0) (zi_push (.int 60) (zi_call 3 zf_X12_in (zi_eq (zi_push (.int (-2)) (zi_ret (some .int))) (zi_ald 0 (zi_gf 12 1 (zi_push (.int 0) (zi_iald (zi_ild 1 (zi_b (fun x y => x + y) (zi_push (.int 9999) (zi_cle (zi_ald 0 (zi_ild 1 (zi_vc 12 1 zf_X12_goesOn (zi_push (.int 0) (zi_ist 2 (zj_lp (zb_X12_pass_37) zj_fu))) zi_no))) (zi_push (.int (-3)) (zi_ret (some .int)))))))))))))))) E st m
set_option maxRecDepth 20000 in
theorem zs_X12_pass_0 : zj_KC cX12_pass RX12 3 (6) (some .int) (0, fun _ => 0) 0 (zb_X12_pass_0) := (zr_ildn dX12_pass_0 rfl (zr_iconst dX12_pass_1 rfl (zr_bipush dX12_pass_2 rfl (zr_callS dX12_pass_4 zm_X12_in ⟨⟨zq_1054, zq_77⟩, by decide +kernel, by omega, by decide⟩ zq_1052 zq_1053 (zr_ifne dX12_pass_7 (tgt := 13) (by decide) (zr_aldn dX12_pass_13 rfl (zr_gf dX12_pass_14 zfl_X12_9_12 (zr_iconst dX12_pass_17 rfl (zr_iald dX12_pass_18 (zr_ildn dX12_pass_19 rfl (zr_iadd dX12_pass_20 (zr_sipush dX12_pass_21 rfl (zr_icle dX12_pass_24 (tgt := 30) (by decide) (zr_aldn dX12_pass_30 rfl (zr_ildn dX12_pass_31 rfl (zr_callV dX12_pass_32 zm_X12_goesOn ⟨⟨zq_1241, zq_77⟩, by decide +kernel, by omega, by decide⟩ rfl rfl zq_1238 zq_1240 zq_52 (zr_iconst dX12_pass_35 rfl (zr_istn dX12_pass_36 rfl (zr_lp (fun _ h => zs_X12_pass_37 h) zj_fu))) zr_no))) (zr_bipush dX12_pass_27 rfl (zr_ret dX12_pass_29)))))))))) (zr_bipush dX12_pass_10 rfl (zr_ret dX12_pass_12)))))))
def zf_X12_pass : zj_F := zj_run 3 zb_X12_pass_0
theorem zm_X12_pass : zj_MS 6 yX12_pass cX12_pass 3 (some .int) zf_X12_pass := zj_met (own := RX12) rfl (by decide +kernel) (Or.inr (Or.inl rfl)) (zs_X12_pass_0)
theorem dX12_on_0 : decode cX12_on 0 = .ok (.iload_n 2, 1) := by decide +kernel
theorem dX12_on_1 : decode cX12_on 1 = .ok (.iconst 0, 1) := by decide +kernel
theorem dX12_on_2 : decode cX12_on 2 = .ok (.iconst 1, 1) := by decide +kernel
theorem dX12_on_3 : decode cX12_on 3 = .ok (.invokestatic 47, 3) := by decide +kernel
theorem dX12_on_6 : decode cX12_on 6 = .ok (.ifCond .ne 27, 3) := by decide +kernel
theorem dX12_on_9 : decode cX12_on 9 = .ok (.aload_n 0, 1) := by decide +kernel
theorem dX12_on_10 : decode cX12_on 10 = .ok (.iload_n 2, 1) := by decide +kernel
theorem dX12_on_11 : decode cX12_on 11 = .ok (.bipush 10, 2) := by decide +kernel
theorem dX12_on_13 : decode cX12_on 13 = .ok (.isub, 1) := by decide +kernel
theorem dX12_on_14 : decode cX12_on 14 = .ok (.invokevirtual 166, 3) := by decide +kernel
theorem dX12_on_17 : decode cX12_on 17 = .ok (.ifCond .ne 16, 3) := by decide +kernel
theorem dX12_on_20 : decode cX12_on 20 = .ok (.aload_n 0, 1) := by decide +kernel
theorem dX12_on_21 : decode cX12_on 21 = .ok (.iload_n 2, 1) := by decide +kernel
theorem dX12_on_22 : decode cX12_on 22 = .ok (.bipush 20, 2) := by decide +kernel
theorem dX12_on_24 : decode cX12_on 24 = .ok (.isub, 1) := by decide +kernel
theorem dX12_on_25 : decode cX12_on 25 = .ok (.invokevirtual 166, 3) := by decide +kernel
theorem dX12_on_28 : decode cX12_on 28 = .ok (.ifCond .ne 5, 3) := by decide +kernel
theorem dX12_on_31 : decode cX12_on 31 = .ok (.iconst (-1), 1) := by decide +kernel
theorem dX12_on_32 : decode cX12_on 32 = .ok (.ireturn, 1) := by decide +kernel
theorem dX12_on_33 : decode cX12_on 33 = .ok (.iload_n 1, 1) := by decide +kernel
theorem dX12_on_34 : decode cX12_on 34 = .ok (.iconst 0, 1) := by decide +kernel
theorem dX12_on_35 : decode cX12_on 35 = .ok (.bipush 60, 2) := by decide +kernel
theorem dX12_on_37 : decode cX12_on 37 = .ok (.invokestatic 47, 3) := by decide +kernel
theorem dX12_on_40 : decode cX12_on 40 = .ok (.ifCond .ne 6, 3) := by decide +kernel
theorem dX12_on_43 : decode cX12_on 43 = .ok (.bipush (-2), 2) := by decide +kernel
theorem dX12_on_45 : decode cX12_on 45 = .ok (.ireturn, 1) := by decide +kernel
theorem dX12_on_46 : decode cX12_on 46 = .ok (.aload_n 0, 1) := by decide +kernel
theorem dX12_on_47 : decode cX12_on 47 = .ok (.invokevirtual 198, 3) := by decide +kernel
theorem dX12_on_50 : decode cX12_on 50 = .ok (.aload_n 0, 1) := by decide +kernel
theorem dX12_on_51 : decode cX12_on 51 = .ok (.iload_n 1, 1) := by decide +kernel
theorem dX12_on_52 : decode cX12_on 52 = .ok (.invokevirtual 195, 3) := by decide +kernel
theorem dX12_on_55 : decode cX12_on 55 = .ok (.iload_n 2, 1) := by decide +kernel
theorem dX12_on_56 : decode cX12_on 56 = .ok (.ifCond .ne 10, 3) := by decide +kernel
theorem dX12_on_59 : decode cX12_on 59 = .ok (.aload_n 0, 1) := by decide +kernel
theorem dX12_on_60 : decode cX12_on 60 = .ok (.invokevirtual 176, 3) := by decide +kernel
theorem dX12_on_63 : decode cX12_on 63 = .ok (.goto 47, 3) := by decide +kernel
theorem dX12_on_66 : decode cX12_on 66 = .ok (.iload_n 2, 1) := by decide +kernel
theorem dX12_on_67 : decode cX12_on 67 = .ok (.iconst 1, 1) := by decide +kernel
theorem dX12_on_68 : decode cX12_on 68 = .ok (.if_icmp .ne 10, 3) := by decide +kernel
theorem dX12_on_71 : decode cX12_on 71 = .ok (.aload_n 0, 1) := by decide +kernel
theorem dX12_on_72 : decode cX12_on 72 = .ok (.invokevirtual 179, 3) := by decide +kernel
theorem dX12_on_75 : decode cX12_on 75 = .ok (.goto 35, 3) := by decide +kernel
theorem dX12_on_78 : decode cX12_on 78 = .ok (.iload_n 2, 1) := by decide +kernel
theorem dX12_on_79 : decode cX12_on 79 = .ok (.bipush 20, 2) := by decide +kernel
theorem dX12_on_81 : decode cX12_on 81 = .ok (.if_icmp .ge 17, 3) := by decide +kernel
theorem dX12_on_84 : decode cX12_on 84 = .ok (.aload_n 0, 1) := by decide +kernel
theorem dX12_on_85 : decode cX12_on 85 = .ok (.getfield 9, 3) := by decide +kernel
theorem dX12_on_88 : decode cX12_on 88 = .ok (.iconst 2, 1) := by decide +kernel
theorem dX12_on_89 : decode cX12_on 89 = .ok (.iload_n 2, 1) := by decide +kernel
theorem dX12_on_90 : decode cX12_on 90 = .ok (.iadd, 1) := by decide +kernel
theorem dX12_on_91 : decode cX12_on 91 = .ok (.bipush 10, 2) := by decide +kernel
theorem dX12_on_93 : decode cX12_on 93 = .ok (.isub, 1) := by decide +kernel
theorem dX12_on_94 : decode cX12_on 94 = .ok (.iaload, 1) := by decide +kernel
theorem dX12_on_95 : decode cX12_on 95 = .ok (.goto 15, 3) := by decide +kernel
theorem dX12_on_98 : decode cX12_on 98 = .ok (.aload_n 0, 1) := by decide +kernel
theorem dX12_on_99 : decode cX12_on 99 = .ok (.getfield 9, 3) := by decide +kernel
theorem dX12_on_102 : decode cX12_on 102 = .ok (.bipush 8, 2) := by decide +kernel
theorem dX12_on_104 : decode cX12_on 104 = .ok (.iload_n 2, 1) := by decide +kernel
theorem dX12_on_105 : decode cX12_on 105 = .ok (.iadd, 1) := by decide +kernel
theorem dX12_on_106 : decode cX12_on 106 = .ok (.bipush 20, 2) := by decide +kernel
theorem dX12_on_108 : decode cX12_on 108 = .ok (.isub, 1) := by decide +kernel
theorem dX12_on_109 : decode cX12_on 109 = .ok (.iaload, 1) := by decide +kernel
theorem dX12_on_110 : decode cX12_on 110 = .ok (.istore_n 3, 1) := by decide +kernel
theorem dX12_on_111 : decode cX12_on 111 = .ok (.aload_n 0, 1) := by decide +kernel
theorem dX12_on_112 : decode cX12_on 112 = .ok (.invokevirtual 201, 3) := by decide +kernel
theorem dX12_on_115 : decode cX12_on 115 = .ok (.iload_n 3, 1) := by decide +kernel
theorem dX12_on_116 : decode cX12_on 116 = .ok (.ireturn, 1) := by decide +kernel
def zb_X12_on_110 (E : zj_E) (st : List Value) (m : zj_M) : zj_R := (zi_ist 3 (zi_ald 0 (zi_vc 12 0 zf_X12_goesBack (zi_ild 3 (zi_ret (some .int))) zi_no))) E st m
set_option maxRecDepth 20000 in
theorem zs_X12_on_110 : zj_KC cX12_on RX12 4 (6) (some .int) (0, fun _ => 0) 110 (zb_X12_on_110) := (zr_istn dX12_on_110 rfl (zr_aldn dX12_on_111 rfl (zr_callV dX12_on_112 zm_X12_goesBack ⟨⟨zq_1229, zq_77⟩, by decide +kernel, by omega, by decide⟩ rfl rfl zq_1226 zq_1228 zq_50 (zr_ildn dX12_on_115 rfl (zr_ret dX12_on_116)) zr_no)))
def zb_X12_on_33 (E : zj_E) (st : List Value) (m : zj_M) : zj_R := (zi_ild 1 (zi_push (.int 0) (zi_push (.int 60) (zi_call 3 zf_X12_in (zi_eq (zi_push (.int (-2)) (zi_ret (some .int))) (zi_ald 0 (zi_vc 12 0 zf_X12_keeps (zi_ald 0 (zi_ild 1 (zi_vc 12 1 zf_X12_goesOn (zi_ild 2 (zi_eq (zi_ald 0 (zi_vc 12 0 zf_X12_manyStray zb_X12_on_110 zi_no)) (zi_ild 2 (zi_push (.int 1) (zi_ceq (zi_ald 0 (zi_vc 12 0 zf_X12_allMoved zb_X12_on_110 zi_no)) (zi_ild 2 (zi_push (.int 20) (zi_clt (zi_ald 0 (zi_gf 12 1 (zi_push (.int 2) (zi_ild 2 (zi_b (fun x y => x + y) (zi_push (.int 10) (zi_b (fun x y => x - y) (zi_iald zb_X12_on_110)))))))) (zi_ald 0 (zi_gf 12 1 (zi_push (.int 8) (zi_ild 2 (zi_b (fun x y => x + y) (zi_push (.int 20) (zi_b (fun x y => x - y) (zi_iald zb_X12_on_110)))))))))))))))) zi_no))) zi_no))))))) E st m
set_option maxRecDepth 20000 in
theorem zs_X12_on_33 : zj_KC cX12_on RX12 4 (6) (some .int) (0, fun _ => 0) 33 (zb_X12_on_33) := (zr_ildn dX12_on_33 rfl (zr_iconst dX12_on_34 rfl (zr_bipush dX12_on_35 rfl (zr_callS dX12_on_37 zm_X12_in ⟨⟨zq_1054, zq_77⟩, by decide +kernel, by omega, by decide⟩ zq_1052 zq_1053 (zr_ifne dX12_on_40 (tgt := 46) (by decide) (zr_aldn dX12_on_46 rfl (zr_callV dX12_on_47 zm_X12_keeps ⟨⟨zq_1213, zq_77⟩, by decide +kernel, by omega, by decide⟩ rfl rfl zq_1210 zq_1212 zq_46 (zr_aldn dX12_on_50 rfl (zr_ildn dX12_on_51 rfl (zr_callV dX12_on_52 zm_X12_goesOn ⟨⟨zq_1241, zq_77⟩, by decide +kernel, by omega, by decide⟩ rfl rfl zq_1238 zq_1240 zq_52 (zr_ildn dX12_on_55 rfl (zr_ifne dX12_on_56 (tgt := 66) (by decide) (zr_ildn dX12_on_66 rfl (zr_iconst dX12_on_67 rfl (zr_icne dX12_on_68 (tgt := 78) (by decide) (zr_ildn dX12_on_78 rfl (zr_bipush dX12_on_79 rfl (zr_icge dX12_on_81 (tgt := 98) (by decide) (zr_aldn dX12_on_98 rfl (zr_gf dX12_on_99 zfl_X12_9_12 (zr_bipush dX12_on_102 rfl (zr_ildn dX12_on_104 rfl (zr_iadd dX12_on_105 (zr_bipush dX12_on_106 rfl (zr_isub dX12_on_108 (zr_iald dX12_on_109 (zs_X12_on_110))))))))) (zr_aldn dX12_on_84 rfl (zr_gf dX12_on_85 zfl_X12_9_12 (zr_iconst dX12_on_88 rfl (zr_ildn dX12_on_89 rfl (zr_iadd dX12_on_90 (zr_bipush dX12_on_91 rfl (zr_isub dX12_on_93 (zr_iald dX12_on_94 (zr_goto dX12_on_95 (tgt := 110) (by decide) (zs_X12_on_110))))))))))))) (zr_aldn dX12_on_71 rfl (zr_callV dX12_on_72 zm_X12_allMoved ⟨⟨zq_1205, zq_77⟩, by decide +kernel, by omega, by decide⟩ rfl rfl zq_1202 zq_1204 zq_44 (zr_goto dX12_on_75 (tgt := 110) (by decide) (zs_X12_on_110)) zr_no))))) (zr_aldn dX12_on_59 rfl (zr_callV dX12_on_60 zm_X12_manyStray ⟨⟨zq_1201, zq_77⟩, by decide +kernel, by omega, by decide⟩ rfl rfl zq_1198 zq_1200 zq_43 (zr_goto dX12_on_63 (tgt := 110) (by decide) (zs_X12_on_110)) zr_no)))) zr_no))) zr_no)) (zr_bipush dX12_on_43 rfl (zr_ret dX12_on_45)))))))
def zb_X12_on_0 (E : zj_E) (st : List Value) (m : zj_M) : zj_R := (zi_ild 2 (zi_push (.int 0) (zi_push (.int 1) (zi_call 3 zf_X12_in (zi_eq (zi_ald 0 (zi_ild 2 (zi_push (.int 10) (zi_b (fun x y => x - y) (zi_vc 12 1 zf_X12_isWalker (zi_eq (zi_ald 0 (zi_ild 2 (zi_push (.int 20) (zi_b (fun x y => x - y) (zi_vc 12 1 zf_X12_isWalker (zi_eq (zi_push (.int (-1)) (zi_ret (some .int))) zb_X12_on_33) zi_no))))) zb_X12_on_33) zi_no))))) zb_X12_on_33))))) E st m
set_option maxRecDepth 20000 in
theorem zs_X12_on_0 : zj_KC cX12_on RX12 4 (6) (some .int) (0, fun _ => 0) 0 (zb_X12_on_0) := (zr_ildn dX12_on_0 rfl (zr_iconst dX12_on_1 rfl (zr_iconst dX12_on_2 rfl (zr_callS dX12_on_3 zm_X12_in ⟨⟨zq_1054, zq_77⟩, by decide +kernel, by omega, by decide⟩ zq_1052 zq_1053 (zr_ifne dX12_on_6 (tgt := 33) (by decide) (zs_X12_on_33) (zr_aldn dX12_on_9 rfl (zr_ildn dX12_on_10 rfl (zr_bipush dX12_on_11 rfl (zr_isub dX12_on_13 (zr_callV dX12_on_14 zm_X12_isWalker ⟨⟨zq_1144, zq_77⟩, by decide +kernel, by omega, by decide⟩ rfl rfl zq_1141 zq_1143 zq_33 (zr_ifne dX12_on_17 (tgt := 33) (by decide) (zs_X12_on_33) (zr_aldn dX12_on_20 rfl (zr_ildn dX12_on_21 rfl (zr_bipush dX12_on_22 rfl (zr_isub dX12_on_24 (zr_callV dX12_on_25 zm_X12_isWalker ⟨⟨zq_1144, zq_77⟩, by decide +kernel, by omega, by decide⟩ rfl rfl zq_1141 zq_1143 zq_33 (zr_ifne dX12_on_28 (tgt := 33) (by decide) (zs_X12_on_33) (zr_iconst dX12_on_31 rfl (zr_ret dX12_on_32))) zr_no)))))) zr_no))))))))))
def zf_X12_on : zj_F := zj_run 4 zb_X12_on_0
theorem zm_X12_on : zj_MS 6 yX12_on cX12_on 4 (some .int) zf_X12_on := zj_met (own := RX12) rfl (by decide +kernel) (Or.inr (Or.inl rfl)) (zs_X12_on_0)
theorem dX12_strays_0 : decode cX12_strays 0 = .ok (.aload_n 0, 1) := by decide +kernel
theorem dX12_strays_1 : decode cX12_strays 1 = .ok (.iload_n 1, 1) := by decide +kernel
theorem dX12_strays_2 : decode cX12_strays 2 = .ok (.invokevirtual 166, 3) := by decide +kernel
theorem dX12_strays_5 : decode cX12_strays 5 = .ok (.ifCond .ne 5, 3) := by decide +kernel
theorem dX12_strays_8 : decode cX12_strays 8 = .ok (.iconst (-1), 1) := by decide +kernel
theorem dX12_strays_9 : decode cX12_strays 9 = .ok (.ireturn, 1) := by decide +kernel
theorem dX12_strays_10 : decode cX12_strays 10 = .ok (.aload_n 0, 1) := by decide +kernel
theorem dX12_strays_11 : decode cX12_strays 11 = .ok (.invokevirtual 198, 3) := by decide +kernel
theorem dX12_strays_14 : decode cX12_strays 14 = .ok (.bipush (-5), 2) := by decide +kernel
theorem dX12_strays_16 : decode cX12_strays 16 = .ok (.istore_n 2, 1) := by decide +kernel
theorem dX12_strays_17 : decode cX12_strays 17 = .ok (.iconst 0, 1) := by decide +kernel
theorem dX12_strays_18 : decode cX12_strays 18 = .ok (.istore_n 3, 1) := by decide +kernel
theorem dX12_strays_19 : decode cX12_strays 19 = .ok (.iload_n 3, 1) := by decide +kernel
theorem dX12_strays_20 : decode cX12_strays 20 = .ok (.bipush 60, 2) := by decide +kernel
theorem dX12_strays_22 : decode cX12_strays 22 = .ok (.if_icmp .gt 34, 3) := by decide +kernel
theorem dX12_strays_25 : decode cX12_strays 25 = .ok (.iload_n 2, 1) := by decide +kernel
theorem dX12_strays_26 : decode cX12_strays 26 = .ok (.bipush (-5), 2) := by decide +kernel
theorem dX12_strays_28 : decode cX12_strays 28 = .ok (.if_icmp .ne 28, 3) := by decide +kernel
theorem dX12_strays_31 : decode cX12_strays 31 = .ok (.aload_n 0, 1) := by decide +kernel
theorem dX12_strays_32 : decode cX12_strays 32 = .ok (.iload_n 1, 1) := by decide +kernel
theorem dX12_strays_33 : decode cX12_strays 33 = .ok (.invokevirtual 149, 3) := by decide +kernel
theorem dX12_strays_36 : decode cX12_strays 36 = .ok (.ifCond .eq 7, 3) := by decide +kernel
theorem dX12_strays_39 : decode cX12_strays 39 = .ok (.iload_n 3, 1) := by decide +kernel
theorem dX12_strays_40 : decode cX12_strays 40 = .ok (.goto 5, 3) := by decide +kernel
theorem dX12_strays_43 : decode cX12_strays 43 = .ok (.bipush (-5), 2) := by decide +kernel
theorem dX12_strays_45 : decode cX12_strays 45 = .ok (.istore_n 2, 1) := by decide +kernel
theorem dX12_strays_46 : decode cX12_strays 46 = .ok (.aload_n 0, 1) := by decide +kernel
theorem dX12_strays_47 : decode cX12_strays 47 = .ok (.invokevirtual 192, 3) := by decide +kernel
theorem dX12_strays_50 : decode cX12_strays 50 = .ok (.iinc 3 1, 3) := by decide +kernel
theorem dX12_strays_53 : decode cX12_strays 53 = .ok (.goto (-34), 3) := by decide +kernel
theorem dX12_strays_56 : decode cX12_strays 56 = .ok (.aload_n 0, 1) := by decide +kernel
theorem dX12_strays_57 : decode cX12_strays 57 = .ok (.invokevirtual 201, 3) := by decide +kernel
theorem dX12_strays_60 : decode cX12_strays 60 = .ok (.iload_n 2, 1) := by decide +kernel
theorem dX12_strays_61 : decode cX12_strays 61 = .ok (.ireturn, 1) := by decide +kernel
def zb_X12_strays_56 (E : zj_E) (st : List Value) (m : zj_M) : zj_R := (zi_ald 0 (zi_vc 12 0 zf_X12_goesBack (zi_ild 2 (zi_ret (some .int))) zi_no)) E st m
set_option maxRecDepth 20000 in
theorem zs_X12_strays_56 : zj_KC cX12_strays RX12 4 (5) (some .int) (0, fun _ => 0) 56 (zb_X12_strays_56) := (zr_aldn dX12_strays_56 rfl (zr_callV dX12_strays_57 zm_X12_goesBack ⟨⟨zq_1229, zq_77⟩, by decide +kernel, by omega, by decide⟩ rfl rfl zq_1226 zq_1228 zq_50 (zr_ildn dX12_strays_60 rfl (zr_ret dX12_strays_61)) zr_no))
def zb_X12_strays_45 (r19 : zj_K) (E : zj_E) (st : List Value) (m : zj_M) : zj_R := (zi_ist 2 (zi_ald 0 (zi_vc 12 0 zf_X12_goes (zi_inc 3 1 r19) zi_no))) E st m
set_option maxRecDepth 20000 in
theorem zs_X12_strays_45 {r19 : zj_K} (h19 : zj_KC cX12_strays RX12 4 (5) (some .int) (0, fun _ => 0) 19 r19) : zj_KC cX12_strays RX12 4 (5) (some .int) (0, fun _ => 0) 45 (zb_X12_strays_45 r19) := (zr_istn dX12_strays_45 rfl (zr_aldn dX12_strays_46 rfl (zr_callV dX12_strays_47 zm_X12_goes ⟨⟨zq_1221, zq_77⟩, by decide +kernel, by omega, by decide⟩ rfl rfl zq_1218 zq_1220 zq_48 (zr_inc dX12_strays_50 rfl (zr_goto dX12_strays_53 (tgt := 19) (by decide) h19)) zr_no)))
def zb_X12_strays_19 (r19 : zj_K) (E : zj_E) (st : List Value) (m : zj_M) : zj_R := (zi_ild 3 (zi_push (.int 60) (zi_cle (zi_ild 2 (zi_push (.int (-5)) (zi_ceq (zi_ald 0 (zi_ild 1 (zi_vc 12 1 zf_X12_isStray (zi_eq (zi_push (.int (-5)) (zb_X12_strays_45 r19)) (zi_ild 3 (zb_X12_strays_45 r19))) zi_no))) zb_X12_strays_56))) zb_X12_strays_56))) E st m
set_option maxRecDepth 20000 in
theorem zs_X12_strays_19 {r19 : zj_K} (h19 : zj_KC cX12_strays RX12 4 (5) (some .int) (0, fun _ => 0) 19 r19) : zj_KC cX12_strays RX12 4 (5) (some .int) (0, fun _ => 0) 19 (zb_X12_strays_19 r19) := (zr_ildn dX12_strays_19 rfl (zr_bipush dX12_strays_20 rfl (zr_icgt dX12_strays_22 (tgt := 56) (by decide) (zs_X12_strays_56) (zr_ildn dX12_strays_25 rfl (zr_bipush dX12_strays_26 rfl (zr_icne dX12_strays_28 (tgt := 56) (by decide) (zs_X12_strays_56) (zr_aldn dX12_strays_31 rfl (zr_ildn dX12_strays_32 rfl (zr_callV dX12_strays_33 zm_X12_isStray ⟨⟨zq_1149, zq_77⟩, by decide +kernel, by omega, by decide⟩ rfl rfl zq_1146 zq_1148 zq_34 (zr_ifeq dX12_strays_36 (tgt := 43) (by decide) (zr_bipush dX12_strays_43 rfl (zs_X12_strays_45 h19)) (zr_ildn dX12_strays_39 rfl (zr_goto dX12_strays_40 (tgt := 45) (by decide) (zs_X12_strays_45 h19)))) zr_no)))))))))
def zb_X12_strays_0 (E : zj_E) (st : List Value) (m : zj_M) : zj_R := (zi_ald 0 (zi_ild 1 (zi_vc 12 1 zf_X12_isWalker (zi_eq (zi_push (.int (-1)) (zi_ret (some .int))) (zi_ald 0 (zi_vc 12 0 zf_X12_keeps (zi_push (.int (-5)) (zi_ist 2 (zi_push (.int 0) (zi_ist 3 (zj_lp (zb_X12_strays_19) zj_fu))))) zi_no))) zi_no))) E st m
set_option maxRecDepth 20000 in
theorem zs_X12_strays_0 : zj_KC cX12_strays RX12 4 (5) (some .int) (0, fun _ => 0) 0 (zb_X12_strays_0) := (zr_aldn dX12_strays_0 rfl (zr_ildn dX12_strays_1 rfl (zr_callV dX12_strays_2 zm_X12_isWalker ⟨⟨zq_1144, zq_77⟩, by decide +kernel, by omega, by decide⟩ rfl rfl zq_1141 zq_1143 zq_33 (zr_ifne dX12_strays_5 (tgt := 10) (by decide) (zr_aldn dX12_strays_10 rfl (zr_callV dX12_strays_11 zm_X12_keeps ⟨⟨zq_1213, zq_77⟩, by decide +kernel, by omega, by decide⟩ rfl rfl zq_1210 zq_1212 zq_46 (zr_bipush dX12_strays_14 rfl (zr_istn dX12_strays_16 rfl (zr_iconst dX12_strays_17 rfl (zr_istn dX12_strays_18 rfl (zr_lp (fun _ h => zs_X12_strays_19 h) zj_fu))))) zr_no)) (zr_iconst dX12_strays_8 rfl (zr_ret dX12_strays_9))) zr_no)))
def zf_X12_strays : zj_F := zj_run 4 zb_X12_strays_0
theorem zm_X12_strays : zj_MS 5 yX12_strays cX12_strays 4 (some .int) zf_X12_strays := zj_met (own := RX12) rfl (by decide +kernel) (Or.inr (Or.inl rfl)) (zs_X12_strays_0)
