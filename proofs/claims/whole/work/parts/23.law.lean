def RL : String := "RoadForMoodLaw"
theorem zq_366 : Cond.methodLink RL 13 yX11_feed ∈ zj_T := zj_mem (i := 366) (by decide +kernel) rfl
theorem zq_367 : Cond.instanceMethod yX11_feed ∈ zj_T := zj_mem (i := 367) (by decide +kernel) rfl
theorem zq_368 : Cond.selects RX11 yX11_feed yX11_feed ∈ zj_T := zj_mem (i := 368) (by decide +kernel) rfl
theorem zq_369 : Cond.code yX11_feed cX11_feed 2 (some .int) ∈ zj_T := zj_mem (i := 369) (by decide +kernel) rfl
theorem zq_378 : Cond.methodLink RL 18 yX11_park ∈ zj_T := zj_mem (i := 378) (by decide +kernel) rfl
theorem zq_379 : Cond.instanceMethod yX11_park ∈ zj_T := zj_mem (i := 379) (by decide +kernel) rfl
theorem zq_380 : Cond.selects RX11 yX11_park yX11_park ∈ zj_T := zj_mem (i := 380) (by decide +kernel) rfl
theorem zq_381 : Cond.code yX11_park cX11_park 2 (some .int) ∈ zj_T := zj_mem (i := 381) (by decide +kernel) rfl
theorem zq_566 : Cond.methodLink RL 23 yX11_road ∈ zj_T := zj_mem (i := 566) (by decide +kernel) rfl
theorem zq_567 : Cond.instanceMethod yX11_road ∈ zj_T := zj_mem (i := 567) (by decide +kernel) rfl
theorem zq_568 : Cond.selects RX11 yX11_road yX11_road ∈ zj_T := zj_mem (i := 568) (by decide +kernel) rfl
theorem zq_569 : Cond.code yX11_road cX11_road 4 (some .int) ∈ zj_T := zj_mem (i := 569) (by decide +kernel) rfl
theorem zq_574 : Cond.methodLink RL 28 yX11_keep ∈ zj_T := zj_mem (i := 574) (by decide +kernel) rfl
theorem zq_575 : Cond.instanceMethod yX11_keep ∈ zj_T := zj_mem (i := 575) (by decide +kernel) rfl
theorem zq_576 : Cond.selects RX11 yX11_keep yX11_keep ∈ zj_T := zj_mem (i := 576) (by decide +kernel) rfl
theorem zq_577 : Cond.code yX11_keep cX11_keep 3 (some .int) ∈ zj_T := zj_mem (i := 577) (by decide +kernel) rfl
theorem zq_578 : Cond.methodLink RL 32 yX11_walker ∈ zj_T := zj_mem (i := 578) (by decide +kernel) rfl
theorem zq_579 : Cond.instanceMethod yX11_walker ∈ zj_T := zj_mem (i := 579) (by decide +kernel) rfl
theorem zq_580 : Cond.selects RX11 yX11_walker yX11_walker ∈ zj_T := zj_mem (i := 580) (by decide +kernel) rfl
theorem zq_581 : Cond.code yX11_walker cX11_walker 5 (some .int) ∈ zj_T := zj_mem (i := 581) (by decide +kernel) rfl
theorem zq_590 : Cond.methodLink RL 37 yX11_of ∈ zj_T := zj_mem (i := 590) (by decide +kernel) rfl
theorem zq_591 : Cond.instanceMethod yX11_of ∈ zj_T := zj_mem (i := 591) (by decide +kernel) rfl
theorem zq_592 : Cond.selects RX11 yX11_of yX11_of ∈ zj_T := zj_mem (i := 592) (by decide +kernel) rfl
theorem zq_593 : Cond.code yX11_of cX11_of 4 (some .int) ∈ zj_T := zj_mem (i := 593) (by decide +kernel) rfl
theorem zq_699 : Cond.methodLink RL 41 yX11_row ∈ zj_T := zj_mem (i := 699) (by decide +kernel) rfl
theorem zq_700 : Cond.instanceMethod yX11_row ∈ zj_T := zj_mem (i := 700) (by decide +kernel) rfl
theorem zq_701 : Cond.selects RX11 yX11_row yX11_row ∈ zj_T := zj_mem (i := 701) (by decide +kernel) rfl
theorem zq_702 : Cond.code yX11_row cX11_row 6 (some .int) ∈ zj_T := zj_mem (i := 702) (by decide +kernel) rfl
theorem zq_707 : Cond.methodLink RL 46 yX11_set ∈ zj_T := zj_mem (i := 707) (by decide +kernel) rfl
theorem zq_708 : Cond.instanceMethod yX11_set ∈ zj_T := zj_mem (i := 708) (by decide +kernel) rfl
theorem zq_709 : Cond.selects RX11 yX11_set yX11_set ∈ zj_T := zj_mem (i := 709) (by decide +kernel) rfl
theorem zq_710 : Cond.code yX11_set cX11_set 5 (some .int) ∈ zj_T := zj_mem (i := 710) (by decide +kernel) rfl
theorem zq_711 : Cond.methodLink RL 50 yX11_away ∈ zj_T := zj_mem (i := 711) (by decide +kernel) rfl
theorem zq_712 : Cond.instanceMethod yX11_away ∈ zj_T := zj_mem (i := 712) (by decide +kernel) rfl
theorem zq_713 : Cond.selects RX11 yX11_away yX11_away ∈ zj_T := zj_mem (i := 713) (by decide +kernel) rfl
theorem zq_714 : Cond.code yX11_away cX11_away 4 (some .int) ∈ zj_T := zj_mem (i := 714) (by decide +kernel) rfl
theorem zq_716 : Cond.methodLink RL 55 yX11_told ∈ zj_T := zj_mem (i := 716) (by decide +kernel) rfl
theorem zq_717 : Cond.instanceMethod yX11_told ∈ zj_T := zj_mem (i := 717) (by decide +kernel) rfl
theorem zq_718 : Cond.selects RX11 yX11_told yX11_told ∈ zj_T := zj_mem (i := 718) (by decide +kernel) rfl
theorem zq_719 : Cond.code yX11_told cX11_told 3 (some .int) ∈ zj_T := zj_mem (i := 719) (by decide +kernel) rfl
theorem zq_764 : Cond.methodLink RL 59 yX11_pass ∈ zj_T := zj_mem (i := 764) (by decide +kernel) rfl
theorem zq_765 : Cond.instanceMethod yX11_pass ∈ zj_T := zj_mem (i := 765) (by decide +kernel) rfl
theorem zq_766 : Cond.selects RX11 yX11_pass yX11_pass ∈ zj_T := zj_mem (i := 766) (by decide +kernel) rfl
theorem zq_767 : Cond.code yX11_pass cX11_pass 2 (some .int) ∈ zj_T := zj_mem (i := 767) (by decide +kernel) rfl
theorem zq_772 : Cond.methodLink RL 63 yX11_on ∈ zj_T := zj_mem (i := 772) (by decide +kernel) rfl
theorem zq_773 : Cond.instanceMethod yX11_on ∈ zj_T := zj_mem (i := 773) (by decide +kernel) rfl
theorem zq_774 : Cond.selects RX11 yX11_on yX11_on ∈ zj_T := zj_mem (i := 774) (by decide +kernel) rfl
theorem zq_775 : Cond.code yX11_on cX11_on 6 (some .int) ∈ zj_T := zj_mem (i := 775) (by decide +kernel) rfl
theorem zq_776 : Cond.methodLink RL 67 yX11_strays ∈ zj_T := zj_mem (i := 776) (by decide +kernel) rfl
theorem zq_777 : Cond.instanceMethod yX11_strays ∈ zj_T := zj_mem (i := 777) (by decide +kernel) rfl
theorem zq_778 : Cond.selects RX11 yX11_strays yX11_strays ∈ zj_T := zj_mem (i := 778) (by decide +kernel) rfl
theorem zq_779 : Cond.code yX11_strays cX11_strays 4 (some .int) ∈ zj_T := zj_mem (i := 779) (by decide +kernel) rfl
theorem zq_780 : Cond.methodLink RL 71 yX11_meet ∈ zj_T := zj_mem (i := 780) (by decide +kernel) rfl
theorem zq_781 : Cond.instanceMethod yX11_meet ∈ zj_T := zj_mem (i := 781) (by decide +kernel) rfl
theorem zq_782 : Cond.selects RX11 yX11_meet yX11_meet ∈ zj_T := zj_mem (i := 782) (by decide +kernel) rfl
theorem zq_783 : Cond.code yX11_meet cX11_meet 5 (some .int) ∈ zj_T := zj_mem (i := 783) (by decide +kernel) rfl
theorem zq_784 : Cond.methodLink RL 75 yX11_posts ∈ zj_T := zj_mem (i := 784) (by decide +kernel) rfl
theorem zq_785 : Cond.instanceMethod yX11_posts ∈ zj_T := zj_mem (i := 785) (by decide +kernel) rfl
theorem zq_786 : Cond.selects RX11 yX11_posts yX11_posts ∈ zj_T := zj_mem (i := 786) (by decide +kernel) rfl
theorem zq_787 : Cond.code yX11_posts cX11_posts 9 (some .int) ∈ zj_T := zj_mem (i := 787) (by decide +kernel) rfl
theorem zq_798 : Cond.methodLink RL 79 yX11_gravel ∈ zj_T := zj_mem (i := 798) (by decide +kernel) rfl
theorem zq_799 : Cond.instanceMethod yX11_gravel ∈ zj_T := zj_mem (i := 799) (by decide +kernel) rfl
theorem zq_800 : Cond.selects RX11 yX11_gravel yX11_gravel ∈ zj_T := zj_mem (i := 800) (by decide +kernel) rfl
theorem zq_801 : Cond.code yX11_gravel cX11_gravel 7 (some .int) ∈ zj_T := zj_mem (i := 801) (by decide +kernel) rfl
theorem zq_802 : Cond.methodLink RL 83 yX11_see ∈ zj_T := zj_mem (i := 802) (by decide +kernel) rfl
theorem zq_803 : Cond.instanceMethod yX11_see ∈ zj_T := zj_mem (i := 803) (by decide +kernel) rfl
theorem zq_804 : Cond.selects RX11 yX11_see yX11_see ∈ zj_T := zj_mem (i := 804) (by decide +kernel) rfl
theorem zq_805 : Cond.code yX11_see cX11_see 4 (some .int) ∈ zj_T := zj_mem (i := 805) (by decide +kernel) rfl
theorem zq_806 : Cond.methodLink RL 88 yX11_felt ∈ zj_T := zj_mem (i := 806) (by decide +kernel) rfl
theorem zq_807 : Cond.instanceMethod yX11_felt ∈ zj_T := zj_mem (i := 807) (by decide +kernel) rfl
theorem zq_808 : Cond.selects RX11 yX11_felt yX11_felt ∈ zj_T := zj_mem (i := 808) (by decide +kernel) rfl
theorem zq_809 : Cond.code yX11_felt cX11_felt 5 (some .int) ∈ zj_T := zj_mem (i := 809) (by decide +kernel) rfl
theorem zq_815 : Cond.methodLink RL 92 yX11_where ∈ zj_T := zj_mem (i := 815) (by decide +kernel) rfl
theorem zq_816 : Cond.instanceMethod yX11_where ∈ zj_T := zj_mem (i := 816) (by decide +kernel) rfl
theorem zq_817 : Cond.selects RX11 yX11_where yX11_where ∈ zj_T := zj_mem (i := 817) (by decide +kernel) rfl
theorem zq_818 : Cond.code yX11_where cX11_where 5 (some .int) ∈ zj_T := zj_mem (i := 818) (by decide +kernel) rfl
theorem zq_819 : Cond.methodLink RL 96 yX11_firm ∈ zj_T := zj_mem (i := 819) (by decide +kernel) rfl
theorem zq_820 : Cond.instanceMethod yX11_firm ∈ zj_T := zj_mem (i := 820) (by decide +kernel) rfl
theorem zq_821 : Cond.selects RX11 yX11_firm yX11_firm ∈ zj_T := zj_mem (i := 821) (by decide +kernel) rfl
theorem zq_822 : Cond.code yX11_firm cX11_firm 7 (some .int) ∈ zj_T := zj_mem (i := 822) (by decide +kernel) rfl
theorem zq_823 : Cond.methodLink RL 100 yX11_odds ∈ zj_T := zj_mem (i := 823) (by decide +kernel) rfl
theorem zq_824 : Cond.instanceMethod yX11_odds ∈ zj_T := zj_mem (i := 824) (by decide +kernel) rfl
theorem zq_825 : Cond.selects RX11 yX11_odds yX11_odds ∈ zj_T := zj_mem (i := 825) (by decide +kernel) rfl
theorem zq_826 : Cond.code yX11_odds cX11_odds 7 (some .long) ∈ zj_T := zj_mem (i := 826) (by decide +kernel) rfl
theorem zq_831 : Cond.methodLink RL 105 yX11_mean ∈ zj_T := zj_mem (i := 831) (by decide +kernel) rfl
theorem zq_832 : Cond.instanceMethod yX11_mean ∈ zj_T := zj_mem (i := 832) (by decide +kernel) rfl
theorem zq_833 : Cond.selects RX11 yX11_mean yX11_mean ∈ zj_T := zj_mem (i := 833) (by decide +kernel) rfl
theorem zq_834 : Cond.code yX11_mean cX11_mean 4 (some .long) ∈ zj_T := zj_mem (i := 834) (by decide +kernel) rfl
theorem zq_835 : Cond.methodLink RL 110 yX11_plan ∈ zj_T := zj_mem (i := 835) (by decide +kernel) rfl
theorem zq_836 : Cond.instanceMethod yX11_plan ∈ zj_T := zj_mem (i := 836) (by decide +kernel) rfl
theorem zq_837 : Cond.selects RX11 yX11_plan yX11_plan ∈ zj_T := zj_mem (i := 837) (by decide +kernel) rfl
theorem zq_838 : Cond.code yX11_plan cX11_plan 4 (some .int) ∈ zj_T := zj_mem (i := 838) (by decide +kernel) rfl
theorem zq_839 : Cond.methodLink RL 114 yX11_done ∈ zj_T := zj_mem (i := 839) (by decide +kernel) rfl
theorem zq_840 : Cond.instanceMethod yX11_done ∈ zj_T := zj_mem (i := 840) (by decide +kernel) rfl
theorem zq_841 : Cond.selects RX11 yX11_done yX11_done ∈ zj_T := zj_mem (i := 841) (by decide +kernel) rfl
theorem zq_842 : Cond.code yX11_done cX11_done 5 (some .int) ∈ zj_T := zj_mem (i := 842) (by decide +kernel) rfl
theorem zq_843 : Cond.methodLink RL 118 yX11_book ∈ zj_T := zj_mem (i := 843) (by decide +kernel) rfl
theorem zq_844 : Cond.instanceMethod yX11_book ∈ zj_T := zj_mem (i := 844) (by decide +kernel) rfl
theorem zq_845 : Cond.selects RX11 yX11_book yX11_book ∈ zj_T := zj_mem (i := 845) (by decide +kernel) rfl
theorem zq_846 : Cond.code yX11_book cX11_book 3 (some .int) ∈ zj_T := zj_mem (i := 846) (by decide +kernel) rfl
theorem zq_847 : Cond.methodLink RL 122 yX11_looked ∈ zj_T := zj_mem (i := 847) (by decide +kernel) rfl
theorem zq_848 : Cond.instanceMethod yX11_looked ∈ zj_T := zj_mem (i := 848) (by decide +kernel) rfl
theorem zq_849 : Cond.selects RX11 yX11_looked yX11_looked ∈ zj_T := zj_mem (i := 849) (by decide +kernel) rfl
theorem zq_850 : Cond.code yX11_looked cX11_looked 2 (some .int) ∈ zj_T := zj_mem (i := 850) (by decide +kernel) rfl
theorem zq_851 : Cond.methodLink RL 126 yX11_act ∈ zj_T := zj_mem (i := 851) (by decide +kernel) rfl
theorem zq_852 : Cond.instanceMethod yX11_act ∈ zj_T := zj_mem (i := 852) (by decide +kernel) rfl
theorem zq_853 : Cond.selects RX11 yX11_act yX11_act ∈ zj_T := zj_mem (i := 853) (by decide +kernel) rfl
theorem zq_854 : Cond.code yX11_act cX11_act 6 (some .int) ∈ zj_T := zj_mem (i := 854) (by decide +kernel) rfl
theorem zq_944 : Cond.methodLink RL 130 yX11_trace ∈ zj_T := zj_mem (i := 944) (by decide +kernel) rfl
theorem zq_945 : Cond.instanceMethod yX11_trace ∈ zj_T := zj_mem (i := 945) (by decide +kernel) rfl
theorem zq_946 : Cond.selects RX11 yX11_trace yX11_trace ∈ zj_T := zj_mem (i := 946) (by decide +kernel) rfl
theorem zq_947 : Cond.code yX11_trace cX11_trace 2 (some .int) ∈ zj_T := zj_mem (i := 947) (by decide +kernel) rfl
theorem zq_948 : Cond.methodLink RL 134 yX11_as ∈ zj_T := zj_mem (i := 948) (by decide +kernel) rfl
theorem zq_949 : Cond.instanceMethod yX11_as ∈ zj_T := zj_mem (i := 949) (by decide +kernel) rfl
theorem zq_950 : Cond.selects RX11 yX11_as yX11_as ∈ zj_T := zj_mem (i := 950) (by decide +kernel) rfl
theorem zq_951 : Cond.code yX11_as cX11_as 3 (some .int) ∈ zj_T := zj_mem (i := 951) (by decide +kernel) rfl
theorem zq_952 : Cond.methodLink RL 138 yX11_image ∈ zj_T := zj_mem (i := 952) (by decide +kernel) rfl
theorem zq_953 : Cond.instanceMethod yX11_image ∈ zj_T := zj_mem (i := 953) (by decide +kernel) rfl
theorem zq_954 : Cond.selects RX11 yX11_image yX11_image ∈ zj_T := zj_mem (i := 954) (by decide +kernel) rfl
theorem zq_955 : Cond.code yX11_image cX11_image 1 (some .int) ∈ zj_T := zj_mem (i := 955) (by decide +kernel) rfl
theorem zq_967 : Cond.methodLink RL 142 yX11_undo ∈ zj_T := zj_mem (i := 967) (by decide +kernel) rfl
theorem zq_968 : Cond.instanceMethod yX11_undo ∈ zj_T := zj_mem (i := 968) (by decide +kernel) rfl
theorem zq_969 : Cond.selects RX11 yX11_undo yX11_undo ∈ zj_T := zj_mem (i := 969) (by decide +kernel) rfl
theorem zq_970 : Cond.code yX11_undo cX11_undo 1 (some .int) ∈ zj_T := zj_mem (i := 970) (by decide +kernel) rfl
theorem zq_971 : Cond.methodLink RL 146 yX11_count ∈ zj_T := zj_mem (i := 971) (by decide +kernel) rfl
theorem zq_972 : Cond.instanceMethod yX11_count ∈ zj_T := zj_mem (i := 972) (by decide +kernel) rfl
theorem zq_973 : Cond.selects RX11 yX11_count yX11_count ∈ zj_T := zj_mem (i := 973) (by decide +kernel) rfl
theorem zq_974 : Cond.code yX11_count cX11_count 2 (some .int) ∈ zj_T := zj_mem (i := 974) (by decide +kernel) rfl
theorem zq_1048 : Cond.methodLink RL 17 yX12_feed ∈ zj_T := zj_mem (i := 1048) (by decide +kernel) rfl
theorem zq_1049 : Cond.instanceMethod yX12_feed ∈ zj_T := zj_mem (i := 1049) (by decide +kernel) rfl
theorem zq_1050 : Cond.selects RX12 yX12_feed yX12_feed ∈ zj_T := zj_mem (i := 1050) (by decide +kernel) rfl
theorem zq_1051 : Cond.code yX12_feed cX12_feed 2 (some .int) ∈ zj_T := zj_mem (i := 1051) (by decide +kernel) rfl
theorem zq_1055 : Cond.methodLink RL 22 yX12_park ∈ zj_T := zj_mem (i := 1055) (by decide +kernel) rfl
theorem zq_1056 : Cond.instanceMethod yX12_park ∈ zj_T := zj_mem (i := 1056) (by decide +kernel) rfl
theorem zq_1057 : Cond.selects RX12 yX12_park yX12_park ∈ zj_T := zj_mem (i := 1057) (by decide +kernel) rfl
theorem zq_1058 : Cond.code yX12_park cX12_park 2 (some .int) ∈ zj_T := zj_mem (i := 1058) (by decide +kernel) rfl
theorem zq_1114 : Cond.methodLink RL 27 yX12_road ∈ zj_T := zj_mem (i := 1114) (by decide +kernel) rfl
theorem zq_1115 : Cond.instanceMethod yX12_road ∈ zj_T := zj_mem (i := 1115) (by decide +kernel) rfl
theorem zq_1116 : Cond.selects RX12 yX12_road yX12_road ∈ zj_T := zj_mem (i := 1116) (by decide +kernel) rfl
theorem zq_1117 : Cond.code yX12_road cX12_road 3 (some .int) ∈ zj_T := zj_mem (i := 1117) (by decide +kernel) rfl
theorem zq_1126 : Cond.methodLink RL 31 yX12_keep ∈ zj_T := zj_mem (i := 1126) (by decide +kernel) rfl
theorem zq_1127 : Cond.instanceMethod yX12_keep ∈ zj_T := zj_mem (i := 1127) (by decide +kernel) rfl
theorem zq_1128 : Cond.selects RX12 yX12_keep yX12_keep ∈ zj_T := zj_mem (i := 1128) (by decide +kernel) rfl
theorem zq_1129 : Cond.code yX12_keep cX12_keep 2 (some .int) ∈ zj_T := zj_mem (i := 1129) (by decide +kernel) rfl
theorem zq_1130 : Cond.methodLink RL 36 yX12_walker ∈ zj_T := zj_mem (i := 1130) (by decide +kernel) rfl
theorem zq_1131 : Cond.instanceMethod yX12_walker ∈ zj_T := zj_mem (i := 1131) (by decide +kernel) rfl
theorem zq_1132 : Cond.selects RX12 yX12_walker yX12_walker ∈ zj_T := zj_mem (i := 1132) (by decide +kernel) rfl
theorem zq_1133 : Cond.code yX12_walker cX12_walker 7 (some .int) ∈ zj_T := zj_mem (i := 1133) (by decide +kernel) rfl
theorem zq_1137 : Cond.methodLink RL 40 yX12_of ∈ zj_T := zj_mem (i := 1137) (by decide +kernel) rfl
theorem zq_1138 : Cond.instanceMethod yX12_of ∈ zj_T := zj_mem (i := 1138) (by decide +kernel) rfl
theorem zq_1139 : Cond.selects RX12 yX12_of yX12_of ∈ zj_T := zj_mem (i := 1139) (by decide +kernel) rfl
theorem zq_1140 : Cond.code yX12_of cX12_of 3 (some .int) ∈ zj_T := zj_mem (i := 1140) (by decide +kernel) rfl
theorem zq_1182 : Cond.methodLink RL 45 yX12_row ∈ zj_T := zj_mem (i := 1182) (by decide +kernel) rfl
theorem zq_1183 : Cond.instanceMethod yX12_row ∈ zj_T := zj_mem (i := 1183) (by decide +kernel) rfl
theorem zq_1184 : Cond.selects RX12 yX12_row yX12_row ∈ zj_T := zj_mem (i := 1184) (by decide +kernel) rfl
theorem zq_1185 : Cond.code yX12_row cX12_row 4 (some .int) ∈ zj_T := zj_mem (i := 1185) (by decide +kernel) rfl
theorem zq_1186 : Cond.methodLink RL 49 yX12_set ∈ zj_T := zj_mem (i := 1186) (by decide +kernel) rfl
theorem zq_1187 : Cond.instanceMethod yX12_set ∈ zj_T := zj_mem (i := 1187) (by decide +kernel) rfl
theorem zq_1188 : Cond.selects RX12 yX12_set yX12_set ∈ zj_T := zj_mem (i := 1188) (by decide +kernel) rfl
theorem zq_1189 : Cond.code yX12_set cX12_set 4 (some .int) ∈ zj_T := zj_mem (i := 1189) (by decide +kernel) rfl
theorem zq_1190 : Cond.methodLink RL 54 yX12_away ∈ zj_T := zj_mem (i := 1190) (by decide +kernel) rfl
theorem zq_1191 : Cond.instanceMethod yX12_away ∈ zj_T := zj_mem (i := 1191) (by decide +kernel) rfl
theorem zq_1192 : Cond.selects RX12 yX12_away yX12_away ∈ zj_T := zj_mem (i := 1192) (by decide +kernel) rfl
theorem zq_1193 : Cond.code yX12_away cX12_away 3 (some .int) ∈ zj_T := zj_mem (i := 1193) (by decide +kernel) rfl
theorem zq_1194 : Cond.methodLink RL 58 yX12_told ∈ zj_T := zj_mem (i := 1194) (by decide +kernel) rfl
theorem zq_1195 : Cond.instanceMethod yX12_told ∈ zj_T := zj_mem (i := 1195) (by decide +kernel) rfl
theorem zq_1196 : Cond.selects RX12 yX12_told yX12_told ∈ zj_T := zj_mem (i := 1196) (by decide +kernel) rfl
theorem zq_1197 : Cond.code yX12_told cX12_told 2 (some .int) ∈ zj_T := zj_mem (i := 1197) (by decide +kernel) rfl
theorem zq_1234 : Cond.methodLink RL 62 yX12_pass ∈ zj_T := zj_mem (i := 1234) (by decide +kernel) rfl
theorem zq_1235 : Cond.instanceMethod yX12_pass ∈ zj_T := zj_mem (i := 1235) (by decide +kernel) rfl
theorem zq_1236 : Cond.selects RX12 yX12_pass yX12_pass ∈ zj_T := zj_mem (i := 1236) (by decide +kernel) rfl
theorem zq_1237 : Cond.code yX12_pass cX12_pass 3 (some .int) ∈ zj_T := zj_mem (i := 1237) (by decide +kernel) rfl
theorem zq_1242 : Cond.methodLink RL 66 yX12_on ∈ zj_T := zj_mem (i := 1242) (by decide +kernel) rfl
theorem zq_1243 : Cond.instanceMethod yX12_on ∈ zj_T := zj_mem (i := 1243) (by decide +kernel) rfl
theorem zq_1244 : Cond.selects RX12 yX12_on yX12_on ∈ zj_T := zj_mem (i := 1244) (by decide +kernel) rfl
theorem zq_1245 : Cond.code yX12_on cX12_on 4 (some .int) ∈ zj_T := zj_mem (i := 1245) (by decide +kernel) rfl
theorem zq_1246 : Cond.methodLink RL 70 yX12_strays ∈ zj_T := zj_mem (i := 1246) (by decide +kernel) rfl
theorem zq_1247 : Cond.instanceMethod yX12_strays ∈ zj_T := zj_mem (i := 1247) (by decide +kernel) rfl
theorem zq_1248 : Cond.selects RX12 yX12_strays yX12_strays ∈ zj_T := zj_mem (i := 1248) (by decide +kernel) rfl
theorem zq_1249 : Cond.code yX12_strays cX12_strays 4 (some .int) ∈ zj_T := zj_mem (i := 1249) (by decide +kernel) rfl
theorem zq_1250 : Cond.methodLink RL 74 yX12_meet ∈ zj_T := zj_mem (i := 1250) (by decide +kernel) rfl
theorem zq_1251 : Cond.instanceMethod yX12_meet ∈ zj_T := zj_mem (i := 1251) (by decide +kernel) rfl
theorem zq_1252 : Cond.selects RX12 yX12_meet yX12_meet ∈ zj_T := zj_mem (i := 1252) (by decide +kernel) rfl
theorem zq_1253 : Cond.code yX12_meet cX12_meet 5 (some .int) ∈ zj_T := zj_mem (i := 1253) (by decide +kernel) rfl
theorem zq_1254 : Cond.methodLink RL 78 yX12_posts ∈ zj_T := zj_mem (i := 1254) (by decide +kernel) rfl
theorem zq_1255 : Cond.instanceMethod yX12_posts ∈ zj_T := zj_mem (i := 1255) (by decide +kernel) rfl
theorem zq_1256 : Cond.selects RX12 yX12_posts yX12_posts ∈ zj_T := zj_mem (i := 1256) (by decide +kernel) rfl
theorem zq_1257 : Cond.code yX12_posts cX12_posts 13 (some .int) ∈ zj_T := zj_mem (i := 1257) (by decide +kernel) rfl
theorem zq_1258 : Cond.methodLink RL 82 yX12_gravel ∈ zj_T := zj_mem (i := 1258) (by decide +kernel) rfl
theorem zq_1259 : Cond.instanceMethod yX12_gravel ∈ zj_T := zj_mem (i := 1259) (by decide +kernel) rfl
theorem zq_1260 : Cond.selects RX12 yX12_gravel yX12_gravel ∈ zj_T := zj_mem (i := 1260) (by decide +kernel) rfl
theorem zq_1261 : Cond.code yX12_gravel cX12_gravel 5 (some .int) ∈ zj_T := zj_mem (i := 1261) (by decide +kernel) rfl
theorem zq_1262 : Cond.methodLink RL 87 yX12_see ∈ zj_T := zj_mem (i := 1262) (by decide +kernel) rfl
theorem zq_1263 : Cond.instanceMethod yX12_see ∈ zj_T := zj_mem (i := 1263) (by decide +kernel) rfl
theorem zq_1264 : Cond.selects RX12 yX12_see yX12_see ∈ zj_T := zj_mem (i := 1264) (by decide +kernel) rfl
theorem zq_1265 : Cond.code yX12_see cX12_see 4 (some .int) ∈ zj_T := zj_mem (i := 1265) (by decide +kernel) rfl
theorem zq_1266 : Cond.methodLink RL 91 yX12_felt ∈ zj_T := zj_mem (i := 1266) (by decide +kernel) rfl
theorem zq_1267 : Cond.instanceMethod yX12_felt ∈ zj_T := zj_mem (i := 1267) (by decide +kernel) rfl
theorem zq_1268 : Cond.selects RX12 yX12_felt yX12_felt ∈ zj_T := zj_mem (i := 1268) (by decide +kernel) rfl
theorem zq_1269 : Cond.code yX12_felt cX12_felt 2 (some .int) ∈ zj_T := zj_mem (i := 1269) (by decide +kernel) rfl
theorem zq_1282 : Cond.methodLink RL 95 yX12_where ∈ zj_T := zj_mem (i := 1282) (by decide +kernel) rfl
theorem zq_1283 : Cond.instanceMethod yX12_where ∈ zj_T := zj_mem (i := 1283) (by decide +kernel) rfl
theorem zq_1284 : Cond.selects RX12 yX12_where yX12_where ∈ zj_T := zj_mem (i := 1284) (by decide +kernel) rfl
theorem zq_1285 : Cond.code yX12_where cX12_where 2 (some .int) ∈ zj_T := zj_mem (i := 1285) (by decide +kernel) rfl
theorem zq_1286 : Cond.methodLink RL 99 yX12_firm ∈ zj_T := zj_mem (i := 1286) (by decide +kernel) rfl
theorem zq_1287 : Cond.instanceMethod yX12_firm ∈ zj_T := zj_mem (i := 1287) (by decide +kernel) rfl
theorem zq_1288 : Cond.selects RX12 yX12_firm yX12_firm ∈ zj_T := zj_mem (i := 1288) (by decide +kernel) rfl
theorem zq_1289 : Cond.code yX12_firm cX12_firm 8 (some .int) ∈ zj_T := zj_mem (i := 1289) (by decide +kernel) rfl
theorem zq_1290 : Cond.methodLink RL 104 yX12_odds ∈ zj_T := zj_mem (i := 1290) (by decide +kernel) rfl
theorem zq_1291 : Cond.instanceMethod yX12_odds ∈ zj_T := zj_mem (i := 1291) (by decide +kernel) rfl
theorem zq_1292 : Cond.selects RX12 yX12_odds yX12_odds ∈ zj_T := zj_mem (i := 1292) (by decide +kernel) rfl
theorem zq_1293 : Cond.code yX12_odds cX12_odds 7 (some .long) ∈ zj_T := zj_mem (i := 1293) (by decide +kernel) rfl
theorem zq_1299 : Cond.methodLink RL 109 yX12_mean ∈ zj_T := zj_mem (i := 1299) (by decide +kernel) rfl
theorem zq_1300 : Cond.instanceMethod yX12_mean ∈ zj_T := zj_mem (i := 1300) (by decide +kernel) rfl
theorem zq_1301 : Cond.selects RX12 yX12_mean yX12_mean ∈ zj_T := zj_mem (i := 1301) (by decide +kernel) rfl
theorem zq_1302 : Cond.code yX12_mean cX12_mean 7 (some .long) ∈ zj_T := zj_mem (i := 1302) (by decide +kernel) rfl
theorem zq_1303 : Cond.methodLink RL 113 yX12_plan ∈ zj_T := zj_mem (i := 1303) (by decide +kernel) rfl
theorem zq_1304 : Cond.instanceMethod yX12_plan ∈ zj_T := zj_mem (i := 1304) (by decide +kernel) rfl
theorem zq_1305 : Cond.selects RX12 yX12_plan yX12_plan ∈ zj_T := zj_mem (i := 1305) (by decide +kernel) rfl
theorem zq_1306 : Cond.code yX12_plan cX12_plan 3 (some .int) ∈ zj_T := zj_mem (i := 1306) (by decide +kernel) rfl
theorem zq_1307 : Cond.methodLink RL 117 yX12_done ∈ zj_T := zj_mem (i := 1307) (by decide +kernel) rfl
theorem zq_1308 : Cond.instanceMethod yX12_done ∈ zj_T := zj_mem (i := 1308) (by decide +kernel) rfl
theorem zq_1309 : Cond.selects RX12 yX12_done yX12_done ∈ zj_T := zj_mem (i := 1309) (by decide +kernel) rfl
theorem zq_1310 : Cond.code yX12_done cX12_done 3 (some .int) ∈ zj_T := zj_mem (i := 1310) (by decide +kernel) rfl
theorem zq_1315 : Cond.methodLink RL 121 yX12_book ∈ zj_T := zj_mem (i := 1315) (by decide +kernel) rfl
theorem zq_1316 : Cond.instanceMethod yX12_book ∈ zj_T := zj_mem (i := 1316) (by decide +kernel) rfl
theorem zq_1317 : Cond.selects RX12 yX12_book yX12_book ∈ zj_T := zj_mem (i := 1317) (by decide +kernel) rfl
theorem zq_1318 : Cond.code yX12_book cX12_book 3 (some .int) ∈ zj_T := zj_mem (i := 1318) (by decide +kernel) rfl
theorem zq_1319 : Cond.methodLink RL 125 yX12_looked ∈ zj_T := zj_mem (i := 1319) (by decide +kernel) rfl
theorem zq_1320 : Cond.instanceMethod yX12_looked ∈ zj_T := zj_mem (i := 1320) (by decide +kernel) rfl
theorem zq_1321 : Cond.selects RX12 yX12_looked yX12_looked ∈ zj_T := zj_mem (i := 1321) (by decide +kernel) rfl
theorem zq_1322 : Cond.code yX12_looked cX12_looked 2 (some .int) ∈ zj_T := zj_mem (i := 1322) (by decide +kernel) rfl
theorem zq_1323 : Cond.methodLink RL 129 yX12_act ∈ zj_T := zj_mem (i := 1323) (by decide +kernel) rfl
theorem zq_1324 : Cond.instanceMethod yX12_act ∈ zj_T := zj_mem (i := 1324) (by decide +kernel) rfl
theorem zq_1325 : Cond.selects RX12 yX12_act yX12_act ∈ zj_T := zj_mem (i := 1325) (by decide +kernel) rfl
theorem zq_1326 : Cond.code yX12_act cX12_act 4 (some .int) ∈ zj_T := zj_mem (i := 1326) (by decide +kernel) rfl
theorem zq_1358 : Cond.methodLink RL 133 yX12_trace ∈ zj_T := zj_mem (i := 1358) (by decide +kernel) rfl
theorem zq_1359 : Cond.instanceMethod yX12_trace ∈ zj_T := zj_mem (i := 1359) (by decide +kernel) rfl
theorem zq_1360 : Cond.selects RX12 yX12_trace yX12_trace ∈ zj_T := zj_mem (i := 1360) (by decide +kernel) rfl
theorem zq_1361 : Cond.code yX12_trace cX12_trace 2 (some .int) ∈ zj_T := zj_mem (i := 1361) (by decide +kernel) rfl
theorem zq_1362 : Cond.methodLink RL 137 yX12_as ∈ zj_T := zj_mem (i := 1362) (by decide +kernel) rfl
theorem zq_1363 : Cond.instanceMethod yX12_as ∈ zj_T := zj_mem (i := 1363) (by decide +kernel) rfl
theorem zq_1364 : Cond.selects RX12 yX12_as yX12_as ∈ zj_T := zj_mem (i := 1364) (by decide +kernel) rfl
theorem zq_1365 : Cond.code yX12_as cX12_as 3 (some .int) ∈ zj_T := zj_mem (i := 1365) (by decide +kernel) rfl
theorem zq_1366 : Cond.methodLink RL 141 yX12_image ∈ zj_T := zj_mem (i := 1366) (by decide +kernel) rfl
theorem zq_1367 : Cond.instanceMethod yX12_image ∈ zj_T := zj_mem (i := 1367) (by decide +kernel) rfl
theorem zq_1368 : Cond.selects RX12 yX12_image yX12_image ∈ zj_T := zj_mem (i := 1368) (by decide +kernel) rfl
theorem zq_1369 : Cond.code yX12_image cX12_image 2 (some .int) ∈ zj_T := zj_mem (i := 1369) (by decide +kernel) rfl
theorem zq_1370 : Cond.methodLink RL 145 yX12_undo ∈ zj_T := zj_mem (i := 1370) (by decide +kernel) rfl
theorem zq_1371 : Cond.instanceMethod yX12_undo ∈ zj_T := zj_mem (i := 1371) (by decide +kernel) rfl
theorem zq_1372 : Cond.selects RX12 yX12_undo yX12_undo ∈ zj_T := zj_mem (i := 1372) (by decide +kernel) rfl
theorem zq_1373 : Cond.code yX12_undo cX12_undo 2 (some .int) ∈ zj_T := zj_mem (i := 1373) (by decide +kernel) rfl
theorem zq_1374 : Cond.methodLink RL 149 yX12_count ∈ zj_T := zj_mem (i := 1374) (by decide +kernel) rfl
theorem zq_1375 : Cond.instanceMethod yX12_count ∈ zj_T := zj_mem (i := 1375) (by decide +kernel) rfl
theorem zq_1376 : Cond.selects RX12 yX12_count yX12_count ∈ zj_T := zj_mem (i := 1376) (by decide +kernel) rfl
theorem zq_1377 : Cond.code yX12_count cX12_count 2 (some .int) ∈ zj_T := zj_mem (i := 1377) (by decide +kernel) rfl
theorem dL_law_0 : decode code 0 = .ok (.new 7, 3) := by decide +kernel
theorem dL_law_3 : decode code 3 = .ok (.dup, 1) := by decide +kernel
theorem dL_law_4 : decode code 4 = .ok (.invokespecial 9, 3) := by decide +kernel
theorem dL_law_7 : decode code 7 = .ok (.astore_n 1, 1) := by decide +kernel
theorem dL_law_8 : decode code 8 = .ok (.new 10, 3) := by decide +kernel
theorem dL_law_11 : decode code 11 = .ok (.dup, 1) := by decide +kernel
theorem dL_law_12 : decode code 12 = .ok (.invokespecial 12, 3) := by decide +kernel
theorem dL_law_15 : decode code 15 = .ok (.astore_n 2, 1) := by decide +kernel
theorem dL_law_16 : decode code 16 = .ok (.iconst 0, 1) := by decide +kernel
theorem dL_law_17 : decode code 17 = .ok (.istore_n 3, 1) := by decide +kernel
theorem dL_law_18 : decode code 18 = .ok (.iload_n 3, 1) := by decide +kernel
theorem dL_law_19 : decode code 19 = .ok (.aload_n 0, 1) := by decide +kernel
theorem dL_law_20 : decode code 20 = .ok (.arraylength, 1) := by decide +kernel
theorem dL_law_21 : decode code 21 = .ok (.iconst 5, 1) := by decide +kernel
theorem dL_law_22 : decode code 22 = .ok (.isub, 1) := by decide +kernel
theorem dL_law_23 : decode code 23 = .ok (.if_icmp .gt 1119, 3) := by decide +kernel
theorem dL_law_26 : decode code 26 = .ok (.aload_n 0, 1) := by decide +kernel
theorem dL_law_27 : decode code 27 = .ok (.iload_n 3, 1) := by decide +kernel
theorem dL_law_28 : decode code 28 = .ok (.iaload, 1) := by decide +kernel
theorem dL_law_29 : decode code 29 = .ok (.bipush 31, 2) := by decide +kernel
theorem dL_law_31 : decode code 31 = .ok (.iand, 1) := by decide +kernel
theorem dL_law_32 : decode code 32 = .ok (.tableswitch 1104 0 31 #[144, 167, 180, 213, 236, 289, 322, 365, 408, 457, 480, 503, 536, 559, 592, 625, 638, 697, 720, 743, 776, 820, 854, 887, 910, 943, 956, 999, 1022, 1055, 1068, 1081], 144) := by decide +kernel
theorem dL_law_176 : decode code 176 = .ok (.aload_n 1, 1) := by decide +kernel
theorem dL_law_177 : decode code 177 = .ok (.aload_n 0, 1) := by decide +kernel
theorem dL_law_178 : decode code 178 = .ok (.iload_n 3, 1) := by decide +kernel
theorem dL_law_179 : decode code 179 = .ok (.iconst 1, 1) := by decide +kernel
theorem dL_law_180 : decode code 180 = .ok (.iadd, 1) := by decide +kernel
theorem dL_law_181 : decode code 181 = .ok (.iaload, 1) := by decide +kernel
theorem dL_law_182 : decode code 182 = .ok (.invokevirtual 13, 3) := by decide +kernel
theorem dL_law_185 : decode code 185 = .ok (.aload_n 2, 1) := by decide +kernel
theorem dL_law_186 : decode code 186 = .ok (.aload_n 0, 1) := by decide +kernel
theorem dL_law_187 : decode code 187 = .ok (.iload_n 3, 1) := by decide +kernel
theorem dL_law_188 : decode code 188 = .ok (.iconst 1, 1) := by decide +kernel
theorem dL_law_189 : decode code 189 = .ok (.iadd, 1) := by decide +kernel
theorem dL_law_190 : decode code 190 = .ok (.iaload, 1) := by decide +kernel
theorem dL_law_191 : decode code 191 = .ok (.invokevirtual 17, 3) := by decide +kernel
theorem dL_law_194 : decode code 194 = .ok (.if_icmp .eq 942, 3) := by decide +kernel
theorem dL_law_197 : decode code 197 = .ok (.iconst 0, 1) := by decide +kernel
theorem dL_law_198 : decode code 198 = .ok (.ireturn, 1) := by decide +kernel
theorem dL_law_199 : decode code 199 = .ok (.aload_n 1, 1) := by decide +kernel
theorem dL_law_200 : decode code 200 = .ok (.invokevirtual 18, 3) := by decide +kernel
theorem dL_law_203 : decode code 203 = .ok (.aload_n 2, 1) := by decide +kernel
theorem dL_law_204 : decode code 204 = .ok (.invokevirtual 22, 3) := by decide +kernel
theorem dL_law_207 : decode code 207 = .ok (.if_icmp .eq 929, 3) := by decide +kernel
theorem dL_law_210 : decode code 210 = .ok (.iconst 0, 1) := by decide +kernel
theorem dL_law_211 : decode code 211 = .ok (.ireturn, 1) := by decide +kernel
theorem dL_law_212 : decode code 212 = .ok (.aload_n 1, 1) := by decide +kernel
theorem dL_law_213 : decode code 213 = .ok (.aload_n 0, 1) := by decide +kernel
theorem dL_law_214 : decode code 214 = .ok (.iload_n 3, 1) := by decide +kernel
theorem dL_law_215 : decode code 215 = .ok (.iconst 1, 1) := by decide +kernel
theorem dL_law_216 : decode code 216 = .ok (.iadd, 1) := by decide +kernel
theorem dL_law_217 : decode code 217 = .ok (.iaload, 1) := by decide +kernel
theorem dL_law_218 : decode code 218 = .ok (.aload_n 0, 1) := by decide +kernel
theorem dL_law_219 : decode code 219 = .ok (.iload_n 3, 1) := by decide +kernel
theorem dL_law_220 : decode code 220 = .ok (.iconst 2, 1) := by decide +kernel
theorem dL_law_221 : decode code 221 = .ok (.iadd, 1) := by decide +kernel
theorem dL_law_222 : decode code 222 = .ok (.iaload, 1) := by decide +kernel
theorem dL_law_223 : decode code 223 = .ok (.invokevirtual 23, 3) := by decide +kernel
theorem dL_law_226 : decode code 226 = .ok (.aload_n 2, 1) := by decide +kernel
theorem dL_law_227 : decode code 227 = .ok (.aload_n 0, 1) := by decide +kernel
theorem dL_law_228 : decode code 228 = .ok (.iload_n 3, 1) := by decide +kernel
theorem dL_law_229 : decode code 229 = .ok (.iconst 1, 1) := by decide +kernel
theorem dL_law_230 : decode code 230 = .ok (.iadd, 1) := by decide +kernel
theorem dL_law_231 : decode code 231 = .ok (.iaload, 1) := by decide +kernel
theorem dL_law_232 : decode code 232 = .ok (.aload_n 0, 1) := by decide +kernel
theorem dL_law_233 : decode code 233 = .ok (.iload_n 3, 1) := by decide +kernel
theorem dL_law_234 : decode code 234 = .ok (.iconst 2, 1) := by decide +kernel
theorem dL_law_235 : decode code 235 = .ok (.iadd, 1) := by decide +kernel
theorem dL_law_236 : decode code 236 = .ok (.iaload, 1) := by decide +kernel
theorem dL_law_237 : decode code 237 = .ok (.invokevirtual 27, 3) := by decide +kernel
theorem dL_law_240 : decode code 240 = .ok (.if_icmp .eq 896, 3) := by decide +kernel
theorem dL_law_243 : decode code 243 = .ok (.iconst 0, 1) := by decide +kernel
theorem dL_law_244 : decode code 244 = .ok (.ireturn, 1) := by decide +kernel
theorem dL_law_245 : decode code 245 = .ok (.aload_n 1, 1) := by decide +kernel
theorem dL_law_246 : decode code 246 = .ok (.aload_n 0, 1) := by decide +kernel
theorem dL_law_247 : decode code 247 = .ok (.iload_n 3, 1) := by decide +kernel
theorem dL_law_248 : decode code 248 = .ok (.iconst 1, 1) := by decide +kernel
theorem dL_law_249 : decode code 249 = .ok (.iadd, 1) := by decide +kernel
theorem dL_law_250 : decode code 250 = .ok (.iaload, 1) := by decide +kernel
theorem dL_law_251 : decode code 251 = .ok (.invokevirtual 28, 3) := by decide +kernel
theorem dL_law_254 : decode code 254 = .ok (.aload_n 2, 1) := by decide +kernel
theorem dL_law_255 : decode code 255 = .ok (.aload_n 0, 1) := by decide +kernel
theorem dL_law_256 : decode code 256 = .ok (.iload_n 3, 1) := by decide +kernel
theorem dL_law_257 : decode code 257 = .ok (.iconst 1, 1) := by decide +kernel
theorem dL_law_258 : decode code 258 = .ok (.iadd, 1) := by decide +kernel
theorem dL_law_259 : decode code 259 = .ok (.iaload, 1) := by decide +kernel
theorem dL_law_260 : decode code 260 = .ok (.invokevirtual 31, 3) := by decide +kernel
theorem dL_law_263 : decode code 263 = .ok (.if_icmp .eq 873, 3) := by decide +kernel
theorem dL_law_266 : decode code 266 = .ok (.iconst 0, 1) := by decide +kernel
theorem dL_law_267 : decode code 267 = .ok (.ireturn, 1) := by decide +kernel
theorem dL_law_268 : decode code 268 = .ok (.aload_n 1, 1) := by decide +kernel
theorem dL_law_269 : decode code 269 = .ok (.aload_n 0, 1) := by decide +kernel
theorem dL_law_270 : decode code 270 = .ok (.iload_n 3, 1) := by decide +kernel
theorem dL_law_271 : decode code 271 = .ok (.iconst 1, 1) := by decide +kernel
theorem dL_law_272 : decode code 272 = .ok (.iadd, 1) := by decide +kernel
theorem dL_law_273 : decode code 273 = .ok (.iaload, 1) := by decide +kernel
theorem dL_law_274 : decode code 274 = .ok (.aload_n 0, 1) := by decide +kernel
theorem dL_law_275 : decode code 275 = .ok (.iload_n 3, 1) := by decide +kernel
theorem dL_law_276 : decode code 276 = .ok (.iconst 2, 1) := by decide +kernel
theorem dL_law_277 : decode code 277 = .ok (.iadd, 1) := by decide +kernel
theorem dL_law_278 : decode code 278 = .ok (.iaload, 1) := by decide +kernel
theorem dL_law_279 : decode code 279 = .ok (.aload_n 0, 1) := by decide +kernel
theorem dL_law_280 : decode code 280 = .ok (.iload_n 3, 1) := by decide +kernel
theorem dL_law_281 : decode code 281 = .ok (.iconst 3, 1) := by decide +kernel
theorem dL_law_282 : decode code 282 = .ok (.iadd, 1) := by decide +kernel
theorem dL_law_283 : decode code 283 = .ok (.iaload, 1) := by decide +kernel
theorem dL_law_284 : decode code 284 = .ok (.aload_n 0, 1) := by decide +kernel
theorem dL_law_285 : decode code 285 = .ok (.iload_n 3, 1) := by decide +kernel
theorem dL_law_286 : decode code 286 = .ok (.iconst 4, 1) := by decide +kernel
theorem dL_law_287 : decode code 287 = .ok (.iadd, 1) := by decide +kernel
theorem dL_law_288 : decode code 288 = .ok (.iaload, 1) := by decide +kernel
theorem dL_law_289 : decode code 289 = .ok (.invokevirtual 32, 3) := by decide +kernel
theorem dL_law_292 : decode code 292 = .ok (.aload_n 2, 1) := by decide +kernel
theorem dL_law_293 : decode code 293 = .ok (.aload_n 0, 1) := by decide +kernel
theorem dL_law_294 : decode code 294 = .ok (.iload_n 3, 1) := by decide +kernel
theorem dL_law_295 : decode code 295 = .ok (.iconst 1, 1) := by decide +kernel
theorem dL_law_296 : decode code 296 = .ok (.iadd, 1) := by decide +kernel
theorem dL_law_297 : decode code 297 = .ok (.iaload, 1) := by decide +kernel
theorem dL_law_298 : decode code 298 = .ok (.aload_n 0, 1) := by decide +kernel
theorem dL_law_299 : decode code 299 = .ok (.iload_n 3, 1) := by decide +kernel
theorem dL_law_300 : decode code 300 = .ok (.iconst 2, 1) := by decide +kernel
theorem dL_law_301 : decode code 301 = .ok (.iadd, 1) := by decide +kernel
theorem dL_law_302 : decode code 302 = .ok (.iaload, 1) := by decide +kernel
theorem dL_law_303 : decode code 303 = .ok (.aload_n 0, 1) := by decide +kernel
theorem dL_law_304 : decode code 304 = .ok (.iload_n 3, 1) := by decide +kernel
theorem dL_law_305 : decode code 305 = .ok (.iconst 3, 1) := by decide +kernel
theorem dL_law_306 : decode code 306 = .ok (.iadd, 1) := by decide +kernel
theorem dL_law_307 : decode code 307 = .ok (.iaload, 1) := by decide +kernel
theorem dL_law_308 : decode code 308 = .ok (.aload_n 0, 1) := by decide +kernel
theorem dL_law_309 : decode code 309 = .ok (.iload_n 3, 1) := by decide +kernel
theorem dL_law_310 : decode code 310 = .ok (.iconst 4, 1) := by decide +kernel
theorem dL_law_311 : decode code 311 = .ok (.iadd, 1) := by decide +kernel
theorem dL_law_312 : decode code 312 = .ok (.iaload, 1) := by decide +kernel
theorem dL_law_313 : decode code 313 = .ok (.invokevirtual 36, 3) := by decide +kernel
theorem dL_law_316 : decode code 316 = .ok (.if_icmp .eq 820, 3) := by decide +kernel
theorem dL_law_319 : decode code 319 = .ok (.iconst 0, 1) := by decide +kernel
theorem dL_law_320 : decode code 320 = .ok (.ireturn, 1) := by decide +kernel
theorem dL_law_321 : decode code 321 = .ok (.aload_n 1, 1) := by decide +kernel
theorem dL_law_322 : decode code 322 = .ok (.aload_n 0, 1) := by decide +kernel
theorem dL_law_323 : decode code 323 = .ok (.iload_n 3, 1) := by decide +kernel
theorem dL_law_324 : decode code 324 = .ok (.iconst 1, 1) := by decide +kernel
theorem dL_law_325 : decode code 325 = .ok (.iadd, 1) := by decide +kernel
theorem dL_law_326 : decode code 326 = .ok (.iaload, 1) := by decide +kernel
theorem dL_law_327 : decode code 327 = .ok (.aload_n 0, 1) := by decide +kernel
theorem dL_law_328 : decode code 328 = .ok (.iload_n 3, 1) := by decide +kernel
theorem dL_law_329 : decode code 329 = .ok (.iconst 2, 1) := by decide +kernel
theorem dL_law_330 : decode code 330 = .ok (.iadd, 1) := by decide +kernel
theorem dL_law_331 : decode code 331 = .ok (.iaload, 1) := by decide +kernel
theorem dL_law_332 : decode code 332 = .ok (.invokevirtual 37, 3) := by decide +kernel
theorem dL_law_335 : decode code 335 = .ok (.aload_n 2, 1) := by decide +kernel
theorem dL_law_336 : decode code 336 = .ok (.aload_n 0, 1) := by decide +kernel
theorem dL_law_337 : decode code 337 = .ok (.iload_n 3, 1) := by decide +kernel
theorem dL_law_338 : decode code 338 = .ok (.iconst 1, 1) := by decide +kernel
theorem dL_law_339 : decode code 339 = .ok (.iadd, 1) := by decide +kernel
theorem dL_law_340 : decode code 340 = .ok (.iaload, 1) := by decide +kernel
theorem dL_law_341 : decode code 341 = .ok (.aload_n 0, 1) := by decide +kernel
theorem dL_law_342 : decode code 342 = .ok (.iload_n 3, 1) := by decide +kernel
theorem dL_law_343 : decode code 343 = .ok (.iconst 2, 1) := by decide +kernel
theorem dL_law_344 : decode code 344 = .ok (.iadd, 1) := by decide +kernel
theorem dL_law_345 : decode code 345 = .ok (.iaload, 1) := by decide +kernel
theorem dL_law_346 : decode code 346 = .ok (.invokevirtual 40, 3) := by decide +kernel
theorem dL_law_349 : decode code 349 = .ok (.if_icmp .eq 787, 3) := by decide +kernel
theorem dL_law_352 : decode code 352 = .ok (.iconst 0, 1) := by decide +kernel
theorem dL_law_353 : decode code 353 = .ok (.ireturn, 1) := by decide +kernel
theorem dL_law_354 : decode code 354 = .ok (.aload_n 1, 1) := by decide +kernel
theorem dL_law_355 : decode code 355 = .ok (.aload_n 0, 1) := by decide +kernel
theorem dL_law_356 : decode code 356 = .ok (.iload_n 3, 1) := by decide +kernel
theorem dL_law_357 : decode code 357 = .ok (.iconst 1, 1) := by decide +kernel
theorem dL_law_358 : decode code 358 = .ok (.iadd, 1) := by decide +kernel
theorem dL_law_359 : decode code 359 = .ok (.iaload, 1) := by decide +kernel
theorem dL_law_360 : decode code 360 = .ok (.aload_n 0, 1) := by decide +kernel
theorem dL_law_361 : decode code 361 = .ok (.iload_n 3, 1) := by decide +kernel
theorem dL_law_362 : decode code 362 = .ok (.iconst 2, 1) := by decide +kernel
theorem dL_law_363 : decode code 363 = .ok (.iadd, 1) := by decide +kernel
theorem dL_law_364 : decode code 364 = .ok (.iaload, 1) := by decide +kernel
theorem dL_law_365 : decode code 365 = .ok (.aload_n 0, 1) := by decide +kernel
theorem dL_law_366 : decode code 366 = .ok (.iload_n 3, 1) := by decide +kernel
theorem dL_law_367 : decode code 367 = .ok (.iconst 3, 1) := by decide +kernel
theorem dL_law_368 : decode code 368 = .ok (.iadd, 1) := by decide +kernel
theorem dL_law_369 : decode code 369 = .ok (.iaload, 1) := by decide +kernel
theorem dL_law_370 : decode code 370 = .ok (.invokevirtual 41, 3) := by decide +kernel
theorem dL_law_373 : decode code 373 = .ok (.aload_n 2, 1) := by decide +kernel
theorem dL_law_374 : decode code 374 = .ok (.aload_n 0, 1) := by decide +kernel
theorem dL_law_375 : decode code 375 = .ok (.iload_n 3, 1) := by decide +kernel
theorem dL_law_376 : decode code 376 = .ok (.iconst 1, 1) := by decide +kernel
theorem dL_law_377 : decode code 377 = .ok (.iadd, 1) := by decide +kernel
theorem dL_law_378 : decode code 378 = .ok (.iaload, 1) := by decide +kernel
theorem dL_law_379 : decode code 379 = .ok (.aload_n 0, 1) := by decide +kernel
theorem dL_law_380 : decode code 380 = .ok (.iload_n 3, 1) := by decide +kernel
theorem dL_law_381 : decode code 381 = .ok (.iconst 2, 1) := by decide +kernel
theorem dL_law_382 : decode code 382 = .ok (.iadd, 1) := by decide +kernel
theorem dL_law_383 : decode code 383 = .ok (.iaload, 1) := by decide +kernel
theorem dL_law_384 : decode code 384 = .ok (.aload_n 0, 1) := by decide +kernel
theorem dL_law_385 : decode code 385 = .ok (.iload_n 3, 1) := by decide +kernel
theorem dL_law_386 : decode code 386 = .ok (.iconst 3, 1) := by decide +kernel
theorem dL_law_387 : decode code 387 = .ok (.iadd, 1) := by decide +kernel
theorem dL_law_388 : decode code 388 = .ok (.iaload, 1) := by decide +kernel
theorem dL_law_389 : decode code 389 = .ok (.invokevirtual 45, 3) := by decide +kernel
theorem dL_law_392 : decode code 392 = .ok (.if_icmp .eq 744, 3) := by decide +kernel
theorem dL_law_395 : decode code 395 = .ok (.iconst 0, 1) := by decide +kernel
theorem dL_law_396 : decode code 396 = .ok (.ireturn, 1) := by decide +kernel
theorem dL_law_397 : decode code 397 = .ok (.aload_n 1, 1) := by decide +kernel
theorem dL_law_398 : decode code 398 = .ok (.aload_n 0, 1) := by decide +kernel
theorem dL_law_399 : decode code 399 = .ok (.iload_n 3, 1) := by decide +kernel
theorem dL_law_400 : decode code 400 = .ok (.iconst 1, 1) := by decide +kernel
theorem dL_law_401 : decode code 401 = .ok (.iadd, 1) := by decide +kernel
theorem dL_law_402 : decode code 402 = .ok (.iaload, 1) := by decide +kernel
theorem dL_law_403 : decode code 403 = .ok (.aload_n 0, 1) := by decide +kernel
theorem dL_law_404 : decode code 404 = .ok (.iload_n 3, 1) := by decide +kernel
theorem dL_law_405 : decode code 405 = .ok (.iconst 2, 1) := by decide +kernel
theorem dL_law_406 : decode code 406 = .ok (.iadd, 1) := by decide +kernel
theorem dL_law_407 : decode code 407 = .ok (.iaload, 1) := by decide +kernel
theorem dL_law_408 : decode code 408 = .ok (.aload_n 0, 1) := by decide +kernel
theorem dL_law_409 : decode code 409 = .ok (.iload_n 3, 1) := by decide +kernel
theorem dL_law_410 : decode code 410 = .ok (.iconst 3, 1) := by decide +kernel
theorem dL_law_411 : decode code 411 = .ok (.iadd, 1) := by decide +kernel
theorem dL_law_412 : decode code 412 = .ok (.iaload, 1) := by decide +kernel
theorem dL_law_413 : decode code 413 = .ok (.invokevirtual 46, 3) := by decide +kernel
theorem dL_law_416 : decode code 416 = .ok (.aload_n 2, 1) := by decide +kernel
theorem dL_law_417 : decode code 417 = .ok (.aload_n 0, 1) := by decide +kernel
theorem dL_law_418 : decode code 418 = .ok (.iload_n 3, 1) := by decide +kernel
theorem dL_law_419 : decode code 419 = .ok (.iconst 1, 1) := by decide +kernel
theorem dL_law_420 : decode code 420 = .ok (.iadd, 1) := by decide +kernel
theorem dL_law_421 : decode code 421 = .ok (.iaload, 1) := by decide +kernel
theorem dL_law_422 : decode code 422 = .ok (.aload_n 0, 1) := by decide +kernel
theorem dL_law_423 : decode code 423 = .ok (.iload_n 3, 1) := by decide +kernel
theorem dL_law_424 : decode code 424 = .ok (.iconst 2, 1) := by decide +kernel
theorem dL_law_425 : decode code 425 = .ok (.iadd, 1) := by decide +kernel
theorem dL_law_426 : decode code 426 = .ok (.iaload, 1) := by decide +kernel
theorem dL_law_427 : decode code 427 = .ok (.aload_n 0, 1) := by decide +kernel
theorem dL_law_428 : decode code 428 = .ok (.iload_n 3, 1) := by decide +kernel
theorem dL_law_429 : decode code 429 = .ok (.iconst 3, 1) := by decide +kernel
theorem dL_law_430 : decode code 430 = .ok (.iadd, 1) := by decide +kernel
theorem dL_law_431 : decode code 431 = .ok (.iaload, 1) := by decide +kernel
theorem dL_law_432 : decode code 432 = .ok (.invokevirtual 49, 3) := by decide +kernel
theorem dL_law_435 : decode code 435 = .ok (.if_icmp .eq 701, 3) := by decide +kernel
theorem dL_law_438 : decode code 438 = .ok (.iconst 0, 1) := by decide +kernel
theorem dL_law_439 : decode code 439 = .ok (.ireturn, 1) := by decide +kernel
theorem dL_law_440 : decode code 440 = .ok (.aload_n 1, 1) := by decide +kernel
theorem dL_law_441 : decode code 441 = .ok (.aload_n 0, 1) := by decide +kernel
theorem dL_law_442 : decode code 442 = .ok (.iload_n 3, 1) := by decide +kernel
theorem dL_law_443 : decode code 443 = .ok (.iconst 1, 1) := by decide +kernel
theorem dL_law_444 : decode code 444 = .ok (.iadd, 1) := by decide +kernel
theorem dL_law_445 : decode code 445 = .ok (.iaload, 1) := by decide +kernel
theorem dL_law_446 : decode code 446 = .ok (.aload_n 0, 1) := by decide +kernel
theorem dL_law_447 : decode code 447 = .ok (.iload_n 3, 1) := by decide +kernel
theorem dL_law_448 : decode code 448 = .ok (.iconst 2, 1) := by decide +kernel
theorem dL_law_449 : decode code 449 = .ok (.iadd, 1) := by decide +kernel
theorem dL_law_450 : decode code 450 = .ok (.iaload, 1) := by decide +kernel
theorem dL_law_451 : decode code 451 = .ok (.ifCond .eq 7, 3) := by decide +kernel
theorem dL_law_454 : decode code 454 = .ok (.iconst 1, 1) := by decide +kernel
theorem dL_law_455 : decode code 455 = .ok (.goto 4, 3) := by decide +kernel
theorem dL_law_458 : decode code 458 = .ok (.iconst 0, 1) := by decide +kernel
theorem dL_law_459 : decode code 459 = .ok (.invokevirtual 50, 3) := by decide +kernel
theorem dL_law_462 : decode code 462 = .ok (.aload_n 2, 1) := by decide +kernel
theorem dL_law_463 : decode code 463 = .ok (.aload_n 0, 1) := by decide +kernel
theorem dL_law_464 : decode code 464 = .ok (.iload_n 3, 1) := by decide +kernel
theorem dL_law_465 : decode code 465 = .ok (.iconst 1, 1) := by decide +kernel
theorem dL_law_466 : decode code 466 = .ok (.iadd, 1) := by decide +kernel
theorem dL_law_467 : decode code 467 = .ok (.iaload, 1) := by decide +kernel
theorem dL_law_468 : decode code 468 = .ok (.aload_n 0, 1) := by decide +kernel
theorem dL_law_469 : decode code 469 = .ok (.iload_n 3, 1) := by decide +kernel
theorem dL_law_470 : decode code 470 = .ok (.iconst 2, 1) := by decide +kernel
theorem dL_law_471 : decode code 471 = .ok (.iadd, 1) := by decide +kernel
theorem dL_law_472 : decode code 472 = .ok (.iaload, 1) := by decide +kernel
theorem dL_law_473 : decode code 473 = .ok (.ifCond .eq 7, 3) := by decide +kernel
theorem dL_law_476 : decode code 476 = .ok (.iconst 1, 1) := by decide +kernel
theorem dL_law_477 : decode code 477 = .ok (.goto 4, 3) := by decide +kernel
theorem dL_law_480 : decode code 480 = .ok (.iconst 0, 1) := by decide +kernel
theorem dL_law_481 : decode code 481 = .ok (.invokevirtual 54, 3) := by decide +kernel
theorem dL_law_484 : decode code 484 = .ok (.if_icmp .eq 652, 3) := by decide +kernel
theorem dL_law_487 : decode code 487 = .ok (.iconst 0, 1) := by decide +kernel
theorem dL_law_488 : decode code 488 = .ok (.ireturn, 1) := by decide +kernel
theorem dL_law_489 : decode code 489 = .ok (.aload_n 1, 1) := by decide +kernel
theorem dL_law_490 : decode code 490 = .ok (.aload_n 0, 1) := by decide +kernel
theorem dL_law_491 : decode code 491 = .ok (.iload_n 3, 1) := by decide +kernel
theorem dL_law_492 : decode code 492 = .ok (.iconst 1, 1) := by decide +kernel
theorem dL_law_493 : decode code 493 = .ok (.iadd, 1) := by decide +kernel
theorem dL_law_494 : decode code 494 = .ok (.iaload, 1) := by decide +kernel
theorem dL_law_495 : decode code 495 = .ok (.invokevirtual 55, 3) := by decide +kernel
theorem dL_law_498 : decode code 498 = .ok (.aload_n 2, 1) := by decide +kernel
theorem dL_law_499 : decode code 499 = .ok (.aload_n 0, 1) := by decide +kernel
theorem dL_law_500 : decode code 500 = .ok (.iload_n 3, 1) := by decide +kernel
theorem dL_law_501 : decode code 501 = .ok (.iconst 1, 1) := by decide +kernel
theorem dL_law_502 : decode code 502 = .ok (.iadd, 1) := by decide +kernel
theorem dL_law_503 : decode code 503 = .ok (.iaload, 1) := by decide +kernel
theorem dL_law_504 : decode code 504 = .ok (.invokevirtual 58, 3) := by decide +kernel
theorem dL_law_507 : decode code 507 = .ok (.if_icmp .eq 629, 3) := by decide +kernel
theorem dL_law_510 : decode code 510 = .ok (.iconst 0, 1) := by decide +kernel
theorem dL_law_511 : decode code 511 = .ok (.ireturn, 1) := by decide +kernel
theorem dL_law_512 : decode code 512 = .ok (.aload_n 1, 1) := by decide +kernel
theorem dL_law_513 : decode code 513 = .ok (.aload_n 0, 1) := by decide +kernel
theorem dL_law_514 : decode code 514 = .ok (.iload_n 3, 1) := by decide +kernel
theorem dL_law_515 : decode code 515 = .ok (.iconst 1, 1) := by decide +kernel
theorem dL_law_516 : decode code 516 = .ok (.iadd, 1) := by decide +kernel
theorem dL_law_517 : decode code 517 = .ok (.iaload, 1) := by decide +kernel
theorem dL_law_518 : decode code 518 = .ok (.invokevirtual 59, 3) := by decide +kernel
theorem dL_law_521 : decode code 521 = .ok (.aload_n 2, 1) := by decide +kernel
theorem dL_law_522 : decode code 522 = .ok (.aload_n 0, 1) := by decide +kernel
theorem dL_law_523 : decode code 523 = .ok (.iload_n 3, 1) := by decide +kernel
theorem dL_law_524 : decode code 524 = .ok (.iconst 1, 1) := by decide +kernel
theorem dL_law_525 : decode code 525 = .ok (.iadd, 1) := by decide +kernel
theorem dL_law_526 : decode code 526 = .ok (.iaload, 1) := by decide +kernel
theorem dL_law_527 : decode code 527 = .ok (.invokevirtual 62, 3) := by decide +kernel
theorem dL_law_530 : decode code 530 = .ok (.if_icmp .eq 606, 3) := by decide +kernel
theorem dL_law_533 : decode code 533 = .ok (.iconst 0, 1) := by decide +kernel
theorem dL_law_534 : decode code 534 = .ok (.ireturn, 1) := by decide +kernel
theorem dL_law_535 : decode code 535 = .ok (.aload_n 1, 1) := by decide +kernel
theorem dL_law_536 : decode code 536 = .ok (.aload_n 0, 1) := by decide +kernel
theorem dL_law_537 : decode code 537 = .ok (.iload_n 3, 1) := by decide +kernel
theorem dL_law_538 : decode code 538 = .ok (.iconst 1, 1) := by decide +kernel
theorem dL_law_539 : decode code 539 = .ok (.iadd, 1) := by decide +kernel
theorem dL_law_540 : decode code 540 = .ok (.iaload, 1) := by decide +kernel
theorem dL_law_541 : decode code 541 = .ok (.aload_n 0, 1) := by decide +kernel
theorem dL_law_542 : decode code 542 = .ok (.iload_n 3, 1) := by decide +kernel
theorem dL_law_543 : decode code 543 = .ok (.iconst 2, 1) := by decide +kernel
theorem dL_law_544 : decode code 544 = .ok (.iadd, 1) := by decide +kernel
theorem dL_law_545 : decode code 545 = .ok (.iaload, 1) := by decide +kernel
theorem dL_law_546 : decode code 546 = .ok (.invokevirtual 63, 3) := by decide +kernel
theorem dL_law_549 : decode code 549 = .ok (.aload_n 2, 1) := by decide +kernel
theorem dL_law_550 : decode code 550 = .ok (.aload_n 0, 1) := by decide +kernel
theorem dL_law_551 : decode code 551 = .ok (.iload_n 3, 1) := by decide +kernel
theorem dL_law_552 : decode code 552 = .ok (.iconst 1, 1) := by decide +kernel
theorem dL_law_553 : decode code 553 = .ok (.iadd, 1) := by decide +kernel
theorem dL_law_554 : decode code 554 = .ok (.iaload, 1) := by decide +kernel
theorem dL_law_555 : decode code 555 = .ok (.aload_n 0, 1) := by decide +kernel
theorem dL_law_556 : decode code 556 = .ok (.iload_n 3, 1) := by decide +kernel
theorem dL_law_557 : decode code 557 = .ok (.iconst 2, 1) := by decide +kernel
theorem dL_law_558 : decode code 558 = .ok (.iadd, 1) := by decide +kernel
theorem dL_law_559 : decode code 559 = .ok (.iaload, 1) := by decide +kernel
theorem dL_law_560 : decode code 560 = .ok (.invokevirtual 66, 3) := by decide +kernel
theorem dL_law_563 : decode code 563 = .ok (.if_icmp .eq 573, 3) := by decide +kernel
theorem dL_law_566 : decode code 566 = .ok (.iconst 0, 1) := by decide +kernel
theorem dL_law_567 : decode code 567 = .ok (.ireturn, 1) := by decide +kernel
theorem dL_law_568 : decode code 568 = .ok (.aload_n 1, 1) := by decide +kernel
theorem dL_law_569 : decode code 569 = .ok (.aload_n 0, 1) := by decide +kernel
theorem dL_law_570 : decode code 570 = .ok (.iload_n 3, 1) := by decide +kernel
theorem dL_law_571 : decode code 571 = .ok (.iconst 1, 1) := by decide +kernel
theorem dL_law_572 : decode code 572 = .ok (.iadd, 1) := by decide +kernel
theorem dL_law_573 : decode code 573 = .ok (.iaload, 1) := by decide +kernel
theorem dL_law_574 : decode code 574 = .ok (.invokevirtual 67, 3) := by decide +kernel
theorem dL_law_577 : decode code 577 = .ok (.aload_n 2, 1) := by decide +kernel
theorem dL_law_578 : decode code 578 = .ok (.aload_n 0, 1) := by decide +kernel
theorem dL_law_579 : decode code 579 = .ok (.iload_n 3, 1) := by decide +kernel
theorem dL_law_580 : decode code 580 = .ok (.iconst 1, 1) := by decide +kernel
theorem dL_law_581 : decode code 581 = .ok (.iadd, 1) := by decide +kernel
theorem dL_law_582 : decode code 582 = .ok (.iaload, 1) := by decide +kernel
theorem dL_law_583 : decode code 583 = .ok (.invokevirtual 70, 3) := by decide +kernel
theorem dL_law_586 : decode code 586 = .ok (.if_icmp .eq 550, 3) := by decide +kernel
theorem dL_law_589 : decode code 589 = .ok (.iconst 0, 1) := by decide +kernel
theorem dL_law_590 : decode code 590 = .ok (.ireturn, 1) := by decide +kernel
theorem dL_law_591 : decode code 591 = .ok (.aload_n 1, 1) := by decide +kernel
theorem dL_law_592 : decode code 592 = .ok (.aload_n 0, 1) := by decide +kernel
theorem dL_law_593 : decode code 593 = .ok (.iload_n 3, 1) := by decide +kernel
theorem dL_law_594 : decode code 594 = .ok (.iconst 1, 1) := by decide +kernel
theorem dL_law_595 : decode code 595 = .ok (.iadd, 1) := by decide +kernel
theorem dL_law_596 : decode code 596 = .ok (.iaload, 1) := by decide +kernel
theorem dL_law_597 : decode code 597 = .ok (.aload_n 0, 1) := by decide +kernel
theorem dL_law_598 : decode code 598 = .ok (.iload_n 3, 1) := by decide +kernel
theorem dL_law_599 : decode code 599 = .ok (.iconst 2, 1) := by decide +kernel
theorem dL_law_600 : decode code 600 = .ok (.iadd, 1) := by decide +kernel
theorem dL_law_601 : decode code 601 = .ok (.iaload, 1) := by decide +kernel
theorem dL_law_602 : decode code 602 = .ok (.invokevirtual 71, 3) := by decide +kernel
theorem dL_law_605 : decode code 605 = .ok (.aload_n 2, 1) := by decide +kernel
theorem dL_law_606 : decode code 606 = .ok (.aload_n 0, 1) := by decide +kernel
theorem dL_law_607 : decode code 607 = .ok (.iload_n 3, 1) := by decide +kernel
theorem dL_law_608 : decode code 608 = .ok (.iconst 1, 1) := by decide +kernel
theorem dL_law_609 : decode code 609 = .ok (.iadd, 1) := by decide +kernel
theorem dL_law_610 : decode code 610 = .ok (.iaload, 1) := by decide +kernel
theorem dL_law_611 : decode code 611 = .ok (.aload_n 0, 1) := by decide +kernel
theorem dL_law_612 : decode code 612 = .ok (.iload_n 3, 1) := by decide +kernel
theorem dL_law_613 : decode code 613 = .ok (.iconst 2, 1) := by decide +kernel
theorem dL_law_614 : decode code 614 = .ok (.iadd, 1) := by decide +kernel
theorem dL_law_615 : decode code 615 = .ok (.iaload, 1) := by decide +kernel
theorem dL_law_616 : decode code 616 = .ok (.invokevirtual 74, 3) := by decide +kernel
theorem dL_law_619 : decode code 619 = .ok (.if_icmp .eq 517, 3) := by decide +kernel
theorem dL_law_622 : decode code 622 = .ok (.iconst 0, 1) := by decide +kernel
theorem dL_law_623 : decode code 623 = .ok (.ireturn, 1) := by decide +kernel
theorem dL_law_624 : decode code 624 = .ok (.aload_n 1, 1) := by decide +kernel
theorem dL_law_625 : decode code 625 = .ok (.aload_n 0, 1) := by decide +kernel
theorem dL_law_626 : decode code 626 = .ok (.iload_n 3, 1) := by decide +kernel
theorem dL_law_627 : decode code 627 = .ok (.iconst 1, 1) := by decide +kernel
theorem dL_law_628 : decode code 628 = .ok (.iadd, 1) := by decide +kernel
theorem dL_law_629 : decode code 629 = .ok (.iaload, 1) := by decide +kernel
theorem dL_law_630 : decode code 630 = .ok (.aload_n 0, 1) := by decide +kernel
theorem dL_law_631 : decode code 631 = .ok (.iload_n 3, 1) := by decide +kernel
theorem dL_law_632 : decode code 632 = .ok (.iconst 2, 1) := by decide +kernel
theorem dL_law_633 : decode code 633 = .ok (.iadd, 1) := by decide +kernel
theorem dL_law_634 : decode code 634 = .ok (.iaload, 1) := by decide +kernel
theorem dL_law_635 : decode code 635 = .ok (.invokevirtual 75, 3) := by decide +kernel
theorem dL_law_638 : decode code 638 = .ok (.aload_n 2, 1) := by decide +kernel
theorem dL_law_639 : decode code 639 = .ok (.aload_n 0, 1) := by decide +kernel
theorem dL_law_640 : decode code 640 = .ok (.iload_n 3, 1) := by decide +kernel
theorem dL_law_641 : decode code 641 = .ok (.iconst 1, 1) := by decide +kernel
theorem dL_law_642 : decode code 642 = .ok (.iadd, 1) := by decide +kernel
theorem dL_law_643 : decode code 643 = .ok (.iaload, 1) := by decide +kernel
theorem dL_law_644 : decode code 644 = .ok (.aload_n 0, 1) := by decide +kernel
theorem dL_law_645 : decode code 645 = .ok (.iload_n 3, 1) := by decide +kernel
theorem dL_law_646 : decode code 646 = .ok (.iconst 2, 1) := by decide +kernel
theorem dL_law_647 : decode code 647 = .ok (.iadd, 1) := by decide +kernel
theorem dL_law_648 : decode code 648 = .ok (.iaload, 1) := by decide +kernel
theorem dL_law_649 : decode code 649 = .ok (.invokevirtual 78, 3) := by decide +kernel
theorem dL_law_652 : decode code 652 = .ok (.if_icmp .eq 484, 3) := by decide +kernel
theorem dL_law_655 : decode code 655 = .ok (.iconst 0, 1) := by decide +kernel
theorem dL_law_656 : decode code 656 = .ok (.ireturn, 1) := by decide +kernel
theorem dL_law_657 : decode code 657 = .ok (.aload_n 1, 1) := by decide +kernel
theorem dL_law_658 : decode code 658 = .ok (.invokevirtual 79, 3) := by decide +kernel
theorem dL_law_661 : decode code 661 = .ok (.aload_n 2, 1) := by decide +kernel
theorem dL_law_662 : decode code 662 = .ok (.invokevirtual 82, 3) := by decide +kernel
theorem dL_law_665 : decode code 665 = .ok (.if_icmp .eq 471, 3) := by decide +kernel
theorem dL_law_668 : decode code 668 = .ok (.iconst 0, 1) := by decide +kernel
theorem dL_law_669 : decode code 669 = .ok (.ireturn, 1) := by decide +kernel
theorem dL_law_670 : decode code 670 = .ok (.aload_n 1, 1) := by decide +kernel
theorem dL_law_671 : decode code 671 = .ok (.aload_n 0, 1) := by decide +kernel
theorem dL_law_672 : decode code 672 = .ok (.iload_n 3, 1) := by decide +kernel
theorem dL_law_673 : decode code 673 = .ok (.iconst 1, 1) := by decide +kernel
theorem dL_law_674 : decode code 674 = .ok (.iadd, 1) := by decide +kernel
theorem dL_law_675 : decode code 675 = .ok (.iaload, 1) := by decide +kernel
theorem dL_law_676 : decode code 676 = .ok (.aload_n 0, 1) := by decide +kernel
theorem dL_law_677 : decode code 677 = .ok (.iload_n 3, 1) := by decide +kernel
theorem dL_law_678 : decode code 678 = .ok (.iconst 2, 1) := by decide +kernel
theorem dL_law_679 : decode code 679 = .ok (.iadd, 1) := by decide +kernel
theorem dL_law_680 : decode code 680 = .ok (.iaload, 1) := by decide +kernel
theorem dL_law_681 : decode code 681 = .ok (.aload_n 0, 1) := by decide +kernel
theorem dL_law_682 : decode code 682 = .ok (.iload_n 3, 1) := by decide +kernel
theorem dL_law_683 : decode code 683 = .ok (.iconst 3, 1) := by decide +kernel
theorem dL_law_684 : decode code 684 = .ok (.iadd, 1) := by decide +kernel
theorem dL_law_685 : decode code 685 = .ok (.iaload, 1) := by decide +kernel
theorem dL_law_686 : decode code 686 = .ok (.ifCond .eq 7, 3) := by decide +kernel
theorem dL_law_689 : decode code 689 = .ok (.iconst 1, 1) := by decide +kernel
theorem dL_law_690 : decode code 690 = .ok (.goto 4, 3) := by decide +kernel
theorem dL_law_693 : decode code 693 = .ok (.iconst 0, 1) := by decide +kernel
theorem dL_law_694 : decode code 694 = .ok (.invokevirtual 83, 3) := by decide +kernel
theorem dL_law_697 : decode code 697 = .ok (.aload_n 2, 1) := by decide +kernel
theorem dL_law_698 : decode code 698 = .ok (.aload_n 0, 1) := by decide +kernel
theorem dL_law_699 : decode code 699 = .ok (.iload_n 3, 1) := by decide +kernel
theorem dL_law_700 : decode code 700 = .ok (.iconst 1, 1) := by decide +kernel
theorem dL_law_701 : decode code 701 = .ok (.iadd, 1) := by decide +kernel
theorem dL_law_702 : decode code 702 = .ok (.iaload, 1) := by decide +kernel
theorem dL_law_703 : decode code 703 = .ok (.aload_n 0, 1) := by decide +kernel
theorem dL_law_704 : decode code 704 = .ok (.iload_n 3, 1) := by decide +kernel
theorem dL_law_705 : decode code 705 = .ok (.iconst 2, 1) := by decide +kernel
theorem dL_law_706 : decode code 706 = .ok (.iadd, 1) := by decide +kernel
theorem dL_law_707 : decode code 707 = .ok (.iaload, 1) := by decide +kernel
theorem dL_law_708 : decode code 708 = .ok (.aload_n 0, 1) := by decide +kernel
theorem dL_law_709 : decode code 709 = .ok (.iload_n 3, 1) := by decide +kernel
theorem dL_law_710 : decode code 710 = .ok (.iconst 3, 1) := by decide +kernel
theorem dL_law_711 : decode code 711 = .ok (.iadd, 1) := by decide +kernel
theorem dL_law_712 : decode code 712 = .ok (.iaload, 1) := by decide +kernel
theorem dL_law_713 : decode code 713 = .ok (.ifCond .eq 7, 3) := by decide +kernel
theorem dL_law_716 : decode code 716 = .ok (.iconst 1, 1) := by decide +kernel
theorem dL_law_717 : decode code 717 = .ok (.goto 4, 3) := by decide +kernel
theorem dL_law_720 : decode code 720 = .ok (.iconst 0, 1) := by decide +kernel
theorem dL_law_721 : decode code 721 = .ok (.invokevirtual 87, 3) := by decide +kernel
theorem dL_law_724 : decode code 724 = .ok (.if_icmp .eq 412, 3) := by decide +kernel
theorem dL_law_727 : decode code 727 = .ok (.iconst 0, 1) := by decide +kernel
theorem dL_law_728 : decode code 728 = .ok (.ireturn, 1) := by decide +kernel
theorem dL_law_729 : decode code 729 = .ok (.aload_n 1, 1) := by decide +kernel
theorem dL_law_730 : decode code 730 = .ok (.aload_n 0, 1) := by decide +kernel
theorem dL_law_731 : decode code 731 = .ok (.iload_n 3, 1) := by decide +kernel
theorem dL_law_732 : decode code 732 = .ok (.iconst 1, 1) := by decide +kernel
theorem dL_law_733 : decode code 733 = .ok (.iadd, 1) := by decide +kernel
theorem dL_law_734 : decode code 734 = .ok (.iaload, 1) := by decide +kernel
theorem dL_law_735 : decode code 735 = .ok (.invokevirtual 88, 3) := by decide +kernel
theorem dL_law_738 : decode code 738 = .ok (.aload_n 2, 1) := by decide +kernel
theorem dL_law_739 : decode code 739 = .ok (.aload_n 0, 1) := by decide +kernel
theorem dL_law_740 : decode code 740 = .ok (.iload_n 3, 1) := by decide +kernel
theorem dL_law_741 : decode code 741 = .ok (.iconst 1, 1) := by decide +kernel
theorem dL_law_742 : decode code 742 = .ok (.iadd, 1) := by decide +kernel
theorem dL_law_743 : decode code 743 = .ok (.iaload, 1) := by decide +kernel
theorem dL_law_744 : decode code 744 = .ok (.invokevirtual 91, 3) := by decide +kernel
theorem dL_law_747 : decode code 747 = .ok (.if_icmp .eq 389, 3) := by decide +kernel
theorem dL_law_750 : decode code 750 = .ok (.iconst 0, 1) := by decide +kernel
theorem dL_law_751 : decode code 751 = .ok (.ireturn, 1) := by decide +kernel
theorem dL_law_752 : decode code 752 = .ok (.aload_n 1, 1) := by decide +kernel
theorem dL_law_753 : decode code 753 = .ok (.aload_n 0, 1) := by decide +kernel
theorem dL_law_754 : decode code 754 = .ok (.iload_n 3, 1) := by decide +kernel
theorem dL_law_755 : decode code 755 = .ok (.iconst 1, 1) := by decide +kernel
theorem dL_law_756 : decode code 756 = .ok (.iadd, 1) := by decide +kernel
theorem dL_law_757 : decode code 757 = .ok (.iaload, 1) := by decide +kernel
theorem dL_law_758 : decode code 758 = .ok (.invokevirtual 92, 3) := by decide +kernel
theorem dL_law_761 : decode code 761 = .ok (.aload_n 2, 1) := by decide +kernel
theorem dL_law_762 : decode code 762 = .ok (.aload_n 0, 1) := by decide +kernel
theorem dL_law_763 : decode code 763 = .ok (.iload_n 3, 1) := by decide +kernel
theorem dL_law_764 : decode code 764 = .ok (.iconst 1, 1) := by decide +kernel
theorem dL_law_765 : decode code 765 = .ok (.iadd, 1) := by decide +kernel
theorem dL_law_766 : decode code 766 = .ok (.iaload, 1) := by decide +kernel
theorem dL_law_767 : decode code 767 = .ok (.invokevirtual 95, 3) := by decide +kernel
theorem dL_law_770 : decode code 770 = .ok (.if_icmp .eq 366, 3) := by decide +kernel
theorem dL_law_773 : decode code 773 = .ok (.iconst 0, 1) := by decide +kernel
theorem dL_law_774 : decode code 774 = .ok (.ireturn, 1) := by decide +kernel
theorem dL_law_775 : decode code 775 = .ok (.aload_n 1, 1) := by decide +kernel
theorem dL_law_776 : decode code 776 = .ok (.aload_n 0, 1) := by decide +kernel
theorem dL_law_777 : decode code 777 = .ok (.iload_n 3, 1) := by decide +kernel
theorem dL_law_778 : decode code 778 = .ok (.iconst 1, 1) := by decide +kernel
theorem dL_law_779 : decode code 779 = .ok (.iadd, 1) := by decide +kernel
theorem dL_law_780 : decode code 780 = .ok (.iaload, 1) := by decide +kernel
theorem dL_law_781 : decode code 781 = .ok (.aload_n 0, 1) := by decide +kernel
theorem dL_law_782 : decode code 782 = .ok (.iload_n 3, 1) := by decide +kernel
theorem dL_law_783 : decode code 783 = .ok (.iconst 2, 1) := by decide +kernel
theorem dL_law_784 : decode code 784 = .ok (.iadd, 1) := by decide +kernel
theorem dL_law_785 : decode code 785 = .ok (.iaload, 1) := by decide +kernel
theorem dL_law_786 : decode code 786 = .ok (.invokevirtual 96, 3) := by decide +kernel
theorem dL_law_789 : decode code 789 = .ok (.aload_n 2, 1) := by decide +kernel
theorem dL_law_790 : decode code 790 = .ok (.aload_n 0, 1) := by decide +kernel
theorem dL_law_791 : decode code 791 = .ok (.iload_n 3, 1) := by decide +kernel
theorem dL_law_792 : decode code 792 = .ok (.iconst 1, 1) := by decide +kernel
theorem dL_law_793 : decode code 793 = .ok (.iadd, 1) := by decide +kernel
theorem dL_law_794 : decode code 794 = .ok (.iaload, 1) := by decide +kernel
theorem dL_law_795 : decode code 795 = .ok (.aload_n 0, 1) := by decide +kernel
theorem dL_law_796 : decode code 796 = .ok (.iload_n 3, 1) := by decide +kernel
theorem dL_law_797 : decode code 797 = .ok (.iconst 2, 1) := by decide +kernel
theorem dL_law_798 : decode code 798 = .ok (.iadd, 1) := by decide +kernel
theorem dL_law_799 : decode code 799 = .ok (.iaload, 1) := by decide +kernel
theorem dL_law_800 : decode code 800 = .ok (.invokevirtual 99, 3) := by decide +kernel
theorem dL_law_803 : decode code 803 = .ok (.if_icmp .eq 333, 3) := by decide +kernel
theorem dL_law_806 : decode code 806 = .ok (.iconst 0, 1) := by decide +kernel
theorem dL_law_807 : decode code 807 = .ok (.ireturn, 1) := by decide +kernel
theorem dL_law_808 : decode code 808 = .ok (.aload_n 1, 1) := by decide +kernel
theorem dL_law_809 : decode code 809 = .ok (.aload_n 0, 1) := by decide +kernel
theorem dL_law_810 : decode code 810 = .ok (.iload_n 3, 1) := by decide +kernel
theorem dL_law_811 : decode code 811 = .ok (.iconst 1, 1) := by decide +kernel
theorem dL_law_812 : decode code 812 = .ok (.iadd, 1) := by decide +kernel
theorem dL_law_813 : decode code 813 = .ok (.iaload, 1) := by decide +kernel
theorem dL_law_814 : decode code 814 = .ok (.aload_n 0, 1) := by decide +kernel
theorem dL_law_815 : decode code 815 = .ok (.iload_n 3, 1) := by decide +kernel
theorem dL_law_816 : decode code 816 = .ok (.iconst 2, 1) := by decide +kernel
theorem dL_law_817 : decode code 817 = .ok (.iadd, 1) := by decide +kernel
theorem dL_law_818 : decode code 818 = .ok (.iaload, 1) := by decide +kernel
theorem dL_law_819 : decode code 819 = .ok (.aload_n 0, 1) := by decide +kernel
theorem dL_law_820 : decode code 820 = .ok (.iload_n 3, 1) := by decide +kernel
theorem dL_law_821 : decode code 821 = .ok (.iconst 3, 1) := by decide +kernel
theorem dL_law_822 : decode code 822 = .ok (.iadd, 1) := by decide +kernel
theorem dL_law_823 : decode code 823 = .ok (.iaload, 1) := by decide +kernel
theorem dL_law_824 : decode code 824 = .ok (.invokevirtual 100, 3) := by decide +kernel
theorem dL_law_827 : decode code 827 = .ok (.aload_n 2, 1) := by decide +kernel
theorem dL_law_828 : decode code 828 = .ok (.aload_n 0, 1) := by decide +kernel
theorem dL_law_829 : decode code 829 = .ok (.iload_n 3, 1) := by decide +kernel
theorem dL_law_830 : decode code 830 = .ok (.iconst 1, 1) := by decide +kernel
theorem dL_law_831 : decode code 831 = .ok (.iadd, 1) := by decide +kernel
theorem dL_law_832 : decode code 832 = .ok (.iaload, 1) := by decide +kernel
theorem dL_law_833 : decode code 833 = .ok (.aload_n 0, 1) := by decide +kernel
theorem dL_law_834 : decode code 834 = .ok (.iload_n 3, 1) := by decide +kernel
theorem dL_law_835 : decode code 835 = .ok (.iconst 2, 1) := by decide +kernel
theorem dL_law_836 : decode code 836 = .ok (.iadd, 1) := by decide +kernel
theorem dL_law_837 : decode code 837 = .ok (.iaload, 1) := by decide +kernel
theorem dL_law_838 : decode code 838 = .ok (.aload_n 0, 1) := by decide +kernel
theorem dL_law_839 : decode code 839 = .ok (.iload_n 3, 1) := by decide +kernel
theorem dL_law_840 : decode code 840 = .ok (.iconst 3, 1) := by decide +kernel
theorem dL_law_841 : decode code 841 = .ok (.iadd, 1) := by decide +kernel
theorem dL_law_842 : decode code 842 = .ok (.iaload, 1) := by decide +kernel
theorem dL_law_843 : decode code 843 = .ok (.invokevirtual 104, 3) := by decide +kernel
theorem dL_law_846 : decode code 846 = .ok (.lcmp, 1) := by decide +kernel
theorem dL_law_847 : decode code 847 = .ok (.ifCond .eq 289, 3) := by decide +kernel
theorem dL_law_850 : decode code 850 = .ok (.iconst 0, 1) := by decide +kernel
theorem dL_law_851 : decode code 851 = .ok (.ireturn, 1) := by decide +kernel
theorem dL_law_852 : decode code 852 = .ok (.aload_n 1, 1) := by decide +kernel
theorem dL_law_853 : decode code 853 = .ok (.aload_n 0, 1) := by decide +kernel
theorem dL_law_854 : decode code 854 = .ok (.iload_n 3, 1) := by decide +kernel
theorem dL_law_855 : decode code 855 = .ok (.iconst 1, 1) := by decide +kernel
theorem dL_law_856 : decode code 856 = .ok (.iadd, 1) := by decide +kernel
theorem dL_law_857 : decode code 857 = .ok (.iaload, 1) := by decide +kernel
theorem dL_law_858 : decode code 858 = .ok (.aload_n 0, 1) := by decide +kernel
theorem dL_law_859 : decode code 859 = .ok (.iload_n 3, 1) := by decide +kernel
theorem dL_law_860 : decode code 860 = .ok (.iconst 2, 1) := by decide +kernel
theorem dL_law_861 : decode code 861 = .ok (.iadd, 1) := by decide +kernel
theorem dL_law_862 : decode code 862 = .ok (.iaload, 1) := by decide +kernel
theorem dL_law_863 : decode code 863 = .ok (.invokevirtual 105, 3) := by decide +kernel
theorem dL_law_866 : decode code 866 = .ok (.aload_n 2, 1) := by decide +kernel
theorem dL_law_867 : decode code 867 = .ok (.aload_n 0, 1) := by decide +kernel
theorem dL_law_868 : decode code 868 = .ok (.iload_n 3, 1) := by decide +kernel
theorem dL_law_869 : decode code 869 = .ok (.iconst 1, 1) := by decide +kernel
theorem dL_law_870 : decode code 870 = .ok (.iadd, 1) := by decide +kernel
theorem dL_law_871 : decode code 871 = .ok (.iaload, 1) := by decide +kernel
theorem dL_law_872 : decode code 872 = .ok (.aload_n 0, 1) := by decide +kernel
theorem dL_law_873 : decode code 873 = .ok (.iload_n 3, 1) := by decide +kernel
theorem dL_law_874 : decode code 874 = .ok (.iconst 2, 1) := by decide +kernel
theorem dL_law_875 : decode code 875 = .ok (.iadd, 1) := by decide +kernel
theorem dL_law_876 : decode code 876 = .ok (.iaload, 1) := by decide +kernel
theorem dL_law_877 : decode code 877 = .ok (.invokevirtual 109, 3) := by decide +kernel
theorem dL_law_880 : decode code 880 = .ok (.lcmp, 1) := by decide +kernel
theorem dL_law_881 : decode code 881 = .ok (.ifCond .eq 255, 3) := by decide +kernel
theorem dL_law_884 : decode code 884 = .ok (.iconst 0, 1) := by decide +kernel
theorem dL_law_885 : decode code 885 = .ok (.ireturn, 1) := by decide +kernel
theorem dL_law_886 : decode code 886 = .ok (.aload_n 1, 1) := by decide +kernel
theorem dL_law_887 : decode code 887 = .ok (.aload_n 0, 1) := by decide +kernel
theorem dL_law_888 : decode code 888 = .ok (.iload_n 3, 1) := by decide +kernel
theorem dL_law_889 : decode code 889 = .ok (.iconst 1, 1) := by decide +kernel
theorem dL_law_890 : decode code 890 = .ok (.iadd, 1) := by decide +kernel
theorem dL_law_891 : decode code 891 = .ok (.iaload, 1) := by decide +kernel
theorem dL_law_892 : decode code 892 = .ok (.aload_n 0, 1) := by decide +kernel
theorem dL_law_893 : decode code 893 = .ok (.iload_n 3, 1) := by decide +kernel
theorem dL_law_894 : decode code 894 = .ok (.iconst 2, 1) := by decide +kernel
theorem dL_law_895 : decode code 895 = .ok (.iadd, 1) := by decide +kernel
theorem dL_law_896 : decode code 896 = .ok (.iaload, 1) := by decide +kernel
theorem dL_law_897 : decode code 897 = .ok (.invokevirtual 110, 3) := by decide +kernel
theorem dL_law_900 : decode code 900 = .ok (.aload_n 2, 1) := by decide +kernel
theorem dL_law_901 : decode code 901 = .ok (.aload_n 0, 1) := by decide +kernel
theorem dL_law_902 : decode code 902 = .ok (.iload_n 3, 1) := by decide +kernel
theorem dL_law_903 : decode code 903 = .ok (.iconst 1, 1) := by decide +kernel
theorem dL_law_904 : decode code 904 = .ok (.iadd, 1) := by decide +kernel
theorem dL_law_905 : decode code 905 = .ok (.iaload, 1) := by decide +kernel
theorem dL_law_906 : decode code 906 = .ok (.aload_n 0, 1) := by decide +kernel
theorem dL_law_907 : decode code 907 = .ok (.iload_n 3, 1) := by decide +kernel
theorem dL_law_908 : decode code 908 = .ok (.iconst 2, 1) := by decide +kernel
theorem dL_law_909 : decode code 909 = .ok (.iadd, 1) := by decide +kernel
theorem dL_law_910 : decode code 910 = .ok (.iaload, 1) := by decide +kernel
theorem dL_law_911 : decode code 911 = .ok (.invokevirtual 113, 3) := by decide +kernel
theorem dL_law_914 : decode code 914 = .ok (.if_icmp .eq 222, 3) := by decide +kernel
theorem dL_law_917 : decode code 917 = .ok (.iconst 0, 1) := by decide +kernel
theorem dL_law_918 : decode code 918 = .ok (.ireturn, 1) := by decide +kernel
theorem dL_law_919 : decode code 919 = .ok (.aload_n 1, 1) := by decide +kernel
theorem dL_law_920 : decode code 920 = .ok (.aload_n 0, 1) := by decide +kernel
theorem dL_law_921 : decode code 921 = .ok (.iload_n 3, 1) := by decide +kernel
theorem dL_law_922 : decode code 922 = .ok (.iconst 1, 1) := by decide +kernel
theorem dL_law_923 : decode code 923 = .ok (.iadd, 1) := by decide +kernel
theorem dL_law_924 : decode code 924 = .ok (.iaload, 1) := by decide +kernel
theorem dL_law_925 : decode code 925 = .ok (.invokevirtual 114, 3) := by decide +kernel
theorem dL_law_928 : decode code 928 = .ok (.aload_n 2, 1) := by decide +kernel
theorem dL_law_929 : decode code 929 = .ok (.aload_n 0, 1) := by decide +kernel
theorem dL_law_930 : decode code 930 = .ok (.iload_n 3, 1) := by decide +kernel
theorem dL_law_931 : decode code 931 = .ok (.iconst 1, 1) := by decide +kernel
theorem dL_law_932 : decode code 932 = .ok (.iadd, 1) := by decide +kernel
theorem dL_law_933 : decode code 933 = .ok (.iaload, 1) := by decide +kernel
theorem dL_law_934 : decode code 934 = .ok (.invokevirtual 117, 3) := by decide +kernel
theorem dL_law_937 : decode code 937 = .ok (.if_icmp .eq 199, 3) := by decide +kernel
theorem dL_law_940 : decode code 940 = .ok (.iconst 0, 1) := by decide +kernel
theorem dL_law_941 : decode code 941 = .ok (.ireturn, 1) := by decide +kernel
theorem dL_law_942 : decode code 942 = .ok (.aload_n 1, 1) := by decide +kernel
theorem dL_law_943 : decode code 943 = .ok (.aload_n 0, 1) := by decide +kernel
theorem dL_law_944 : decode code 944 = .ok (.iload_n 3, 1) := by decide +kernel
theorem dL_law_945 : decode code 945 = .ok (.iconst 1, 1) := by decide +kernel
theorem dL_law_946 : decode code 946 = .ok (.iadd, 1) := by decide +kernel
theorem dL_law_947 : decode code 947 = .ok (.iaload, 1) := by decide +kernel
theorem dL_law_948 : decode code 948 = .ok (.aload_n 0, 1) := by decide +kernel
theorem dL_law_949 : decode code 949 = .ok (.iload_n 3, 1) := by decide +kernel
theorem dL_law_950 : decode code 950 = .ok (.iconst 2, 1) := by decide +kernel
theorem dL_law_951 : decode code 951 = .ok (.iadd, 1) := by decide +kernel
theorem dL_law_952 : decode code 952 = .ok (.iaload, 1) := by decide +kernel
theorem dL_law_953 : decode code 953 = .ok (.invokevirtual 118, 3) := by decide +kernel
theorem dL_law_956 : decode code 956 = .ok (.aload_n 2, 1) := by decide +kernel
theorem dL_law_957 : decode code 957 = .ok (.aload_n 0, 1) := by decide +kernel
theorem dL_law_958 : decode code 958 = .ok (.iload_n 3, 1) := by decide +kernel
theorem dL_law_959 : decode code 959 = .ok (.iconst 1, 1) := by decide +kernel
theorem dL_law_960 : decode code 960 = .ok (.iadd, 1) := by decide +kernel
theorem dL_law_961 : decode code 961 = .ok (.iaload, 1) := by decide +kernel
theorem dL_law_962 : decode code 962 = .ok (.aload_n 0, 1) := by decide +kernel
theorem dL_law_963 : decode code 963 = .ok (.iload_n 3, 1) := by decide +kernel
theorem dL_law_964 : decode code 964 = .ok (.iconst 2, 1) := by decide +kernel
theorem dL_law_965 : decode code 965 = .ok (.iadd, 1) := by decide +kernel
theorem dL_law_966 : decode code 966 = .ok (.iaload, 1) := by decide +kernel
theorem dL_law_967 : decode code 967 = .ok (.invokevirtual 121, 3) := by decide +kernel
theorem dL_law_970 : decode code 970 = .ok (.if_icmp .eq 166, 3) := by decide +kernel
theorem dL_law_973 : decode code 973 = .ok (.iconst 0, 1) := by decide +kernel
theorem dL_law_974 : decode code 974 = .ok (.ireturn, 1) := by decide +kernel
theorem dL_law_975 : decode code 975 = .ok (.aload_n 1, 1) := by decide +kernel
theorem dL_law_976 : decode code 976 = .ok (.invokevirtual 122, 3) := by decide +kernel
theorem dL_law_979 : decode code 979 = .ok (.aload_n 2, 1) := by decide +kernel
theorem dL_law_980 : decode code 980 = .ok (.invokevirtual 125, 3) := by decide +kernel
theorem dL_law_983 : decode code 983 = .ok (.if_icmp .eq 153, 3) := by decide +kernel
theorem dL_law_986 : decode code 986 = .ok (.iconst 0, 1) := by decide +kernel
theorem dL_law_987 : decode code 987 = .ok (.ireturn, 1) := by decide +kernel
theorem dL_law_988 : decode code 988 = .ok (.aload_n 1, 1) := by decide +kernel
theorem dL_law_989 : decode code 989 = .ok (.aload_n 0, 1) := by decide +kernel
theorem dL_law_990 : decode code 990 = .ok (.iload_n 3, 1) := by decide +kernel
theorem dL_law_991 : decode code 991 = .ok (.iconst 1, 1) := by decide +kernel
theorem dL_law_992 : decode code 992 = .ok (.iadd, 1) := by decide +kernel
theorem dL_law_993 : decode code 993 = .ok (.iaload, 1) := by decide +kernel
theorem dL_law_994 : decode code 994 = .ok (.aload_n 0, 1) := by decide +kernel
theorem dL_law_995 : decode code 995 = .ok (.iload_n 3, 1) := by decide +kernel
theorem dL_law_996 : decode code 996 = .ok (.iconst 2, 1) := by decide +kernel
theorem dL_law_997 : decode code 997 = .ok (.iadd, 1) := by decide +kernel
theorem dL_law_998 : decode code 998 = .ok (.iaload, 1) := by decide +kernel
theorem dL_law_999 : decode code 999 = .ok (.aload_n 0, 1) := by decide +kernel
theorem dL_law_1000 : decode code 1000 = .ok (.iload_n 3, 1) := by decide +kernel
theorem dL_law_1001 : decode code 1001 = .ok (.iconst 3, 1) := by decide +kernel
theorem dL_law_1002 : decode code 1002 = .ok (.iadd, 1) := by decide +kernel
theorem dL_law_1003 : decode code 1003 = .ok (.iaload, 1) := by decide +kernel
theorem dL_law_1004 : decode code 1004 = .ok (.invokevirtual 126, 3) := by decide +kernel
theorem dL_law_1007 : decode code 1007 = .ok (.aload_n 2, 1) := by decide +kernel
theorem dL_law_1008 : decode code 1008 = .ok (.aload_n 0, 1) := by decide +kernel
theorem dL_law_1009 : decode code 1009 = .ok (.iload_n 3, 1) := by decide +kernel
theorem dL_law_1010 : decode code 1010 = .ok (.iconst 1, 1) := by decide +kernel
theorem dL_law_1011 : decode code 1011 = .ok (.iadd, 1) := by decide +kernel
theorem dL_law_1012 : decode code 1012 = .ok (.iaload, 1) := by decide +kernel
theorem dL_law_1013 : decode code 1013 = .ok (.aload_n 0, 1) := by decide +kernel
theorem dL_law_1014 : decode code 1014 = .ok (.iload_n 3, 1) := by decide +kernel
theorem dL_law_1015 : decode code 1015 = .ok (.iconst 2, 1) := by decide +kernel
theorem dL_law_1016 : decode code 1016 = .ok (.iadd, 1) := by decide +kernel
theorem dL_law_1017 : decode code 1017 = .ok (.iaload, 1) := by decide +kernel
theorem dL_law_1018 : decode code 1018 = .ok (.aload_n 0, 1) := by decide +kernel
theorem dL_law_1019 : decode code 1019 = .ok (.iload_n 3, 1) := by decide +kernel
theorem dL_law_1020 : decode code 1020 = .ok (.iconst 3, 1) := by decide +kernel
theorem dL_law_1021 : decode code 1021 = .ok (.iadd, 1) := by decide +kernel
theorem dL_law_1022 : decode code 1022 = .ok (.iaload, 1) := by decide +kernel
theorem dL_law_1023 : decode code 1023 = .ok (.invokevirtual 129, 3) := by decide +kernel
theorem dL_law_1026 : decode code 1026 = .ok (.if_icmp .eq 110, 3) := by decide +kernel
theorem dL_law_1029 : decode code 1029 = .ok (.iconst 0, 1) := by decide +kernel
theorem dL_law_1030 : decode code 1030 = .ok (.ireturn, 1) := by decide +kernel
theorem dL_law_1031 : decode code 1031 = .ok (.aload_n 1, 1) := by decide +kernel
theorem dL_law_1032 : decode code 1032 = .ok (.aload_n 0, 1) := by decide +kernel
theorem dL_law_1033 : decode code 1033 = .ok (.iload_n 3, 1) := by decide +kernel
theorem dL_law_1034 : decode code 1034 = .ok (.iconst 1, 1) := by decide +kernel
theorem dL_law_1035 : decode code 1035 = .ok (.iadd, 1) := by decide +kernel
theorem dL_law_1036 : decode code 1036 = .ok (.iaload, 1) := by decide +kernel
theorem dL_law_1037 : decode code 1037 = .ok (.invokevirtual 130, 3) := by decide +kernel
theorem dL_law_1040 : decode code 1040 = .ok (.aload_n 2, 1) := by decide +kernel
theorem dL_law_1041 : decode code 1041 = .ok (.aload_n 0, 1) := by decide +kernel
theorem dL_law_1042 : decode code 1042 = .ok (.iload_n 3, 1) := by decide +kernel
theorem dL_law_1043 : decode code 1043 = .ok (.iconst 1, 1) := by decide +kernel
theorem dL_law_1044 : decode code 1044 = .ok (.iadd, 1) := by decide +kernel
theorem dL_law_1045 : decode code 1045 = .ok (.iaload, 1) := by decide +kernel
theorem dL_law_1046 : decode code 1046 = .ok (.invokevirtual 133, 3) := by decide +kernel
theorem dL_law_1049 : decode code 1049 = .ok (.if_icmp .eq 87, 3) := by decide +kernel
theorem dL_law_1052 : decode code 1052 = .ok (.iconst 0, 1) := by decide +kernel
theorem dL_law_1053 : decode code 1053 = .ok (.ireturn, 1) := by decide +kernel
theorem dL_law_1054 : decode code 1054 = .ok (.aload_n 1, 1) := by decide +kernel
theorem dL_law_1055 : decode code 1055 = .ok (.aload_n 0, 1) := by decide +kernel
theorem dL_law_1056 : decode code 1056 = .ok (.iload_n 3, 1) := by decide +kernel
theorem dL_law_1057 : decode code 1057 = .ok (.iconst 1, 1) := by decide +kernel
theorem dL_law_1058 : decode code 1058 = .ok (.iadd, 1) := by decide +kernel
theorem dL_law_1059 : decode code 1059 = .ok (.iaload, 1) := by decide +kernel
theorem dL_law_1060 : decode code 1060 = .ok (.aload_n 0, 1) := by decide +kernel
theorem dL_law_1061 : decode code 1061 = .ok (.iload_n 3, 1) := by decide +kernel
theorem dL_law_1062 : decode code 1062 = .ok (.iconst 2, 1) := by decide +kernel
theorem dL_law_1063 : decode code 1063 = .ok (.iadd, 1) := by decide +kernel
theorem dL_law_1064 : decode code 1064 = .ok (.iaload, 1) := by decide +kernel
theorem dL_law_1065 : decode code 1065 = .ok (.invokevirtual 134, 3) := by decide +kernel
theorem dL_law_1068 : decode code 1068 = .ok (.aload_n 2, 1) := by decide +kernel
theorem dL_law_1069 : decode code 1069 = .ok (.aload_n 0, 1) := by decide +kernel
theorem dL_law_1070 : decode code 1070 = .ok (.iload_n 3, 1) := by decide +kernel
theorem dL_law_1071 : decode code 1071 = .ok (.iconst 1, 1) := by decide +kernel
theorem dL_law_1072 : decode code 1072 = .ok (.iadd, 1) := by decide +kernel
theorem dL_law_1073 : decode code 1073 = .ok (.iaload, 1) := by decide +kernel
theorem dL_law_1074 : decode code 1074 = .ok (.aload_n 0, 1) := by decide +kernel
theorem dL_law_1075 : decode code 1075 = .ok (.iload_n 3, 1) := by decide +kernel
theorem dL_law_1076 : decode code 1076 = .ok (.iconst 2, 1) := by decide +kernel
theorem dL_law_1077 : decode code 1077 = .ok (.iadd, 1) := by decide +kernel
theorem dL_law_1078 : decode code 1078 = .ok (.iaload, 1) := by decide +kernel
theorem dL_law_1079 : decode code 1079 = .ok (.invokevirtual 137, 3) := by decide +kernel
theorem dL_law_1082 : decode code 1082 = .ok (.if_icmp .eq 54, 3) := by decide +kernel
theorem dL_law_1085 : decode code 1085 = .ok (.iconst 0, 1) := by decide +kernel
theorem dL_law_1086 : decode code 1086 = .ok (.ireturn, 1) := by decide +kernel
theorem dL_law_1087 : decode code 1087 = .ok (.aload_n 1, 1) := by decide +kernel
theorem dL_law_1088 : decode code 1088 = .ok (.invokevirtual 138, 3) := by decide +kernel
theorem dL_law_1091 : decode code 1091 = .ok (.aload_n 2, 1) := by decide +kernel
theorem dL_law_1092 : decode code 1092 = .ok (.invokevirtual 141, 3) := by decide +kernel
theorem dL_law_1095 : decode code 1095 = .ok (.if_icmp .eq 41, 3) := by decide +kernel
theorem dL_law_1098 : decode code 1098 = .ok (.iconst 0, 1) := by decide +kernel
theorem dL_law_1099 : decode code 1099 = .ok (.ireturn, 1) := by decide +kernel
theorem dL_law_1100 : decode code 1100 = .ok (.aload_n 1, 1) := by decide +kernel
theorem dL_law_1101 : decode code 1101 = .ok (.invokevirtual 142, 3) := by decide +kernel
theorem dL_law_1104 : decode code 1104 = .ok (.aload_n 2, 1) := by decide +kernel
theorem dL_law_1105 : decode code 1105 = .ok (.invokevirtual 145, 3) := by decide +kernel
theorem dL_law_1108 : decode code 1108 = .ok (.if_icmp .eq 28, 3) := by decide +kernel
theorem dL_law_1111 : decode code 1111 = .ok (.iconst 0, 1) := by decide +kernel
theorem dL_law_1112 : decode code 1112 = .ok (.ireturn, 1) := by decide +kernel
theorem dL_law_1113 : decode code 1113 = .ok (.aload_n 1, 1) := by decide +kernel
theorem dL_law_1114 : decode code 1114 = .ok (.aload_n 0, 1) := by decide +kernel
theorem dL_law_1115 : decode code 1115 = .ok (.iload_n 3, 1) := by decide +kernel
theorem dL_law_1116 : decode code 1116 = .ok (.iconst 1, 1) := by decide +kernel
theorem dL_law_1117 : decode code 1117 = .ok (.iadd, 1) := by decide +kernel
theorem dL_law_1118 : decode code 1118 = .ok (.iaload, 1) := by decide +kernel
theorem dL_law_1119 : decode code 1119 = .ok (.invokevirtual 146, 3) := by decide +kernel
theorem dL_law_1122 : decode code 1122 = .ok (.aload_n 2, 1) := by decide +kernel
theorem dL_law_1123 : decode code 1123 = .ok (.aload_n 0, 1) := by decide +kernel
theorem dL_law_1124 : decode code 1124 = .ok (.iload_n 3, 1) := by decide +kernel
theorem dL_law_1125 : decode code 1125 = .ok (.iconst 1, 1) := by decide +kernel
theorem dL_law_1126 : decode code 1126 = .ok (.iadd, 1) := by decide +kernel
theorem dL_law_1127 : decode code 1127 = .ok (.iaload, 1) := by decide +kernel
theorem dL_law_1128 : decode code 1128 = .ok (.invokevirtual 149, 3) := by decide +kernel
theorem dL_law_1131 : decode code 1131 = .ok (.if_icmp .eq 5, 3) := by decide +kernel
theorem dL_law_1134 : decode code 1134 = .ok (.iconst 0, 1) := by decide +kernel
theorem dL_law_1135 : decode code 1135 = .ok (.ireturn, 1) := by decide +kernel
theorem dL_law_1136 : decode code 1136 = .ok (.iinc 3 5, 3) := by decide +kernel
theorem dL_law_1139 : decode code 1139 = .ok (.goto (-1121), 3) := by decide +kernel
theorem dL_law_1142 : decode code 1142 = .ok (.iconst 1, 1) := by decide +kernel
theorem dL_law_1143 : decode code 1143 = .ok (.ireturn, 1) := by decide +kernel
def zb_L_law_1136 (L : Nat) (xs : Nat → Int32) (r18 : zj_K) (E : zj_E) (st : List Value) (m : zj_M) : zj_R := (zi_inc 3 5 r18) E st m
set_option maxRecDepth 20000 in
theorem zs_L_law_1136 {L : Nat} {xs : Nat → Int32} {r18 : zj_K} (h18 : zj_KC code RL 4 60 (some .boolean) (L + 1, xs) 18 r18) : zj_KC code RL 4 60 (some .boolean) (L + 1, xs) 1136 (zb_L_law_1136 L xs r18) := (zr_inc dL_law_1136 rfl (zr_goto dL_law_1139 (tgt := 18) (by decide) h18))
def zb_L_law_176 (L : Nat) (xs : Nat → Int32) (r18 : zj_K) (E : zj_E) (st : List Value) (m : zj_M) : zj_R := (zi_ald 1 (zi_ald 0 (zi_ild 3 (zi_push (.int 1) (zi_b (fun x y => x + y) (zi_scld L xs (zi_vc 11 1 zf_X11_feed (zi_ald 2 (zi_ald 0 (zi_ild 3 (zi_push (.int 1) (zi_b (fun x y => x + y) (zi_scld L xs (zi_vc 12 1 zf_X12_feed (zi_ceq (zb_L_law_1136 L xs r18) (zi_push (.int 0) (zi_ret (some .boolean)))) zi_no))))))) zi_no))))))) E st m
set_option maxRecDepth 20000 in
theorem zs_L_law_176 {L : Nat} {xs : Nat → Int32} {r18 : zj_K} (h18 : zj_KC code RL 4 60 (some .boolean) (L + 1, xs) 18 r18) : zj_KC code RL 4 60 (some .boolean) (L + 1, xs) 176 (zb_L_law_176 L xs r18) := (zr_aldn dL_law_176 rfl (zr_aldn dL_law_177 rfl (zr_ildn dL_law_178 rfl (zr_iconst dL_law_179 rfl (zr_iadd dL_law_180 (zr_scld rfl dL_law_181 (zr_callV dL_law_182 zm_X11_feed ⟨⟨zq_369, zq_65⟩, by decide +kernel, by omega, by decide⟩ rfl rfl zq_366 zq_367 zq_368 (zr_aldn dL_law_185 rfl (zr_aldn dL_law_186 rfl (zr_ildn dL_law_187 rfl (zr_iconst dL_law_188 rfl (zr_iadd dL_law_189 (zr_scld rfl dL_law_190 (zr_callV dL_law_191 zm_X12_feed ⟨⟨zq_1051, zq_77⟩, by decide +kernel, by omega, by decide⟩ rfl rfl zq_1048 zq_1049 zq_1050 (zr_iceq dL_law_194 (tgt := 1136) (by decide) (zs_L_law_1136 h18) (zr_iconst dL_law_197 rfl (zr_ret dL_law_198))) zr_no))))))) zr_no)))))))
def zb_L_law_199 (L : Nat) (xs : Nat → Int32) (r18 : zj_K) (E : zj_E) (st : List Value) (m : zj_M) : zj_R := (zi_ald 1 (zi_vc 11 0 zf_X11_park (zi_ald 2 (zi_vc 12 0 zf_X12_park (zi_ceq (zb_L_law_1136 L xs r18) (zi_push (.int 0) (zi_ret (some .boolean)))) zi_no)) zi_no)) E st m
set_option maxRecDepth 20000 in
theorem zs_L_law_199 {L : Nat} {xs : Nat → Int32} {r18 : zj_K} (h18 : zj_KC code RL 4 60 (some .boolean) (L + 1, xs) 18 r18) : zj_KC code RL 4 60 (some .boolean) (L + 1, xs) 199 (zb_L_law_199 L xs r18) := (zr_aldn dL_law_199 rfl (zr_callV dL_law_200 zm_X11_park ⟨⟨zq_381, zq_65⟩, by decide +kernel, by omega, by decide⟩ rfl rfl zq_378 zq_379 zq_380 (zr_aldn dL_law_203 rfl (zr_callV dL_law_204 zm_X12_park ⟨⟨zq_1058, zq_77⟩, by decide +kernel, by omega, by decide⟩ rfl rfl zq_1055 zq_1056 zq_1057 (zr_iceq dL_law_207 (tgt := 1136) (by decide) (zs_L_law_1136 h18) (zr_iconst dL_law_210 rfl (zr_ret dL_law_211))) zr_no)) zr_no))
def zb_L_law_212 (L : Nat) (xs : Nat → Int32) (r18 : zj_K) (E : zj_E) (st : List Value) (m : zj_M) : zj_R := (zi_ald 1 (zi_ald 0 (zi_ild 3 (zi_push (.int 1) (zi_b (fun x y => x + y) (zi_scld L xs (zi_ald 0 (zi_ild 3 (zi_push (.int 2) (zi_b (fun x y => x + y) (zi_scld L xs (zi_vc 11 2 zf_X11_road (zi_ald 2 (zi_ald 0 (zi_ild 3 (zi_push (.int 1) (zi_b (fun x y => x + y) (zi_scld L xs (zi_ald 0 (zi_ild 3 (zi_push (.int 2) (zi_b (fun x y => x + y) (zi_scld L xs (zi_vc 12 2 zf_X12_road (zi_ceq (zb_L_law_1136 L xs r18) (zi_push (.int 0) (zi_ret (some .boolean)))) zi_no)))))))))))) zi_no)))))))))))) E st m
set_option maxRecDepth 20000 in
theorem zs_L_law_212 {L : Nat} {xs : Nat → Int32} {r18 : zj_K} (h18 : zj_KC code RL 4 60 (some .boolean) (L + 1, xs) 18 r18) : zj_KC code RL 4 60 (some .boolean) (L + 1, xs) 212 (zb_L_law_212 L xs r18) := (zr_aldn dL_law_212 rfl (zr_aldn dL_law_213 rfl (zr_ildn dL_law_214 rfl (zr_iconst dL_law_215 rfl (zr_iadd dL_law_216 (zr_scld rfl dL_law_217 (zr_aldn dL_law_218 rfl (zr_ildn dL_law_219 rfl (zr_iconst dL_law_220 rfl (zr_iadd dL_law_221 (zr_scld rfl dL_law_222 (zr_callV dL_law_223 zm_X11_road ⟨⟨zq_569, zq_65⟩, by decide +kernel, by omega, by decide⟩ rfl rfl zq_566 zq_567 zq_568 (zr_aldn dL_law_226 rfl (zr_aldn dL_law_227 rfl (zr_ildn dL_law_228 rfl (zr_iconst dL_law_229 rfl (zr_iadd dL_law_230 (zr_scld rfl dL_law_231 (zr_aldn dL_law_232 rfl (zr_ildn dL_law_233 rfl (zr_iconst dL_law_234 rfl (zr_iadd dL_law_235 (zr_scld rfl dL_law_236 (zr_callV dL_law_237 zm_X12_road ⟨⟨zq_1117, zq_77⟩, by decide +kernel, by omega, by decide⟩ rfl rfl zq_1114 zq_1115 zq_1116 (zr_iceq dL_law_240 (tgt := 1136) (by decide) (zs_L_law_1136 h18) (zr_iconst dL_law_243 rfl (zr_ret dL_law_244))) zr_no)))))))))))) zr_no))))))))))))
def zb_L_law_245 (L : Nat) (xs : Nat → Int32) (r18 : zj_K) (E : zj_E) (st : List Value) (m : zj_M) : zj_R := (zi_ald 1 (zi_ald 0 (zi_ild 3 (zi_push (.int 1) (zi_b (fun x y => x + y) (zi_scld L xs (zi_vc 11 1 zf_X11_keep (zi_ald 2 (zi_ald 0 (zi_ild 3 (zi_push (.int 1) (zi_b (fun x y => x + y) (zi_scld L xs (zi_vc 12 1 zf_X12_keep (zi_ceq (zb_L_law_1136 L xs r18) (zi_push (.int 0) (zi_ret (some .boolean)))) zi_no))))))) zi_no))))))) E st m
set_option maxRecDepth 20000 in
theorem zs_L_law_245 {L : Nat} {xs : Nat → Int32} {r18 : zj_K} (h18 : zj_KC code RL 4 60 (some .boolean) (L + 1, xs) 18 r18) : zj_KC code RL 4 60 (some .boolean) (L + 1, xs) 245 (zb_L_law_245 L xs r18) := (zr_aldn dL_law_245 rfl (zr_aldn dL_law_246 rfl (zr_ildn dL_law_247 rfl (zr_iconst dL_law_248 rfl (zr_iadd dL_law_249 (zr_scld rfl dL_law_250 (zr_callV dL_law_251 zm_X11_keep ⟨⟨zq_577, zq_65⟩, by decide +kernel, by omega, by decide⟩ rfl rfl zq_574 zq_575 zq_576 (zr_aldn dL_law_254 rfl (zr_aldn dL_law_255 rfl (zr_ildn dL_law_256 rfl (zr_iconst dL_law_257 rfl (zr_iadd dL_law_258 (zr_scld rfl dL_law_259 (zr_callV dL_law_260 zm_X12_keep ⟨⟨zq_1129, zq_77⟩, by decide +kernel, by omega, by decide⟩ rfl rfl zq_1126 zq_1127 zq_1128 (zr_iceq dL_law_263 (tgt := 1136) (by decide) (zs_L_law_1136 h18) (zr_iconst dL_law_266 rfl (zr_ret dL_law_267))) zr_no))))))) zr_no)))))))
def zb_L_law_268 (L : Nat) (xs : Nat → Int32) (r18 : zj_K) (E : zj_E) (st : List Value) (m : zj_M) : zj_R := (zi_ald 1 (zi_ald 0 (zi_ild 3 (zi_push (.int 1) (zi_b (fun x y => x + y) (zi_scld L xs (zi_ald 0 (zi_ild 3 (zi_push (.int 2) (zi_b (fun x y => x + y) (zi_scld L xs (zi_ald 0 (zi_ild 3 (zi_push (.int 3) (zi_b (fun x y => x + y) (zi_scld L xs (zi_ald 0 (zi_ild 3 (zi_push (.int 4) (zi_b (fun x y => x + y) (zi_scld L xs (zi_vc 11 4 zf_X11_walker (zi_ald 2 (zi_ald 0 (zi_ild 3 (zi_push (.int 1) (zi_b (fun x y => x + y) (zi_scld L xs (zi_ald 0 (zi_ild 3 (zi_push (.int 2) (zi_b (fun x y => x + y) (zi_scld L xs (zi_ald 0 (zi_ild 3 (zi_push (.int 3) (zi_b (fun x y => x + y) (zi_scld L xs (zi_ald 0 (zi_ild 3 (zi_push (.int 4) (zi_b (fun x y => x + y) (zi_scld L xs (zi_vc 12 4 zf_X12_walker (zi_ceq (zb_L_law_1136 L xs r18) (zi_push (.int 0) (zi_ret (some .boolean)))) zi_no)))))))))))))))))))))) zi_no)))))))))))))))))))))) E st m
set_option maxRecDepth 20000 in
theorem zs_L_law_268 {L : Nat} {xs : Nat → Int32} {r18 : zj_K} (h18 : zj_KC code RL 4 60 (some .boolean) (L + 1, xs) 18 r18) : zj_KC code RL 4 60 (some .boolean) (L + 1, xs) 268 (zb_L_law_268 L xs r18) := (zr_aldn dL_law_268 rfl (zr_aldn dL_law_269 rfl (zr_ildn dL_law_270 rfl (zr_iconst dL_law_271 rfl (zr_iadd dL_law_272 (zr_scld rfl dL_law_273 (zr_aldn dL_law_274 rfl (zr_ildn dL_law_275 rfl (zr_iconst dL_law_276 rfl (zr_iadd dL_law_277 (zr_scld rfl dL_law_278 (zr_aldn dL_law_279 rfl (zr_ildn dL_law_280 rfl (zr_iconst dL_law_281 rfl (zr_iadd dL_law_282 (zr_scld rfl dL_law_283 (zr_aldn dL_law_284 rfl (zr_ildn dL_law_285 rfl (zr_iconst dL_law_286 rfl (zr_iadd dL_law_287 (zr_scld rfl dL_law_288 (zr_callV dL_law_289 zm_X11_walker ⟨⟨zq_581, zq_65⟩, by decide +kernel, by omega, by decide⟩ rfl rfl zq_578 zq_579 zq_580 (zr_aldn dL_law_292 rfl (zr_aldn dL_law_293 rfl (zr_ildn dL_law_294 rfl (zr_iconst dL_law_295 rfl (zr_iadd dL_law_296 (zr_scld rfl dL_law_297 (zr_aldn dL_law_298 rfl (zr_ildn dL_law_299 rfl (zr_iconst dL_law_300 rfl (zr_iadd dL_law_301 (zr_scld rfl dL_law_302 (zr_aldn dL_law_303 rfl (zr_ildn dL_law_304 rfl (zr_iconst dL_law_305 rfl (zr_iadd dL_law_306 (zr_scld rfl dL_law_307 (zr_aldn dL_law_308 rfl (zr_ildn dL_law_309 rfl (zr_iconst dL_law_310 rfl (zr_iadd dL_law_311 (zr_scld rfl dL_law_312 (zr_callV dL_law_313 zm_X12_walker ⟨⟨zq_1133, zq_77⟩, by decide +kernel, by omega, by decide⟩ rfl rfl zq_1130 zq_1131 zq_1132 (zr_iceq dL_law_316 (tgt := 1136) (by decide) (zs_L_law_1136 h18) (zr_iconst dL_law_319 rfl (zr_ret dL_law_320))) zr_no)))))))))))))))))))))) zr_no))))))))))))))))))))))
def zb_L_law_321 (L : Nat) (xs : Nat → Int32) (r18 : zj_K) (E : zj_E) (st : List Value) (m : zj_M) : zj_R := (zi_ald 1 (zi_ald 0 (zi_ild 3 (zi_push (.int 1) (zi_b (fun x y => x + y) (zi_scld L xs (zi_ald 0 (zi_ild 3 (zi_push (.int 2) (zi_b (fun x y => x + y) (zi_scld L xs (zi_vc 11 2 zf_X11_of (zi_ald 2 (zi_ald 0 (zi_ild 3 (zi_push (.int 1) (zi_b (fun x y => x + y) (zi_scld L xs (zi_ald 0 (zi_ild 3 (zi_push (.int 2) (zi_b (fun x y => x + y) (zi_scld L xs (zi_vc 12 2 zf_X12_of (zi_ceq (zb_L_law_1136 L xs r18) (zi_push (.int 0) (zi_ret (some .boolean)))) zi_no)))))))))))) zi_no)))))))))))) E st m
set_option maxRecDepth 20000 in
theorem zs_L_law_321 {L : Nat} {xs : Nat → Int32} {r18 : zj_K} (h18 : zj_KC code RL 4 60 (some .boolean) (L + 1, xs) 18 r18) : zj_KC code RL 4 60 (some .boolean) (L + 1, xs) 321 (zb_L_law_321 L xs r18) := (zr_aldn dL_law_321 rfl (zr_aldn dL_law_322 rfl (zr_ildn dL_law_323 rfl (zr_iconst dL_law_324 rfl (zr_iadd dL_law_325 (zr_scld rfl dL_law_326 (zr_aldn dL_law_327 rfl (zr_ildn dL_law_328 rfl (zr_iconst dL_law_329 rfl (zr_iadd dL_law_330 (zr_scld rfl dL_law_331 (zr_callV dL_law_332 zm_X11_of ⟨⟨zq_593, zq_65⟩, by decide +kernel, by omega, by decide⟩ rfl rfl zq_590 zq_591 zq_592 (zr_aldn dL_law_335 rfl (zr_aldn dL_law_336 rfl (zr_ildn dL_law_337 rfl (zr_iconst dL_law_338 rfl (zr_iadd dL_law_339 (zr_scld rfl dL_law_340 (zr_aldn dL_law_341 rfl (zr_ildn dL_law_342 rfl (zr_iconst dL_law_343 rfl (zr_iadd dL_law_344 (zr_scld rfl dL_law_345 (zr_callV dL_law_346 zm_X12_of ⟨⟨zq_1140, zq_77⟩, by decide +kernel, by omega, by decide⟩ rfl rfl zq_1137 zq_1138 zq_1139 (zr_iceq dL_law_349 (tgt := 1136) (by decide) (zs_L_law_1136 h18) (zr_iconst dL_law_352 rfl (zr_ret dL_law_353))) zr_no)))))))))))) zr_no))))))))))))
def zb_L_law_354 (L : Nat) (xs : Nat → Int32) (r18 : zj_K) (E : zj_E) (st : List Value) (m : zj_M) : zj_R := (zi_ald 1 (zi_ald 0 (zi_ild 3 (zi_push (.int 1) (zi_b (fun x y => x + y) (zi_scld L xs (zi_ald 0 (zi_ild 3 (zi_push (.int 2) (zi_b (fun x y => x + y) (zi_scld L xs (zi_ald 0 (zi_ild 3 (zi_push (.int 3) (zi_b (fun x y => x + y) (zi_scld L xs (zi_vc 11 3 zf_X11_row (zi_ald 2 (zi_ald 0 (zi_ild 3 (zi_push (.int 1) (zi_b (fun x y => x + y) (zi_scld L xs (zi_ald 0 (zi_ild 3 (zi_push (.int 2) (zi_b (fun x y => x + y) (zi_scld L xs (zi_ald 0 (zi_ild 3 (zi_push (.int 3) (zi_b (fun x y => x + y) (zi_scld L xs (zi_vc 12 3 zf_X12_row (zi_ceq (zb_L_law_1136 L xs r18) (zi_push (.int 0) (zi_ret (some .boolean)))) zi_no))))))))))))))))) zi_no))))))))))))))))) E st m
set_option maxRecDepth 20000 in
theorem zs_L_law_354 {L : Nat} {xs : Nat → Int32} {r18 : zj_K} (h18 : zj_KC code RL 4 60 (some .boolean) (L + 1, xs) 18 r18) : zj_KC code RL 4 60 (some .boolean) (L + 1, xs) 354 (zb_L_law_354 L xs r18) := (zr_aldn dL_law_354 rfl (zr_aldn dL_law_355 rfl (zr_ildn dL_law_356 rfl (zr_iconst dL_law_357 rfl (zr_iadd dL_law_358 (zr_scld rfl dL_law_359 (zr_aldn dL_law_360 rfl (zr_ildn dL_law_361 rfl (zr_iconst dL_law_362 rfl (zr_iadd dL_law_363 (zr_scld rfl dL_law_364 (zr_aldn dL_law_365 rfl (zr_ildn dL_law_366 rfl (zr_iconst dL_law_367 rfl (zr_iadd dL_law_368 (zr_scld rfl dL_law_369 (zr_callV dL_law_370 zm_X11_row ⟨⟨zq_702, zq_65⟩, by decide +kernel, by omega, by decide⟩ rfl rfl zq_699 zq_700 zq_701 (zr_aldn dL_law_373 rfl (zr_aldn dL_law_374 rfl (zr_ildn dL_law_375 rfl (zr_iconst dL_law_376 rfl (zr_iadd dL_law_377 (zr_scld rfl dL_law_378 (zr_aldn dL_law_379 rfl (zr_ildn dL_law_380 rfl (zr_iconst dL_law_381 rfl (zr_iadd dL_law_382 (zr_scld rfl dL_law_383 (zr_aldn dL_law_384 rfl (zr_ildn dL_law_385 rfl (zr_iconst dL_law_386 rfl (zr_iadd dL_law_387 (zr_scld rfl dL_law_388 (zr_callV dL_law_389 zm_X12_row ⟨⟨zq_1185, zq_77⟩, by decide +kernel, by omega, by decide⟩ rfl rfl zq_1182 zq_1183 zq_1184 (zr_iceq dL_law_392 (tgt := 1136) (by decide) (zs_L_law_1136 h18) (zr_iconst dL_law_395 rfl (zr_ret dL_law_396))) zr_no))))))))))))))))) zr_no)))))))))))))))))
def zb_L_law_397 (L : Nat) (xs : Nat → Int32) (r18 : zj_K) (E : zj_E) (st : List Value) (m : zj_M) : zj_R := (zi_ald 1 (zi_ald 0 (zi_ild 3 (zi_push (.int 1) (zi_b (fun x y => x + y) (zi_scld L xs (zi_ald 0 (zi_ild 3 (zi_push (.int 2) (zi_b (fun x y => x + y) (zi_scld L xs (zi_ald 0 (zi_ild 3 (zi_push (.int 3) (zi_b (fun x y => x + y) (zi_scld L xs (zi_vc 11 3 zf_X11_set (zi_ald 2 (zi_ald 0 (zi_ild 3 (zi_push (.int 1) (zi_b (fun x y => x + y) (zi_scld L xs (zi_ald 0 (zi_ild 3 (zi_push (.int 2) (zi_b (fun x y => x + y) (zi_scld L xs (zi_ald 0 (zi_ild 3 (zi_push (.int 3) (zi_b (fun x y => x + y) (zi_scld L xs (zi_vc 12 3 zf_X12_set (zi_ceq (zb_L_law_1136 L xs r18) (zi_push (.int 0) (zi_ret (some .boolean)))) zi_no))))))))))))))))) zi_no))))))))))))))))) E st m
set_option maxRecDepth 20000 in
theorem zs_L_law_397 {L : Nat} {xs : Nat → Int32} {r18 : zj_K} (h18 : zj_KC code RL 4 60 (some .boolean) (L + 1, xs) 18 r18) : zj_KC code RL 4 60 (some .boolean) (L + 1, xs) 397 (zb_L_law_397 L xs r18) := (zr_aldn dL_law_397 rfl (zr_aldn dL_law_398 rfl (zr_ildn dL_law_399 rfl (zr_iconst dL_law_400 rfl (zr_iadd dL_law_401 (zr_scld rfl dL_law_402 (zr_aldn dL_law_403 rfl (zr_ildn dL_law_404 rfl (zr_iconst dL_law_405 rfl (zr_iadd dL_law_406 (zr_scld rfl dL_law_407 (zr_aldn dL_law_408 rfl (zr_ildn dL_law_409 rfl (zr_iconst dL_law_410 rfl (zr_iadd dL_law_411 (zr_scld rfl dL_law_412 (zr_callV dL_law_413 zm_X11_set ⟨⟨zq_710, zq_65⟩, by decide +kernel, by omega, by decide⟩ rfl rfl zq_707 zq_708 zq_709 (zr_aldn dL_law_416 rfl (zr_aldn dL_law_417 rfl (zr_ildn dL_law_418 rfl (zr_iconst dL_law_419 rfl (zr_iadd dL_law_420 (zr_scld rfl dL_law_421 (zr_aldn dL_law_422 rfl (zr_ildn dL_law_423 rfl (zr_iconst dL_law_424 rfl (zr_iadd dL_law_425 (zr_scld rfl dL_law_426 (zr_aldn dL_law_427 rfl (zr_ildn dL_law_428 rfl (zr_iconst dL_law_429 rfl (zr_iadd dL_law_430 (zr_scld rfl dL_law_431 (zr_callV dL_law_432 zm_X12_set ⟨⟨zq_1189, zq_77⟩, by decide +kernel, by omega, by decide⟩ rfl rfl zq_1186 zq_1187 zq_1188 (zr_iceq dL_law_435 (tgt := 1136) (by decide) (zs_L_law_1136 h18) (zr_iconst dL_law_438 rfl (zr_ret dL_law_439))) zr_no))))))))))))))))) zr_no)))))))))))))))))
def zb_L_law_481 (L : Nat) (xs : Nat → Int32) (r18 : zj_K) (E : zj_E) (st : List Value) (m : zj_M) : zj_R := (zi_vc 12 2 zf_X12_away (zi_ceq (zb_L_law_1136 L xs r18) (zi_push (.int 0) (zi_ret (some .boolean)))) zi_no) E st m
set_option maxRecDepth 20000 in
theorem zs_L_law_481 {L : Nat} {xs : Nat → Int32} {r18 : zj_K} (h18 : zj_KC code RL 4 60 (some .boolean) (L + 1, xs) 18 r18) : zj_KC code RL 4 60 (some .boolean) (L + 1, xs) 481 (zb_L_law_481 L xs r18) := (zr_callV dL_law_481 zm_X12_away ⟨⟨zq_1193, zq_77⟩, by decide +kernel, by omega, by decide⟩ rfl rfl zq_1190 zq_1191 zq_1192 (zr_iceq dL_law_484 (tgt := 1136) (by decide) (zs_L_law_1136 h18) (zr_iconst dL_law_487 rfl (zr_ret dL_law_488))) zr_no)
def zb_L_law_459 (L : Nat) (xs : Nat → Int32) (r18 : zj_K) (E : zj_E) (st : List Value) (m : zj_M) : zj_R := (zi_vc 11 2 zf_X11_away (zi_ald 2 (zi_ald 0 (zi_ild 3 (zi_push (.int 1) (zi_b (fun x y => x + y) (zi_scld L xs (zi_ald 0 (zi_ild 3 (zi_push (.int 2) (zi_b (fun x y => x + y) (zi_scld L xs (zi_eq (zi_push (.int 0) (zb_L_law_481 L xs r18)) (zi_push (.int 1) (zb_L_law_481 L xs r18)))))))))))))) zi_no) E st m
set_option maxRecDepth 20000 in
theorem zs_L_law_459 {L : Nat} {xs : Nat → Int32} {r18 : zj_K} (h18 : zj_KC code RL 4 60 (some .boolean) (L + 1, xs) 18 r18) : zj_KC code RL 4 60 (some .boolean) (L + 1, xs) 459 (zb_L_law_459 L xs r18) := (zr_callV dL_law_459 zm_X11_away ⟨⟨zq_714, zq_65⟩, by decide +kernel, by omega, by decide⟩ rfl rfl zq_711 zq_712 zq_713 (zr_aldn dL_law_462 rfl (zr_aldn dL_law_463 rfl (zr_ildn dL_law_464 rfl (zr_iconst dL_law_465 rfl (zr_iadd dL_law_466 (zr_scld rfl dL_law_467 (zr_aldn dL_law_468 rfl (zr_ildn dL_law_469 rfl (zr_iconst dL_law_470 rfl (zr_iadd dL_law_471 (zr_scld rfl dL_law_472 (zr_ifeq dL_law_473 (tgt := 480) (by decide) (zr_iconst dL_law_480 rfl (zs_L_law_481 h18)) (zr_iconst dL_law_476 rfl (zr_goto dL_law_477 (tgt := 481) (by decide) (zs_L_law_481 h18))))))))))))))) zr_no)
def zb_L_law_440 (L : Nat) (xs : Nat → Int32) (r18 : zj_K) (E : zj_E) (st : List Value) (m : zj_M) : zj_R := (zi_ald 1 (zi_ald 0 (zi_ild 3 (zi_push (.int 1) (zi_b (fun x y => x + y) (zi_scld L xs (zi_ald 0 (zi_ild 3 (zi_push (.int 2) (zi_b (fun x y => x + y) (zi_scld L xs (zi_eq (zi_push (.int 0) (zb_L_law_459 L xs r18)) (zi_push (.int 1) (zb_L_law_459 L xs r18)))))))))))))) E st m
set_option maxRecDepth 20000 in
theorem zs_L_law_440 {L : Nat} {xs : Nat → Int32} {r18 : zj_K} (h18 : zj_KC code RL 4 60 (some .boolean) (L + 1, xs) 18 r18) : zj_KC code RL 4 60 (some .boolean) (L + 1, xs) 440 (zb_L_law_440 L xs r18) := (zr_aldn dL_law_440 rfl (zr_aldn dL_law_441 rfl (zr_ildn dL_law_442 rfl (zr_iconst dL_law_443 rfl (zr_iadd dL_law_444 (zr_scld rfl dL_law_445 (zr_aldn dL_law_446 rfl (zr_ildn dL_law_447 rfl (zr_iconst dL_law_448 rfl (zr_iadd dL_law_449 (zr_scld rfl dL_law_450 (zr_ifeq dL_law_451 (tgt := 458) (by decide) (zr_iconst dL_law_458 rfl (zs_L_law_459 h18)) (zr_iconst dL_law_454 rfl (zr_goto dL_law_455 (tgt := 459) (by decide) (zs_L_law_459 h18)))))))))))))))
def zb_L_law_489 (L : Nat) (xs : Nat → Int32) (r18 : zj_K) (E : zj_E) (st : List Value) (m : zj_M) : zj_R := (zi_ald 1 (zi_ald 0 (zi_ild 3 (zi_push (.int 1) (zi_b (fun x y => x + y) (zi_scld L xs (zi_vc 11 1 zf_X11_told (zi_ald 2 (zi_ald 0 (zi_ild 3 (zi_push (.int 1) (zi_b (fun x y => x + y) (zi_scld L xs (zi_vc 12 1 zf_X12_told (zi_ceq (zb_L_law_1136 L xs r18) (zi_push (.int 0) (zi_ret (some .boolean)))) zi_no))))))) zi_no))))))) E st m
set_option maxRecDepth 20000 in
theorem zs_L_law_489 {L : Nat} {xs : Nat → Int32} {r18 : zj_K} (h18 : zj_KC code RL 4 60 (some .boolean) (L + 1, xs) 18 r18) : zj_KC code RL 4 60 (some .boolean) (L + 1, xs) 489 (zb_L_law_489 L xs r18) := (zr_aldn dL_law_489 rfl (zr_aldn dL_law_490 rfl (zr_ildn dL_law_491 rfl (zr_iconst dL_law_492 rfl (zr_iadd dL_law_493 (zr_scld rfl dL_law_494 (zr_callV dL_law_495 zm_X11_told ⟨⟨zq_719, zq_65⟩, by decide +kernel, by omega, by decide⟩ rfl rfl zq_716 zq_717 zq_718 (zr_aldn dL_law_498 rfl (zr_aldn dL_law_499 rfl (zr_ildn dL_law_500 rfl (zr_iconst dL_law_501 rfl (zr_iadd dL_law_502 (zr_scld rfl dL_law_503 (zr_callV dL_law_504 zm_X12_told ⟨⟨zq_1197, zq_77⟩, by decide +kernel, by omega, by decide⟩ rfl rfl zq_1194 zq_1195 zq_1196 (zr_iceq dL_law_507 (tgt := 1136) (by decide) (zs_L_law_1136 h18) (zr_iconst dL_law_510 rfl (zr_ret dL_law_511))) zr_no))))))) zr_no)))))))
def zb_L_law_512 (L : Nat) (xs : Nat → Int32) (r18 : zj_K) (E : zj_E) (st : List Value) (m : zj_M) : zj_R := (zi_ald 1 (zi_ald 0 (zi_ild 3 (zi_push (.int 1) (zi_b (fun x y => x + y) (zi_scld L xs (zi_vc 11 1 zf_X11_pass (zi_ald 2 (zi_ald 0 (zi_ild 3 (zi_push (.int 1) (zi_b (fun x y => x + y) (zi_scld L xs (zi_vc 12 1 zf_X12_pass (zi_ceq (zb_L_law_1136 L xs r18) (zi_push (.int 0) (zi_ret (some .boolean)))) zi_no))))))) zi_no))))))) E st m
set_option maxRecDepth 20000 in
theorem zs_L_law_512 {L : Nat} {xs : Nat → Int32} {r18 : zj_K} (h18 : zj_KC code RL 4 60 (some .boolean) (L + 1, xs) 18 r18) : zj_KC code RL 4 60 (some .boolean) (L + 1, xs) 512 (zb_L_law_512 L xs r18) := (zr_aldn dL_law_512 rfl (zr_aldn dL_law_513 rfl (zr_ildn dL_law_514 rfl (zr_iconst dL_law_515 rfl (zr_iadd dL_law_516 (zr_scld rfl dL_law_517 (zr_callV dL_law_518 zm_X11_pass ⟨⟨zq_767, zq_65⟩, by decide +kernel, by omega, by decide⟩ rfl rfl zq_764 zq_765 zq_766 (zr_aldn dL_law_521 rfl (zr_aldn dL_law_522 rfl (zr_ildn dL_law_523 rfl (zr_iconst dL_law_524 rfl (zr_iadd dL_law_525 (zr_scld rfl dL_law_526 (zr_callV dL_law_527 zm_X12_pass ⟨⟨zq_1237, zq_77⟩, by decide +kernel, by omega, by decide⟩ rfl rfl zq_1234 zq_1235 zq_1236 (zr_iceq dL_law_530 (tgt := 1136) (by decide) (zs_L_law_1136 h18) (zr_iconst dL_law_533 rfl (zr_ret dL_law_534))) zr_no))))))) zr_no)))))))
def zb_L_law_535 (L : Nat) (xs : Nat → Int32) (r18 : zj_K) (E : zj_E) (st : List Value) (m : zj_M) : zj_R := (zi_ald 1 (zi_ald 0 (zi_ild 3 (zi_push (.int 1) (zi_b (fun x y => x + y) (zi_scld L xs (zi_ald 0 (zi_ild 3 (zi_push (.int 2) (zi_b (fun x y => x + y) (zi_scld L xs (zi_vc 11 2 zf_X11_on (zi_ald 2 (zi_ald 0 (zi_ild 3 (zi_push (.int 1) (zi_b (fun x y => x + y) (zi_scld L xs (zi_ald 0 (zi_ild 3 (zi_push (.int 2) (zi_b (fun x y => x + y) (zi_scld L xs (zi_vc 12 2 zf_X12_on (zi_ceq (zb_L_law_1136 L xs r18) (zi_push (.int 0) (zi_ret (some .boolean)))) zi_no)))))))))))) zi_no)))))))))))) E st m
set_option maxRecDepth 20000 in
theorem zs_L_law_535 {L : Nat} {xs : Nat → Int32} {r18 : zj_K} (h18 : zj_KC code RL 4 60 (some .boolean) (L + 1, xs) 18 r18) : zj_KC code RL 4 60 (some .boolean) (L + 1, xs) 535 (zb_L_law_535 L xs r18) := (zr_aldn dL_law_535 rfl (zr_aldn dL_law_536 rfl (zr_ildn dL_law_537 rfl (zr_iconst dL_law_538 rfl (zr_iadd dL_law_539 (zr_scld rfl dL_law_540 (zr_aldn dL_law_541 rfl (zr_ildn dL_law_542 rfl (zr_iconst dL_law_543 rfl (zr_iadd dL_law_544 (zr_scld rfl dL_law_545 (zr_callV dL_law_546 zm_X11_on ⟨⟨zq_775, zq_65⟩, by decide +kernel, by omega, by decide⟩ rfl rfl zq_772 zq_773 zq_774 (zr_aldn dL_law_549 rfl (zr_aldn dL_law_550 rfl (zr_ildn dL_law_551 rfl (zr_iconst dL_law_552 rfl (zr_iadd dL_law_553 (zr_scld rfl dL_law_554 (zr_aldn dL_law_555 rfl (zr_ildn dL_law_556 rfl (zr_iconst dL_law_557 rfl (zr_iadd dL_law_558 (zr_scld rfl dL_law_559 (zr_callV dL_law_560 zm_X12_on ⟨⟨zq_1245, zq_77⟩, by decide +kernel, by omega, by decide⟩ rfl rfl zq_1242 zq_1243 zq_1244 (zr_iceq dL_law_563 (tgt := 1136) (by decide) (zs_L_law_1136 h18) (zr_iconst dL_law_566 rfl (zr_ret dL_law_567))) zr_no)))))))))))) zr_no))))))))))))
def zb_L_law_568 (L : Nat) (xs : Nat → Int32) (r18 : zj_K) (E : zj_E) (st : List Value) (m : zj_M) : zj_R := (zi_ald 1 (zi_ald 0 (zi_ild 3 (zi_push (.int 1) (zi_b (fun x y => x + y) (zi_scld L xs (zi_vc 11 1 zf_X11_strays (zi_ald 2 (zi_ald 0 (zi_ild 3 (zi_push (.int 1) (zi_b (fun x y => x + y) (zi_scld L xs (zi_vc 12 1 zf_X12_strays (zi_ceq (zb_L_law_1136 L xs r18) (zi_push (.int 0) (zi_ret (some .boolean)))) zi_no))))))) zi_no))))))) E st m
set_option maxRecDepth 20000 in
theorem zs_L_law_568 {L : Nat} {xs : Nat → Int32} {r18 : zj_K} (h18 : zj_KC code RL 4 60 (some .boolean) (L + 1, xs) 18 r18) : zj_KC code RL 4 60 (some .boolean) (L + 1, xs) 568 (zb_L_law_568 L xs r18) := (zr_aldn dL_law_568 rfl (zr_aldn dL_law_569 rfl (zr_ildn dL_law_570 rfl (zr_iconst dL_law_571 rfl (zr_iadd dL_law_572 (zr_scld rfl dL_law_573 (zr_callV dL_law_574 zm_X11_strays ⟨⟨zq_779, zq_65⟩, by decide +kernel, by omega, by decide⟩ rfl rfl zq_776 zq_777 zq_778 (zr_aldn dL_law_577 rfl (zr_aldn dL_law_578 rfl (zr_ildn dL_law_579 rfl (zr_iconst dL_law_580 rfl (zr_iadd dL_law_581 (zr_scld rfl dL_law_582 (zr_callV dL_law_583 zm_X12_strays ⟨⟨zq_1249, zq_77⟩, by decide +kernel, by omega, by decide⟩ rfl rfl zq_1246 zq_1247 zq_1248 (zr_iceq dL_law_586 (tgt := 1136) (by decide) (zs_L_law_1136 h18) (zr_iconst dL_law_589 rfl (zr_ret dL_law_590))) zr_no))))))) zr_no)))))))
def zb_L_law_591 (L : Nat) (xs : Nat → Int32) (r18 : zj_K) (E : zj_E) (st : List Value) (m : zj_M) : zj_R := (zi_ald 1 (zi_ald 0 (zi_ild 3 (zi_push (.int 1) (zi_b (fun x y => x + y) (zi_scld L xs (zi_ald 0 (zi_ild 3 (zi_push (.int 2) (zi_b (fun x y => x + y) (zi_scld L xs (zi_vc 11 2 zf_X11_meet (zi_ald 2 (zi_ald 0 (zi_ild 3 (zi_push (.int 1) (zi_b (fun x y => x + y) (zi_scld L xs (zi_ald 0 (zi_ild 3 (zi_push (.int 2) (zi_b (fun x y => x + y) (zi_scld L xs (zi_vc 12 2 zf_X12_meet (zi_ceq (zb_L_law_1136 L xs r18) (zi_push (.int 0) (zi_ret (some .boolean)))) zi_no)))))))))))) zi_no)))))))))))) E st m
set_option maxRecDepth 20000 in
theorem zs_L_law_591 {L : Nat} {xs : Nat → Int32} {r18 : zj_K} (h18 : zj_KC code RL 4 60 (some .boolean) (L + 1, xs) 18 r18) : zj_KC code RL 4 60 (some .boolean) (L + 1, xs) 591 (zb_L_law_591 L xs r18) := (zr_aldn dL_law_591 rfl (zr_aldn dL_law_592 rfl (zr_ildn dL_law_593 rfl (zr_iconst dL_law_594 rfl (zr_iadd dL_law_595 (zr_scld rfl dL_law_596 (zr_aldn dL_law_597 rfl (zr_ildn dL_law_598 rfl (zr_iconst dL_law_599 rfl (zr_iadd dL_law_600 (zr_scld rfl dL_law_601 (zr_callV dL_law_602 zm_X11_meet ⟨⟨zq_783, zq_65⟩, by decide +kernel, by omega, by decide⟩ rfl rfl zq_780 zq_781 zq_782 (zr_aldn dL_law_605 rfl (zr_aldn dL_law_606 rfl (zr_ildn dL_law_607 rfl (zr_iconst dL_law_608 rfl (zr_iadd dL_law_609 (zr_scld rfl dL_law_610 (zr_aldn dL_law_611 rfl (zr_ildn dL_law_612 rfl (zr_iconst dL_law_613 rfl (zr_iadd dL_law_614 (zr_scld rfl dL_law_615 (zr_callV dL_law_616 zm_X12_meet ⟨⟨zq_1253, zq_77⟩, by decide +kernel, by omega, by decide⟩ rfl rfl zq_1250 zq_1251 zq_1252 (zr_iceq dL_law_619 (tgt := 1136) (by decide) (zs_L_law_1136 h18) (zr_iconst dL_law_622 rfl (zr_ret dL_law_623))) zr_no)))))))))))) zr_no))))))))))))
def zb_L_law_624 (L : Nat) (xs : Nat → Int32) (r18 : zj_K) (E : zj_E) (st : List Value) (m : zj_M) : zj_R := (zi_ald 1 (zi_ald 0 (zi_ild 3 (zi_push (.int 1) (zi_b (fun x y => x + y) (zi_scld L xs (zi_ald 0 (zi_ild 3 (zi_push (.int 2) (zi_b (fun x y => x + y) (zi_scld L xs (zi_vc 11 2 zf_X11_posts (zi_ald 2 (zi_ald 0 (zi_ild 3 (zi_push (.int 1) (zi_b (fun x y => x + y) (zi_scld L xs (zi_ald 0 (zi_ild 3 (zi_push (.int 2) (zi_b (fun x y => x + y) (zi_scld L xs (zi_vc 12 2 zf_X12_posts (zi_ceq (zb_L_law_1136 L xs r18) (zi_push (.int 0) (zi_ret (some .boolean)))) zi_no)))))))))))) zi_no)))))))))))) E st m
set_option maxRecDepth 20000 in
theorem zs_L_law_624 {L : Nat} {xs : Nat → Int32} {r18 : zj_K} (h18 : zj_KC code RL 4 60 (some .boolean) (L + 1, xs) 18 r18) : zj_KC code RL 4 60 (some .boolean) (L + 1, xs) 624 (zb_L_law_624 L xs r18) := (zr_aldn dL_law_624 rfl (zr_aldn dL_law_625 rfl (zr_ildn dL_law_626 rfl (zr_iconst dL_law_627 rfl (zr_iadd dL_law_628 (zr_scld rfl dL_law_629 (zr_aldn dL_law_630 rfl (zr_ildn dL_law_631 rfl (zr_iconst dL_law_632 rfl (zr_iadd dL_law_633 (zr_scld rfl dL_law_634 (zr_callV dL_law_635 zm_X11_posts ⟨⟨zq_787, zq_65⟩, by decide +kernel, by omega, by decide⟩ rfl rfl zq_784 zq_785 zq_786 (zr_aldn dL_law_638 rfl (zr_aldn dL_law_639 rfl (zr_ildn dL_law_640 rfl (zr_iconst dL_law_641 rfl (zr_iadd dL_law_642 (zr_scld rfl dL_law_643 (zr_aldn dL_law_644 rfl (zr_ildn dL_law_645 rfl (zr_iconst dL_law_646 rfl (zr_iadd dL_law_647 (zr_scld rfl dL_law_648 (zr_callV dL_law_649 zm_X12_posts ⟨⟨zq_1257, zq_77⟩, by decide +kernel, by omega, by decide⟩ rfl rfl zq_1254 zq_1255 zq_1256 (zr_iceq dL_law_652 (tgt := 1136) (by decide) (zs_L_law_1136 h18) (zr_iconst dL_law_655 rfl (zr_ret dL_law_656))) zr_no)))))))))))) zr_no))))))))))))
def zb_L_law_657 (L : Nat) (xs : Nat → Int32) (r18 : zj_K) (E : zj_E) (st : List Value) (m : zj_M) : zj_R := (zi_ald 1 (zi_vc 11 0 zf_X11_gravel (zi_ald 2 (zi_vc 12 0 zf_X12_gravel (zi_ceq (zb_L_law_1136 L xs r18) (zi_push (.int 0) (zi_ret (some .boolean)))) zi_no)) zi_no)) E st m
set_option maxRecDepth 20000 in
theorem zs_L_law_657 {L : Nat} {xs : Nat → Int32} {r18 : zj_K} (h18 : zj_KC code RL 4 60 (some .boolean) (L + 1, xs) 18 r18) : zj_KC code RL 4 60 (some .boolean) (L + 1, xs) 657 (zb_L_law_657 L xs r18) := (zr_aldn dL_law_657 rfl (zr_callV dL_law_658 zm_X11_gravel ⟨⟨zq_801, zq_65⟩, by decide +kernel, by omega, by decide⟩ rfl rfl zq_798 zq_799 zq_800 (zr_aldn dL_law_661 rfl (zr_callV dL_law_662 zm_X12_gravel ⟨⟨zq_1261, zq_77⟩, by decide +kernel, by omega, by decide⟩ rfl rfl zq_1258 zq_1259 zq_1260 (zr_iceq dL_law_665 (tgt := 1136) (by decide) (zs_L_law_1136 h18) (zr_iconst dL_law_668 rfl (zr_ret dL_law_669))) zr_no)) zr_no))
def zb_L_law_721 (L : Nat) (xs : Nat → Int32) (r18 : zj_K) (E : zj_E) (st : List Value) (m : zj_M) : zj_R := (zi_vc 12 3 zf_X12_see (zi_ceq (zb_L_law_1136 L xs r18) (zi_push (.int 0) (zi_ret (some .boolean)))) zi_no) E st m
set_option maxRecDepth 20000 in
theorem zs_L_law_721 {L : Nat} {xs : Nat → Int32} {r18 : zj_K} (h18 : zj_KC code RL 4 60 (some .boolean) (L + 1, xs) 18 r18) : zj_KC code RL 4 60 (some .boolean) (L + 1, xs) 721 (zb_L_law_721 L xs r18) := (zr_callV dL_law_721 zm_X12_see ⟨⟨zq_1265, zq_77⟩, by decide +kernel, by omega, by decide⟩ rfl rfl zq_1262 zq_1263 zq_1264 (zr_iceq dL_law_724 (tgt := 1136) (by decide) (zs_L_law_1136 h18) (zr_iconst dL_law_727 rfl (zr_ret dL_law_728))) zr_no)
def zb_L_law_694 (L : Nat) (xs : Nat → Int32) (r18 : zj_K) (E : zj_E) (st : List Value) (m : zj_M) : zj_R := (zi_vc 11 3 zf_X11_see (zi_ald 2 (zi_ald 0 (zi_ild 3 (zi_push (.int 1) (zi_b (fun x y => x + y) (zi_scld L xs (zi_ald 0 (zi_ild 3 (zi_push (.int 2) (zi_b (fun x y => x + y) (zi_scld L xs (zi_ald 0 (zi_ild 3 (zi_push (.int 3) (zi_b (fun x y => x + y) (zi_scld L xs (zi_eq (zi_push (.int 0) (zb_L_law_721 L xs r18)) (zi_push (.int 1) (zb_L_law_721 L xs r18))))))))))))))))))) zi_no) E st m
set_option maxRecDepth 20000 in
theorem zs_L_law_694 {L : Nat} {xs : Nat → Int32} {r18 : zj_K} (h18 : zj_KC code RL 4 60 (some .boolean) (L + 1, xs) 18 r18) : zj_KC code RL 4 60 (some .boolean) (L + 1, xs) 694 (zb_L_law_694 L xs r18) := (zr_callV dL_law_694 zm_X11_see ⟨⟨zq_805, zq_65⟩, by decide +kernel, by omega, by decide⟩ rfl rfl zq_802 zq_803 zq_804 (zr_aldn dL_law_697 rfl (zr_aldn dL_law_698 rfl (zr_ildn dL_law_699 rfl (zr_iconst dL_law_700 rfl (zr_iadd dL_law_701 (zr_scld rfl dL_law_702 (zr_aldn dL_law_703 rfl (zr_ildn dL_law_704 rfl (zr_iconst dL_law_705 rfl (zr_iadd dL_law_706 (zr_scld rfl dL_law_707 (zr_aldn dL_law_708 rfl (zr_ildn dL_law_709 rfl (zr_iconst dL_law_710 rfl (zr_iadd dL_law_711 (zr_scld rfl dL_law_712 (zr_ifeq dL_law_713 (tgt := 720) (by decide) (zr_iconst dL_law_720 rfl (zs_L_law_721 h18)) (zr_iconst dL_law_716 rfl (zr_goto dL_law_717 (tgt := 721) (by decide) (zs_L_law_721 h18)))))))))))))))))))) zr_no)
def zb_L_law_670 (L : Nat) (xs : Nat → Int32) (r18 : zj_K) (E : zj_E) (st : List Value) (m : zj_M) : zj_R := (zi_ald 1 (zi_ald 0 (zi_ild 3 (zi_push (.int 1) (zi_b (fun x y => x + y) (zi_scld L xs (zi_ald 0 (zi_ild 3 (zi_push (.int 2) (zi_b (fun x y => x + y) (zi_scld L xs (zi_ald 0 (zi_ild 3 (zi_push (.int 3) (zi_b (fun x y => x + y) (zi_scld L xs (zi_eq (zi_push (.int 0) (zb_L_law_694 L xs r18)) (zi_push (.int 1) (zb_L_law_694 L xs r18))))))))))))))))))) E st m
set_option maxRecDepth 20000 in
theorem zs_L_law_670 {L : Nat} {xs : Nat → Int32} {r18 : zj_K} (h18 : zj_KC code RL 4 60 (some .boolean) (L + 1, xs) 18 r18) : zj_KC code RL 4 60 (some .boolean) (L + 1, xs) 670 (zb_L_law_670 L xs r18) := (zr_aldn dL_law_670 rfl (zr_aldn dL_law_671 rfl (zr_ildn dL_law_672 rfl (zr_iconst dL_law_673 rfl (zr_iadd dL_law_674 (zr_scld rfl dL_law_675 (zr_aldn dL_law_676 rfl (zr_ildn dL_law_677 rfl (zr_iconst dL_law_678 rfl (zr_iadd dL_law_679 (zr_scld rfl dL_law_680 (zr_aldn dL_law_681 rfl (zr_ildn dL_law_682 rfl (zr_iconst dL_law_683 rfl (zr_iadd dL_law_684 (zr_scld rfl dL_law_685 (zr_ifeq dL_law_686 (tgt := 693) (by decide) (zr_iconst dL_law_693 rfl (zs_L_law_694 h18)) (zr_iconst dL_law_689 rfl (zr_goto dL_law_690 (tgt := 694) (by decide) (zs_L_law_694 h18))))))))))))))))))))
def zb_L_law_729 (L : Nat) (xs : Nat → Int32) (r18 : zj_K) (E : zj_E) (st : List Value) (m : zj_M) : zj_R := (zi_ald 1 (zi_ald 0 (zi_ild 3 (zi_push (.int 1) (zi_b (fun x y => x + y) (zi_scld L xs (zi_vc 11 1 zf_X11_felt (zi_ald 2 (zi_ald 0 (zi_ild 3 (zi_push (.int 1) (zi_b (fun x y => x + y) (zi_scld L xs (zi_vc 12 1 zf_X12_felt (zi_ceq (zb_L_law_1136 L xs r18) (zi_push (.int 0) (zi_ret (some .boolean)))) zi_no))))))) zi_no))))))) E st m
set_option maxRecDepth 20000 in
theorem zs_L_law_729 {L : Nat} {xs : Nat → Int32} {r18 : zj_K} (h18 : zj_KC code RL 4 60 (some .boolean) (L + 1, xs) 18 r18) : zj_KC code RL 4 60 (some .boolean) (L + 1, xs) 729 (zb_L_law_729 L xs r18) := (zr_aldn dL_law_729 rfl (zr_aldn dL_law_730 rfl (zr_ildn dL_law_731 rfl (zr_iconst dL_law_732 rfl (zr_iadd dL_law_733 (zr_scld rfl dL_law_734 (zr_callV dL_law_735 zm_X11_felt ⟨⟨zq_809, zq_65⟩, by decide +kernel, by omega, by decide⟩ rfl rfl zq_806 zq_807 zq_808 (zr_aldn dL_law_738 rfl (zr_aldn dL_law_739 rfl (zr_ildn dL_law_740 rfl (zr_iconst dL_law_741 rfl (zr_iadd dL_law_742 (zr_scld rfl dL_law_743 (zr_callV dL_law_744 zm_X12_felt ⟨⟨zq_1269, zq_77⟩, by decide +kernel, by omega, by decide⟩ rfl rfl zq_1266 zq_1267 zq_1268 (zr_iceq dL_law_747 (tgt := 1136) (by decide) (zs_L_law_1136 h18) (zr_iconst dL_law_750 rfl (zr_ret dL_law_751))) zr_no))))))) zr_no)))))))
def zb_L_law_752 (L : Nat) (xs : Nat → Int32) (r18 : zj_K) (E : zj_E) (st : List Value) (m : zj_M) : zj_R := (zi_ald 1 (zi_ald 0 (zi_ild 3 (zi_push (.int 1) (zi_b (fun x y => x + y) (zi_scld L xs (zi_vc 11 1 zf_X11_where (zi_ald 2 (zi_ald 0 (zi_ild 3 (zi_push (.int 1) (zi_b (fun x y => x + y) (zi_scld L xs (zi_vc 12 1 zf_X12_where (zi_ceq (zb_L_law_1136 L xs r18) (zi_push (.int 0) (zi_ret (some .boolean)))) zi_no))))))) zi_no))))))) E st m
set_option maxRecDepth 20000 in
theorem zs_L_law_752 {L : Nat} {xs : Nat → Int32} {r18 : zj_K} (h18 : zj_KC code RL 4 60 (some .boolean) (L + 1, xs) 18 r18) : zj_KC code RL 4 60 (some .boolean) (L + 1, xs) 752 (zb_L_law_752 L xs r18) := (zr_aldn dL_law_752 rfl (zr_aldn dL_law_753 rfl (zr_ildn dL_law_754 rfl (zr_iconst dL_law_755 rfl (zr_iadd dL_law_756 (zr_scld rfl dL_law_757 (zr_callV dL_law_758 zm_X11_where ⟨⟨zq_818, zq_65⟩, by decide +kernel, by omega, by decide⟩ rfl rfl zq_815 zq_816 zq_817 (zr_aldn dL_law_761 rfl (zr_aldn dL_law_762 rfl (zr_ildn dL_law_763 rfl (zr_iconst dL_law_764 rfl (zr_iadd dL_law_765 (zr_scld rfl dL_law_766 (zr_callV dL_law_767 zm_X12_where ⟨⟨zq_1285, zq_77⟩, by decide +kernel, by omega, by decide⟩ rfl rfl zq_1282 zq_1283 zq_1284 (zr_iceq dL_law_770 (tgt := 1136) (by decide) (zs_L_law_1136 h18) (zr_iconst dL_law_773 rfl (zr_ret dL_law_774))) zr_no))))))) zr_no)))))))
def zb_L_law_775 (L : Nat) (xs : Nat → Int32) (r18 : zj_K) (E : zj_E) (st : List Value) (m : zj_M) : zj_R := (zi_ald 1 (zi_ald 0 (zi_ild 3 (zi_push (.int 1) (zi_b (fun x y => x + y) (zi_scld L xs (zi_ald 0 (zi_ild 3 (zi_push (.int 2) (zi_b (fun x y => x + y) (zi_scld L xs (zi_vc 11 2 zf_X11_firm (zi_ald 2 (zi_ald 0 (zi_ild 3 (zi_push (.int 1) (zi_b (fun x y => x + y) (zi_scld L xs (zi_ald 0 (zi_ild 3 (zi_push (.int 2) (zi_b (fun x y => x + y) (zi_scld L xs (zi_vc 12 2 zf_X12_firm (zi_ceq (zb_L_law_1136 L xs r18) (zi_push (.int 0) (zi_ret (some .boolean)))) zi_no)))))))))))) zi_no)))))))))))) E st m
set_option maxRecDepth 20000 in
theorem zs_L_law_775 {L : Nat} {xs : Nat → Int32} {r18 : zj_K} (h18 : zj_KC code RL 4 60 (some .boolean) (L + 1, xs) 18 r18) : zj_KC code RL 4 60 (some .boolean) (L + 1, xs) 775 (zb_L_law_775 L xs r18) := (zr_aldn dL_law_775 rfl (zr_aldn dL_law_776 rfl (zr_ildn dL_law_777 rfl (zr_iconst dL_law_778 rfl (zr_iadd dL_law_779 (zr_scld rfl dL_law_780 (zr_aldn dL_law_781 rfl (zr_ildn dL_law_782 rfl (zr_iconst dL_law_783 rfl (zr_iadd dL_law_784 (zr_scld rfl dL_law_785 (zr_callV dL_law_786 zm_X11_firm ⟨⟨zq_822, zq_65⟩, by decide +kernel, by omega, by decide⟩ rfl rfl zq_819 zq_820 zq_821 (zr_aldn dL_law_789 rfl (zr_aldn dL_law_790 rfl (zr_ildn dL_law_791 rfl (zr_iconst dL_law_792 rfl (zr_iadd dL_law_793 (zr_scld rfl dL_law_794 (zr_aldn dL_law_795 rfl (zr_ildn dL_law_796 rfl (zr_iconst dL_law_797 rfl (zr_iadd dL_law_798 (zr_scld rfl dL_law_799 (zr_callV dL_law_800 zm_X12_firm ⟨⟨zq_1289, zq_77⟩, by decide +kernel, by omega, by decide⟩ rfl rfl zq_1286 zq_1287 zq_1288 (zr_iceq dL_law_803 (tgt := 1136) (by decide) (zs_L_law_1136 h18) (zr_iconst dL_law_806 rfl (zr_ret dL_law_807))) zr_no)))))))))))) zr_no))))))))))))
def zb_L_law_808 (L : Nat) (xs : Nat → Int32) (r18 : zj_K) (E : zj_E) (st : List Value) (m : zj_M) : zj_R := (zi_ald 1 (zi_ald 0 (zi_ild 3 (zi_push (.int 1) (zi_b (fun x y => x + y) (zi_scld L xs (zi_ald 0 (zi_ild 3 (zi_push (.int 2) (zi_b (fun x y => x + y) (zi_scld L xs (zi_ald 0 (zi_ild 3 (zi_push (.int 3) (zi_b (fun x y => x + y) (zi_scld L xs (zi_vc 11 3 zf_X11_odds (zi_ald 2 (zi_ald 0 (zi_ild 3 (zi_push (.int 1) (zi_b (fun x y => x + y) (zi_scld L xs (zi_ald 0 (zi_ild 3 (zi_push (.int 2) (zi_b (fun x y => x + y) (zi_scld L xs (zi_ald 0 (zi_ild 3 (zi_push (.int 3) (zi_b (fun x y => x + y) (zi_scld L xs (zi_vc 12 3 zf_X12_odds (zi_lcmp (zi_eq (zb_L_law_1136 L xs r18) (zi_push (.int 0) (zi_ret (some .boolean))))) zi_no))))))))))))))))) zi_no))))))))))))))))) E st m
set_option maxRecDepth 20000 in
theorem zs_L_law_808 {L : Nat} {xs : Nat → Int32} {r18 : zj_K} (h18 : zj_KC code RL 4 60 (some .boolean) (L + 1, xs) 18 r18) : zj_KC code RL 4 60 (some .boolean) (L + 1, xs) 808 (zb_L_law_808 L xs r18) := (zr_aldn dL_law_808 rfl (zr_aldn dL_law_809 rfl (zr_ildn dL_law_810 rfl (zr_iconst dL_law_811 rfl (zr_iadd dL_law_812 (zr_scld rfl dL_law_813 (zr_aldn dL_law_814 rfl (zr_ildn dL_law_815 rfl (zr_iconst dL_law_816 rfl (zr_iadd dL_law_817 (zr_scld rfl dL_law_818 (zr_aldn dL_law_819 rfl (zr_ildn dL_law_820 rfl (zr_iconst dL_law_821 rfl (zr_iadd dL_law_822 (zr_scld rfl dL_law_823 (zr_callV dL_law_824 zm_X11_odds ⟨⟨zq_826, zq_65⟩, by decide +kernel, by omega, by decide⟩ rfl rfl zq_823 zq_824 zq_825 (zr_aldn dL_law_827 rfl (zr_aldn dL_law_828 rfl (zr_ildn dL_law_829 rfl (zr_iconst dL_law_830 rfl (zr_iadd dL_law_831 (zr_scld rfl dL_law_832 (zr_aldn dL_law_833 rfl (zr_ildn dL_law_834 rfl (zr_iconst dL_law_835 rfl (zr_iadd dL_law_836 (zr_scld rfl dL_law_837 (zr_aldn dL_law_838 rfl (zr_ildn dL_law_839 rfl (zr_iconst dL_law_840 rfl (zr_iadd dL_law_841 (zr_scld rfl dL_law_842 (zr_callV dL_law_843 zm_X12_odds ⟨⟨zq_1293, zq_77⟩, by decide +kernel, by omega, by decide⟩ rfl rfl zq_1290 zq_1291 zq_1292 (zr_lcmp dL_law_846 (zr_ifeq dL_law_847 (tgt := 1136) (by decide) (zs_L_law_1136 h18) (zr_iconst dL_law_850 rfl (zr_ret dL_law_851)))) zr_no))))))))))))))))) zr_no)))))))))))))))))
def zb_L_law_852 (L : Nat) (xs : Nat → Int32) (r18 : zj_K) (E : zj_E) (st : List Value) (m : zj_M) : zj_R := (zi_ald 1 (zi_ald 0 (zi_ild 3 (zi_push (.int 1) (zi_b (fun x y => x + y) (zi_scld L xs (zi_ald 0 (zi_ild 3 (zi_push (.int 2) (zi_b (fun x y => x + y) (zi_scld L xs (zi_vc 11 2 zf_X11_mean (zi_ald 2 (zi_ald 0 (zi_ild 3 (zi_push (.int 1) (zi_b (fun x y => x + y) (zi_scld L xs (zi_ald 0 (zi_ild 3 (zi_push (.int 2) (zi_b (fun x y => x + y) (zi_scld L xs (zi_vc 12 2 zf_X12_mean (zi_lcmp (zi_eq (zb_L_law_1136 L xs r18) (zi_push (.int 0) (zi_ret (some .boolean))))) zi_no)))))))))))) zi_no)))))))))))) E st m
set_option maxRecDepth 20000 in
theorem zs_L_law_852 {L : Nat} {xs : Nat → Int32} {r18 : zj_K} (h18 : zj_KC code RL 4 60 (some .boolean) (L + 1, xs) 18 r18) : zj_KC code RL 4 60 (some .boolean) (L + 1, xs) 852 (zb_L_law_852 L xs r18) := (zr_aldn dL_law_852 rfl (zr_aldn dL_law_853 rfl (zr_ildn dL_law_854 rfl (zr_iconst dL_law_855 rfl (zr_iadd dL_law_856 (zr_scld rfl dL_law_857 (zr_aldn dL_law_858 rfl (zr_ildn dL_law_859 rfl (zr_iconst dL_law_860 rfl (zr_iadd dL_law_861 (zr_scld rfl dL_law_862 (zr_callV dL_law_863 zm_X11_mean ⟨⟨zq_834, zq_65⟩, by decide +kernel, by omega, by decide⟩ rfl rfl zq_831 zq_832 zq_833 (zr_aldn dL_law_866 rfl (zr_aldn dL_law_867 rfl (zr_ildn dL_law_868 rfl (zr_iconst dL_law_869 rfl (zr_iadd dL_law_870 (zr_scld rfl dL_law_871 (zr_aldn dL_law_872 rfl (zr_ildn dL_law_873 rfl (zr_iconst dL_law_874 rfl (zr_iadd dL_law_875 (zr_scld rfl dL_law_876 (zr_callV dL_law_877 zm_X12_mean ⟨⟨zq_1302, zq_77⟩, by decide +kernel, by omega, by decide⟩ rfl rfl zq_1299 zq_1300 zq_1301 (zr_lcmp dL_law_880 (zr_ifeq dL_law_881 (tgt := 1136) (by decide) (zs_L_law_1136 h18) (zr_iconst dL_law_884 rfl (zr_ret dL_law_885)))) zr_no)))))))))))) zr_no))))))))))))
def zb_L_law_886 (L : Nat) (xs : Nat → Int32) (r18 : zj_K) (E : zj_E) (st : List Value) (m : zj_M) : zj_R := (zi_ald 1 (zi_ald 0 (zi_ild 3 (zi_push (.int 1) (zi_b (fun x y => x + y) (zi_scld L xs (zi_ald 0 (zi_ild 3 (zi_push (.int 2) (zi_b (fun x y => x + y) (zi_scld L xs (zi_vc 11 2 zf_X11_plan (zi_ald 2 (zi_ald 0 (zi_ild 3 (zi_push (.int 1) (zi_b (fun x y => x + y) (zi_scld L xs (zi_ald 0 (zi_ild 3 (zi_push (.int 2) (zi_b (fun x y => x + y) (zi_scld L xs (zi_vc 12 2 zf_X12_plan (zi_ceq (zb_L_law_1136 L xs r18) (zi_push (.int 0) (zi_ret (some .boolean)))) zi_no)))))))))))) zi_no)))))))))))) E st m
set_option maxRecDepth 20000 in
theorem zs_L_law_886 {L : Nat} {xs : Nat → Int32} {r18 : zj_K} (h18 : zj_KC code RL 4 60 (some .boolean) (L + 1, xs) 18 r18) : zj_KC code RL 4 60 (some .boolean) (L + 1, xs) 886 (zb_L_law_886 L xs r18) := (zr_aldn dL_law_886 rfl (zr_aldn dL_law_887 rfl (zr_ildn dL_law_888 rfl (zr_iconst dL_law_889 rfl (zr_iadd dL_law_890 (zr_scld rfl dL_law_891 (zr_aldn dL_law_892 rfl (zr_ildn dL_law_893 rfl (zr_iconst dL_law_894 rfl (zr_iadd dL_law_895 (zr_scld rfl dL_law_896 (zr_callV dL_law_897 zm_X11_plan ⟨⟨zq_838, zq_65⟩, by decide +kernel, by omega, by decide⟩ rfl rfl zq_835 zq_836 zq_837 (zr_aldn dL_law_900 rfl (zr_aldn dL_law_901 rfl (zr_ildn dL_law_902 rfl (zr_iconst dL_law_903 rfl (zr_iadd dL_law_904 (zr_scld rfl dL_law_905 (zr_aldn dL_law_906 rfl (zr_ildn dL_law_907 rfl (zr_iconst dL_law_908 rfl (zr_iadd dL_law_909 (zr_scld rfl dL_law_910 (zr_callV dL_law_911 zm_X12_plan ⟨⟨zq_1306, zq_77⟩, by decide +kernel, by omega, by decide⟩ rfl rfl zq_1303 zq_1304 zq_1305 (zr_iceq dL_law_914 (tgt := 1136) (by decide) (zs_L_law_1136 h18) (zr_iconst dL_law_917 rfl (zr_ret dL_law_918))) zr_no)))))))))))) zr_no))))))))))))
def zb_L_law_919 (L : Nat) (xs : Nat → Int32) (r18 : zj_K) (E : zj_E) (st : List Value) (m : zj_M) : zj_R := (zi_ald 1 (zi_ald 0 (zi_ild 3 (zi_push (.int 1) (zi_b (fun x y => x + y) (zi_scld L xs (zi_vc 11 1 zf_X11_done (zi_ald 2 (zi_ald 0 (zi_ild 3 (zi_push (.int 1) (zi_b (fun x y => x + y) (zi_scld L xs (zi_vc 12 1 zf_X12_done (zi_ceq (zb_L_law_1136 L xs r18) (zi_push (.int 0) (zi_ret (some .boolean)))) zi_no))))))) zi_no))))))) E st m
set_option maxRecDepth 20000 in
theorem zs_L_law_919 {L : Nat} {xs : Nat → Int32} {r18 : zj_K} (h18 : zj_KC code RL 4 60 (some .boolean) (L + 1, xs) 18 r18) : zj_KC code RL 4 60 (some .boolean) (L + 1, xs) 919 (zb_L_law_919 L xs r18) := (zr_aldn dL_law_919 rfl (zr_aldn dL_law_920 rfl (zr_ildn dL_law_921 rfl (zr_iconst dL_law_922 rfl (zr_iadd dL_law_923 (zr_scld rfl dL_law_924 (zr_callV dL_law_925 zm_X11_done ⟨⟨zq_842, zq_65⟩, by decide +kernel, by omega, by decide⟩ rfl rfl zq_839 zq_840 zq_841 (zr_aldn dL_law_928 rfl (zr_aldn dL_law_929 rfl (zr_ildn dL_law_930 rfl (zr_iconst dL_law_931 rfl (zr_iadd dL_law_932 (zr_scld rfl dL_law_933 (zr_callV dL_law_934 zm_X12_done ⟨⟨zq_1310, zq_77⟩, by decide +kernel, by omega, by decide⟩ rfl rfl zq_1307 zq_1308 zq_1309 (zr_iceq dL_law_937 (tgt := 1136) (by decide) (zs_L_law_1136 h18) (zr_iconst dL_law_940 rfl (zr_ret dL_law_941))) zr_no))))))) zr_no)))))))
def zb_L_law_942 (L : Nat) (xs : Nat → Int32) (r18 : zj_K) (E : zj_E) (st : List Value) (m : zj_M) : zj_R := (zi_ald 1 (zi_ald 0 (zi_ild 3 (zi_push (.int 1) (zi_b (fun x y => x + y) (zi_scld L xs (zi_ald 0 (zi_ild 3 (zi_push (.int 2) (zi_b (fun x y => x + y) (zi_scld L xs (zi_vc 11 2 zf_X11_book (zi_ald 2 (zi_ald 0 (zi_ild 3 (zi_push (.int 1) (zi_b (fun x y => x + y) (zi_scld L xs (zi_ald 0 (zi_ild 3 (zi_push (.int 2) (zi_b (fun x y => x + y) (zi_scld L xs (zi_vc 12 2 zf_X12_book (zi_ceq (zb_L_law_1136 L xs r18) (zi_push (.int 0) (zi_ret (some .boolean)))) zi_no)))))))))))) zi_no)))))))))))) E st m
set_option maxRecDepth 20000 in
theorem zs_L_law_942 {L : Nat} {xs : Nat → Int32} {r18 : zj_K} (h18 : zj_KC code RL 4 60 (some .boolean) (L + 1, xs) 18 r18) : zj_KC code RL 4 60 (some .boolean) (L + 1, xs) 942 (zb_L_law_942 L xs r18) := (zr_aldn dL_law_942 rfl (zr_aldn dL_law_943 rfl (zr_ildn dL_law_944 rfl (zr_iconst dL_law_945 rfl (zr_iadd dL_law_946 (zr_scld rfl dL_law_947 (zr_aldn dL_law_948 rfl (zr_ildn dL_law_949 rfl (zr_iconst dL_law_950 rfl (zr_iadd dL_law_951 (zr_scld rfl dL_law_952 (zr_callV dL_law_953 zm_X11_book ⟨⟨zq_846, zq_65⟩, by decide +kernel, by omega, by decide⟩ rfl rfl zq_843 zq_844 zq_845 (zr_aldn dL_law_956 rfl (zr_aldn dL_law_957 rfl (zr_ildn dL_law_958 rfl (zr_iconst dL_law_959 rfl (zr_iadd dL_law_960 (zr_scld rfl dL_law_961 (zr_aldn dL_law_962 rfl (zr_ildn dL_law_963 rfl (zr_iconst dL_law_964 rfl (zr_iadd dL_law_965 (zr_scld rfl dL_law_966 (zr_callV dL_law_967 zm_X12_book ⟨⟨zq_1318, zq_77⟩, by decide +kernel, by omega, by decide⟩ rfl rfl zq_1315 zq_1316 zq_1317 (zr_iceq dL_law_970 (tgt := 1136) (by decide) (zs_L_law_1136 h18) (zr_iconst dL_law_973 rfl (zr_ret dL_law_974))) zr_no)))))))))))) zr_no))))))))))))
def zb_L_law_975 (L : Nat) (xs : Nat → Int32) (r18 : zj_K) (E : zj_E) (st : List Value) (m : zj_M) : zj_R := (zi_ald 1 (zi_vc 11 0 zf_X11_looked (zi_ald 2 (zi_vc 12 0 zf_X12_looked (zi_ceq (zb_L_law_1136 L xs r18) (zi_push (.int 0) (zi_ret (some .boolean)))) zi_no)) zi_no)) E st m
set_option maxRecDepth 20000 in
theorem zs_L_law_975 {L : Nat} {xs : Nat → Int32} {r18 : zj_K} (h18 : zj_KC code RL 4 60 (some .boolean) (L + 1, xs) 18 r18) : zj_KC code RL 4 60 (some .boolean) (L + 1, xs) 975 (zb_L_law_975 L xs r18) := (zr_aldn dL_law_975 rfl (zr_callV dL_law_976 zm_X11_looked ⟨⟨zq_850, zq_65⟩, by decide +kernel, by omega, by decide⟩ rfl rfl zq_847 zq_848 zq_849 (zr_aldn dL_law_979 rfl (zr_callV dL_law_980 zm_X12_looked ⟨⟨zq_1322, zq_77⟩, by decide +kernel, by omega, by decide⟩ rfl rfl zq_1319 zq_1320 zq_1321 (zr_iceq dL_law_983 (tgt := 1136) (by decide) (zs_L_law_1136 h18) (zr_iconst dL_law_986 rfl (zr_ret dL_law_987))) zr_no)) zr_no))
def zb_L_law_988 (L : Nat) (xs : Nat → Int32) (r18 : zj_K) (E : zj_E) (st : List Value) (m : zj_M) : zj_R := (zi_ald 1 (zi_ald 0 (zi_ild 3 (zi_push (.int 1) (zi_b (fun x y => x + y) (zi_scld L xs (zi_ald 0 (zi_ild 3 (zi_push (.int 2) (zi_b (fun x y => x + y) (zi_scld L xs (zi_ald 0 (zi_ild 3 (zi_push (.int 3) (zi_b (fun x y => x + y) (zi_scld L xs (zi_vc 11 3 zf_X11_act (zi_ald 2 (zi_ald 0 (zi_ild 3 (zi_push (.int 1) (zi_b (fun x y => x + y) (zi_scld L xs (zi_ald 0 (zi_ild 3 (zi_push (.int 2) (zi_b (fun x y => x + y) (zi_scld L xs (zi_ald 0 (zi_ild 3 (zi_push (.int 3) (zi_b (fun x y => x + y) (zi_scld L xs (zi_vc 12 3 zf_X12_act (zi_ceq (zb_L_law_1136 L xs r18) (zi_push (.int 0) (zi_ret (some .boolean)))) zi_no))))))))))))))))) zi_no))))))))))))))))) E st m
set_option maxRecDepth 20000 in
theorem zs_L_law_988 {L : Nat} {xs : Nat → Int32} {r18 : zj_K} (h18 : zj_KC code RL 4 60 (some .boolean) (L + 1, xs) 18 r18) : zj_KC code RL 4 60 (some .boolean) (L + 1, xs) 988 (zb_L_law_988 L xs r18) := (zr_aldn dL_law_988 rfl (zr_aldn dL_law_989 rfl (zr_ildn dL_law_990 rfl (zr_iconst dL_law_991 rfl (zr_iadd dL_law_992 (zr_scld rfl dL_law_993 (zr_aldn dL_law_994 rfl (zr_ildn dL_law_995 rfl (zr_iconst dL_law_996 rfl (zr_iadd dL_law_997 (zr_scld rfl dL_law_998 (zr_aldn dL_law_999 rfl (zr_ildn dL_law_1000 rfl (zr_iconst dL_law_1001 rfl (zr_iadd dL_law_1002 (zr_scld rfl dL_law_1003 (zr_callV dL_law_1004 zm_X11_act ⟨⟨zq_854, zq_65⟩, by decide +kernel, by omega, by decide⟩ rfl rfl zq_851 zq_852 zq_853 (zr_aldn dL_law_1007 rfl (zr_aldn dL_law_1008 rfl (zr_ildn dL_law_1009 rfl (zr_iconst dL_law_1010 rfl (zr_iadd dL_law_1011 (zr_scld rfl dL_law_1012 (zr_aldn dL_law_1013 rfl (zr_ildn dL_law_1014 rfl (zr_iconst dL_law_1015 rfl (zr_iadd dL_law_1016 (zr_scld rfl dL_law_1017 (zr_aldn dL_law_1018 rfl (zr_ildn dL_law_1019 rfl (zr_iconst dL_law_1020 rfl (zr_iadd dL_law_1021 (zr_scld rfl dL_law_1022 (zr_callV dL_law_1023 zm_X12_act ⟨⟨zq_1326, zq_77⟩, by decide +kernel, by omega, by decide⟩ rfl rfl zq_1323 zq_1324 zq_1325 (zr_iceq dL_law_1026 (tgt := 1136) (by decide) (zs_L_law_1136 h18) (zr_iconst dL_law_1029 rfl (zr_ret dL_law_1030))) zr_no))))))))))))))))) zr_no)))))))))))))))))
def zb_L_law_1031 (L : Nat) (xs : Nat → Int32) (r18 : zj_K) (E : zj_E) (st : List Value) (m : zj_M) : zj_R := (zi_ald 1 (zi_ald 0 (zi_ild 3 (zi_push (.int 1) (zi_b (fun x y => x + y) (zi_scld L xs (zi_vc 11 1 zf_X11_trace (zi_ald 2 (zi_ald 0 (zi_ild 3 (zi_push (.int 1) (zi_b (fun x y => x + y) (zi_scld L xs (zi_vc 12 1 zf_X12_trace (zi_ceq (zb_L_law_1136 L xs r18) (zi_push (.int 0) (zi_ret (some .boolean)))) zi_no))))))) zi_no))))))) E st m
set_option maxRecDepth 20000 in
theorem zs_L_law_1031 {L : Nat} {xs : Nat → Int32} {r18 : zj_K} (h18 : zj_KC code RL 4 60 (some .boolean) (L + 1, xs) 18 r18) : zj_KC code RL 4 60 (some .boolean) (L + 1, xs) 1031 (zb_L_law_1031 L xs r18) := (zr_aldn dL_law_1031 rfl (zr_aldn dL_law_1032 rfl (zr_ildn dL_law_1033 rfl (zr_iconst dL_law_1034 rfl (zr_iadd dL_law_1035 (zr_scld rfl dL_law_1036 (zr_callV dL_law_1037 zm_X11_trace ⟨⟨zq_947, zq_65⟩, by decide +kernel, by omega, by decide⟩ rfl rfl zq_944 zq_945 zq_946 (zr_aldn dL_law_1040 rfl (zr_aldn dL_law_1041 rfl (zr_ildn dL_law_1042 rfl (zr_iconst dL_law_1043 rfl (zr_iadd dL_law_1044 (zr_scld rfl dL_law_1045 (zr_callV dL_law_1046 zm_X12_trace ⟨⟨zq_1361, zq_77⟩, by decide +kernel, by omega, by decide⟩ rfl rfl zq_1358 zq_1359 zq_1360 (zr_iceq dL_law_1049 (tgt := 1136) (by decide) (zs_L_law_1136 h18) (zr_iconst dL_law_1052 rfl (zr_ret dL_law_1053))) zr_no))))))) zr_no)))))))
def zb_L_law_1054 (L : Nat) (xs : Nat → Int32) (r18 : zj_K) (E : zj_E) (st : List Value) (m : zj_M) : zj_R := (zi_ald 1 (zi_ald 0 (zi_ild 3 (zi_push (.int 1) (zi_b (fun x y => x + y) (zi_scld L xs (zi_ald 0 (zi_ild 3 (zi_push (.int 2) (zi_b (fun x y => x + y) (zi_scld L xs (zi_vc 11 2 zf_X11_as (zi_ald 2 (zi_ald 0 (zi_ild 3 (zi_push (.int 1) (zi_b (fun x y => x + y) (zi_scld L xs (zi_ald 0 (zi_ild 3 (zi_push (.int 2) (zi_b (fun x y => x + y) (zi_scld L xs (zi_vc 12 2 zf_X12_as (zi_ceq (zb_L_law_1136 L xs r18) (zi_push (.int 0) (zi_ret (some .boolean)))) zi_no)))))))))))) zi_no)))))))))))) E st m
set_option maxRecDepth 20000 in
theorem zs_L_law_1054 {L : Nat} {xs : Nat → Int32} {r18 : zj_K} (h18 : zj_KC code RL 4 60 (some .boolean) (L + 1, xs) 18 r18) : zj_KC code RL 4 60 (some .boolean) (L + 1, xs) 1054 (zb_L_law_1054 L xs r18) := (zr_aldn dL_law_1054 rfl (zr_aldn dL_law_1055 rfl (zr_ildn dL_law_1056 rfl (zr_iconst dL_law_1057 rfl (zr_iadd dL_law_1058 (zr_scld rfl dL_law_1059 (zr_aldn dL_law_1060 rfl (zr_ildn dL_law_1061 rfl (zr_iconst dL_law_1062 rfl (zr_iadd dL_law_1063 (zr_scld rfl dL_law_1064 (zr_callV dL_law_1065 zm_X11_as ⟨⟨zq_951, zq_65⟩, by decide +kernel, by omega, by decide⟩ rfl rfl zq_948 zq_949 zq_950 (zr_aldn dL_law_1068 rfl (zr_aldn dL_law_1069 rfl (zr_ildn dL_law_1070 rfl (zr_iconst dL_law_1071 rfl (zr_iadd dL_law_1072 (zr_scld rfl dL_law_1073 (zr_aldn dL_law_1074 rfl (zr_ildn dL_law_1075 rfl (zr_iconst dL_law_1076 rfl (zr_iadd dL_law_1077 (zr_scld rfl dL_law_1078 (zr_callV dL_law_1079 zm_X12_as ⟨⟨zq_1365, zq_77⟩, by decide +kernel, by omega, by decide⟩ rfl rfl zq_1362 zq_1363 zq_1364 (zr_iceq dL_law_1082 (tgt := 1136) (by decide) (zs_L_law_1136 h18) (zr_iconst dL_law_1085 rfl (zr_ret dL_law_1086))) zr_no)))))))))))) zr_no))))))))))))
def zb_L_law_1087 (L : Nat) (xs : Nat → Int32) (r18 : zj_K) (E : zj_E) (st : List Value) (m : zj_M) : zj_R := (zi_ald 1 (zi_vc 11 0 zf_X11_image (zi_ald 2 (zi_vc 12 0 zf_X12_image (zi_ceq (zb_L_law_1136 L xs r18) (zi_push (.int 0) (zi_ret (some .boolean)))) zi_no)) zi_no)) E st m
set_option maxRecDepth 20000 in
theorem zs_L_law_1087 {L : Nat} {xs : Nat → Int32} {r18 : zj_K} (h18 : zj_KC code RL 4 60 (some .boolean) (L + 1, xs) 18 r18) : zj_KC code RL 4 60 (some .boolean) (L + 1, xs) 1087 (zb_L_law_1087 L xs r18) := (zr_aldn dL_law_1087 rfl (zr_callV dL_law_1088 zm_X11_image ⟨⟨zq_955, zq_65⟩, by decide +kernel, by omega, by decide⟩ rfl rfl zq_952 zq_953 zq_954 (zr_aldn dL_law_1091 rfl (zr_callV dL_law_1092 zm_X12_image ⟨⟨zq_1369, zq_77⟩, by decide +kernel, by omega, by decide⟩ rfl rfl zq_1366 zq_1367 zq_1368 (zr_iceq dL_law_1095 (tgt := 1136) (by decide) (zs_L_law_1136 h18) (zr_iconst dL_law_1098 rfl (zr_ret dL_law_1099))) zr_no)) zr_no))
def zb_L_law_1100 (L : Nat) (xs : Nat → Int32) (r18 : zj_K) (E : zj_E) (st : List Value) (m : zj_M) : zj_R := (zi_ald 1 (zi_vc 11 0 zf_X11_undo (zi_ald 2 (zi_vc 12 0 zf_X12_undo (zi_ceq (zb_L_law_1136 L xs r18) (zi_push (.int 0) (zi_ret (some .boolean)))) zi_no)) zi_no)) E st m
set_option maxRecDepth 20000 in
theorem zs_L_law_1100 {L : Nat} {xs : Nat → Int32} {r18 : zj_K} (h18 : zj_KC code RL 4 60 (some .boolean) (L + 1, xs) 18 r18) : zj_KC code RL 4 60 (some .boolean) (L + 1, xs) 1100 (zb_L_law_1100 L xs r18) := (zr_aldn dL_law_1100 rfl (zr_callV dL_law_1101 zm_X11_undo ⟨⟨zq_970, zq_65⟩, by decide +kernel, by omega, by decide⟩ rfl rfl zq_967 zq_968 zq_969 (zr_aldn dL_law_1104 rfl (zr_callV dL_law_1105 zm_X12_undo ⟨⟨zq_1373, zq_77⟩, by decide +kernel, by omega, by decide⟩ rfl rfl zq_1370 zq_1371 zq_1372 (zr_iceq dL_law_1108 (tgt := 1136) (by decide) (zs_L_law_1136 h18) (zr_iconst dL_law_1111 rfl (zr_ret dL_law_1112))) zr_no)) zr_no))
def zb_L_law_1113 (L : Nat) (xs : Nat → Int32) (r18 : zj_K) (E : zj_E) (st : List Value) (m : zj_M) : zj_R := (zi_ald 1 (zi_ald 0 (zi_ild 3 (zi_push (.int 1) (zi_b (fun x y => x + y) (zi_scld L xs (zi_vc 11 1 zf_X11_count (zi_ald 2 (zi_ald 0 (zi_ild 3 (zi_push (.int 1) (zi_b (fun x y => x + y) (zi_scld L xs (zi_vc 12 1 zf_X12_count (zi_ceq (zb_L_law_1136 L xs r18) (zi_push (.int 0) (zi_ret (some .boolean)))) zi_no))))))) zi_no))))))) E st m
set_option maxRecDepth 20000 in
theorem zs_L_law_1113 {L : Nat} {xs : Nat → Int32} {r18 : zj_K} (h18 : zj_KC code RL 4 60 (some .boolean) (L + 1, xs) 18 r18) : zj_KC code RL 4 60 (some .boolean) (L + 1, xs) 1113 (zb_L_law_1113 L xs r18) := (zr_aldn dL_law_1113 rfl (zr_aldn dL_law_1114 rfl (zr_ildn dL_law_1115 rfl (zr_iconst dL_law_1116 rfl (zr_iadd dL_law_1117 (zr_scld rfl dL_law_1118 (zr_callV dL_law_1119 zm_X11_count ⟨⟨zq_974, zq_65⟩, by decide +kernel, by omega, by decide⟩ rfl rfl zq_971 zq_972 zq_973 (zr_aldn dL_law_1122 rfl (zr_aldn dL_law_1123 rfl (zr_ildn dL_law_1124 rfl (zr_iconst dL_law_1125 rfl (zr_iadd dL_law_1126 (zr_scld rfl dL_law_1127 (zr_callV dL_law_1128 zm_X12_count ⟨⟨zq_1377, zq_77⟩, by decide +kernel, by omega, by decide⟩ rfl rfl zq_1374 zq_1375 zq_1376 (zr_iceq dL_law_1131 (tgt := 1136) (by decide) (zs_L_law_1136 h18) (zr_iconst dL_law_1134 rfl (zr_ret dL_law_1135))) zr_no))))))) zr_no)))))))
def zb_L_law_18 (L : Nat) (xs : Nat → Int32) (r18 : zj_K) (E : zj_E) (st : List Value) (m : zj_M) : zj_R := (zi_ild 3 (zi_ald 0 (zi_sclen L (zi_push (.int 5) (zi_b (fun x y => x - y) (zi_cle (zi_ald 0 (zi_ild 3 (zi_scld L xs (zi_push (.int 31) (zi_b (fun x y => x &&& y) (zi_tsw 0 [(zb_L_law_176 L xs r18), (zb_L_law_199 L xs r18), (zb_L_law_212 L xs r18), (zb_L_law_245 L xs r18), (zb_L_law_268 L xs r18), (zb_L_law_321 L xs r18), (zb_L_law_354 L xs r18), (zb_L_law_397 L xs r18), (zb_L_law_440 L xs r18), (zb_L_law_489 L xs r18), (zb_L_law_512 L xs r18), (zb_L_law_535 L xs r18), (zb_L_law_568 L xs r18), (zb_L_law_591 L xs r18), (zb_L_law_624 L xs r18), (zb_L_law_657 L xs r18), (zb_L_law_670 L xs r18), (zb_L_law_729 L xs r18), (zb_L_law_752 L xs r18), (zb_L_law_775 L xs r18), (zb_L_law_808 L xs r18), (zb_L_law_852 L xs r18), (zb_L_law_886 L xs r18), (zb_L_law_919 L xs r18), (zb_L_law_942 L xs r18), (zb_L_law_975 L xs r18), (zb_L_law_988 L xs r18), (zb_L_law_1031 L xs r18), (zb_L_law_1054 L xs r18), (zb_L_law_1087 L xs r18), (zb_L_law_1100 L xs r18), (zb_L_law_1113 L xs r18)] (zb_L_law_1136 L xs r18))))))) (zi_push (.int 1) (zi_ret (some .boolean))))))))) E st m
set_option maxRecDepth 20000 in
theorem zs_L_law_18 {L : Nat} {xs : Nat → Int32} {r18 : zj_K} (h18 : zj_KC code RL 4 60 (some .boolean) (L + 1, xs) 18 r18) : zj_KC code RL 4 60 (some .boolean) (L + 1, xs) 18 (zb_L_law_18 L xs r18) := (zr_ildn dL_law_18 rfl (zr_aldn dL_law_19 rfl (zr_sclen rfl dL_law_20 (zr_iconst dL_law_21 rfl (zr_isub dL_law_22 (zr_icgt dL_law_23 (tgt := 1142) (by decide) (zr_iconst dL_law_1142 rfl (zr_ret dL_law_1143)) (zr_aldn dL_law_26 rfl (zr_ildn dL_law_27 rfl (zr_scld rfl dL_law_28 (zr_bipush dL_law_29 rfl (zr_iand dL_law_31 (zr_tsw dL_law_32 (tgt := 1136) (by decide) (hkd := (zs_L_law_1136 h18)) (tg := [176, 199, 212, 245, 268, 321, 354, 397, 440, 489, 512, 535, 568, 591, 624, 657, 670, 729, 752, 775, 808, 852, 886, 919, 942, 975, 988, 1031, 1054, 1087, 1100, 1113] ) (hn := rfl) (hoff := by decide) (hl := rfl) ⟨(zs_L_law_176 h18), (zs_L_law_199 h18), (zs_L_law_212 h18), (zs_L_law_245 h18), (zs_L_law_268 h18), (zs_L_law_321 h18), (zs_L_law_354 h18), (zs_L_law_397 h18), (zs_L_law_440 h18), (zs_L_law_489 h18), (zs_L_law_512 h18), (zs_L_law_535 h18), (zs_L_law_568 h18), (zs_L_law_591 h18), (zs_L_law_624 h18), (zs_L_law_657 h18), (zs_L_law_670 h18), (zs_L_law_729 h18), (zs_L_law_752 h18), (zs_L_law_775 h18), (zs_L_law_808 h18), (zs_L_law_852 h18), (zs_L_law_886 h18), (zs_L_law_919 h18), (zs_L_law_942 h18), (zs_L_law_975 h18), (zs_L_law_988 h18), (zs_L_law_1031 h18), (zs_L_law_1054 h18), (zs_L_law_1087 h18), (zs_L_law_1100 h18), (zs_L_law_1113 h18), trivial⟩))))))))))))
def zb_L_law_16 (L : Nat) (xs : Nat → Int32) (E : zj_E) (st : List Value) (m : zj_M) : zj_R := (zi_push (.int 0) (zi_ist 3 (zj_lp (zb_L_law_18 L xs) zj_fu))) E st m
set_option maxRecDepth 20000 in
theorem zs_L_law_16 {L : Nat} {xs : Nat → Int32} : zj_KC code RL 4 60 (some .boolean) (L + 1, xs) 16 (zb_L_law_16 L xs) := (zr_iconst dL_law_16 rfl (zr_istn dL_law_17 rfl (zr_lp (fun _ h => zs_L_law_18 h) zj_fu)))
