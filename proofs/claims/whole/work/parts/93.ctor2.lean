/-! rows of the two large constructors -/
theorem dX11_init_0 : decode cX11_init 0 = .ok (.aload_n 0, 1) := by decide +kernel
theorem dX11_init_1 : decode cX11_init 1 = .ok (.invokespecial 3, 3) := by decide +kernel
theorem dX11_init_4 : decode cX11_init 4 = .ok (.new 9, 3) := by decide +kernel
theorem dX11_init_7 : decode cX11_init 7 = .ok (.dup, 1) := by decide +kernel
theorem dX11_init_8 : decode cX11_init 8 = .ok (.bipush 20, 2) := by decide +kernel
theorem dX11_init_10 : decode cX11_init 10 = .ok (.invokespecial 11, 3) := by decide +kernel
theorem dX11_init_13 : decode cX11_init 13 = .ok (.astore_n 1, 1) := by decide +kernel
theorem dX11_init_14 : decode cX11_init 14 = .ok (.bipush 7, 2) := by decide +kernel
theorem dX11_init_16 : decode cX11_init 16 = .ok (.anewarray 16, 3) := by decide +kernel
theorem dX11_init_19 : decode cX11_init 19 = .ok (.astore_n 2, 1) := by decide +kernel
theorem dX11_init_20 : decode cX11_init 20 = .ok (.aload_n 2, 1) := by decide +kernel
theorem dX11_init_21 : decode cX11_init 21 = .ok (.iconst 0, 1) := by decide +kernel
theorem dX11_init_22 : decode cX11_init 22 = .ok (.new 16, 3) := by decide +kernel
theorem dX11_init_25 : decode cX11_init 25 = .ok (.dup, 1) := by decide +kernel
theorem dX11_init_26 : decode cX11_init 26 = .ok (.aload_n 1, 1) := by decide +kernel
theorem dX11_init_27 : decode cX11_init 27 = .ok (.invokespecial 18, 3) := by decide +kernel
theorem dX11_init_30 : decode cX11_init 30 = .ok (.aastore, 1) := by decide +kernel
theorem dX11_init_31 : decode cX11_init 31 = .ok (.aload_n 2, 1) := by decide +kernel
theorem dX11_init_32 : decode cX11_init 32 = .ok (.iconst 1, 1) := by decide +kernel
theorem dX11_init_33 : decode cX11_init 33 = .ok (.new 21, 3) := by decide +kernel
theorem dX11_init_36 : decode cX11_init 36 = .ok (.dup, 1) := by decide +kernel
theorem dX11_init_37 : decode cX11_init 37 = .ok (.aload_n 1, 1) := by decide +kernel
theorem dX11_init_38 : decode cX11_init 38 = .ok (.invokespecial 23, 3) := by decide +kernel
theorem dX11_init_41 : decode cX11_init 41 = .ok (.aastore, 1) := by decide +kernel
theorem dX11_init_42 : decode cX11_init 42 = .ok (.aload_n 2, 1) := by decide +kernel
theorem dX11_init_43 : decode cX11_init 43 = .ok (.iconst 2, 1) := by decide +kernel
theorem dX11_init_44 : decode cX11_init 44 = .ok (.new 24, 3) := by decide +kernel
theorem dX11_init_47 : decode cX11_init 47 = .ok (.dup, 1) := by decide +kernel
theorem dX11_init_48 : decode cX11_init 48 = .ok (.aload_n 1, 1) := by decide +kernel
theorem dX11_init_49 : decode cX11_init 49 = .ok (.invokespecial 26, 3) := by decide +kernel
theorem dX11_init_52 : decode cX11_init 52 = .ok (.aastore, 1) := by decide +kernel
theorem dX11_init_53 : decode cX11_init 53 = .ok (.aload_n 2, 1) := by decide +kernel
theorem dX11_init_54 : decode cX11_init 54 = .ok (.iconst 3, 1) := by decide +kernel
theorem dX11_init_55 : decode cX11_init 55 = .ok (.new 27, 3) := by decide +kernel
theorem dX11_init_58 : decode cX11_init 58 = .ok (.dup, 1) := by decide +kernel
theorem dX11_init_59 : decode cX11_init 59 = .ok (.aload_n 1, 1) := by decide +kernel
theorem dX11_init_60 : decode cX11_init 60 = .ok (.invokespecial 29, 3) := by decide +kernel
theorem dX11_init_63 : decode cX11_init 63 = .ok (.aastore, 1) := by decide +kernel
theorem dX11_init_64 : decode cX11_init 64 = .ok (.aload_n 2, 1) := by decide +kernel
theorem dX11_init_65 : decode cX11_init 65 = .ok (.iconst 4, 1) := by decide +kernel
theorem dX11_init_66 : decode cX11_init 66 = .ok (.new 30, 3) := by decide +kernel
theorem dX11_init_69 : decode cX11_init 69 = .ok (.dup, 1) := by decide +kernel
theorem dX11_init_70 : decode cX11_init 70 = .ok (.aload_n 1, 1) := by decide +kernel
theorem dX11_init_71 : decode cX11_init 71 = .ok (.invokespecial 32, 3) := by decide +kernel
theorem dX11_init_74 : decode cX11_init 74 = .ok (.aastore, 1) := by decide +kernel
theorem dX11_init_75 : decode cX11_init 75 = .ok (.aload_n 2, 1) := by decide +kernel
theorem dX11_init_76 : decode cX11_init 76 = .ok (.iconst 5, 1) := by decide +kernel
theorem dX11_init_77 : decode cX11_init 77 = .ok (.new 33, 3) := by decide +kernel
theorem dX11_init_80 : decode cX11_init 80 = .ok (.dup, 1) := by decide +kernel
theorem dX11_init_81 : decode cX11_init 81 = .ok (.aload_n 1, 1) := by decide +kernel
theorem dX11_init_82 : decode cX11_init 82 = .ok (.invokespecial 35, 3) := by decide +kernel
theorem dX11_init_85 : decode cX11_init 85 = .ok (.aastore, 1) := by decide +kernel
theorem dX11_init_86 : decode cX11_init 86 = .ok (.aload_n 2, 1) := by decide +kernel
theorem dX11_init_87 : decode cX11_init 87 = .ok (.bipush 6, 2) := by decide +kernel
theorem dX11_init_89 : decode cX11_init 89 = .ok (.new 36, 3) := by decide +kernel
theorem dX11_init_92 : decode cX11_init 92 = .ok (.dup, 1) := by decide +kernel
theorem dX11_init_93 : decode cX11_init 93 = .ok (.aload_n 1, 1) := by decide +kernel
theorem dX11_init_94 : decode cX11_init 94 = .ok (.invokespecial 38, 3) := by decide +kernel
theorem dX11_init_97 : decode cX11_init 97 = .ok (.aastore, 1) := by decide +kernel
theorem dX11_init_98 : decode cX11_init 98 = .ok (.sipush 3840, 3) := by decide +kernel
theorem dX11_init_101 : decode cX11_init 101 = .ok (.newarray .int, 2) := by decide +kernel
theorem dX11_init_103 : decode cX11_init 103 = .ok (.astore_n 3, 1) := by decide +kernel
theorem dX11_init_104 : decode cX11_init 104 = .ok (.new 39, 3) := by decide +kernel
theorem dX11_init_107 : decode cX11_init 107 = .ok (.dup, 1) := by decide +kernel
theorem dX11_init_108 : decode cX11_init 108 = .ok (.aload_n 3, 1) := by decide +kernel
theorem dX11_init_109 : decode cX11_init 109 = .ok (.invokespecial 41, 3) := by decide +kernel
theorem dX11_init_112 : decode cX11_init 112 = .ok (.astore 4, 2) := by decide +kernel
theorem dX11_init_114 : decode cX11_init 114 = .ok (.aload_n 0, 1) := by decide +kernel
theorem dX11_init_115 : decode cX11_init 115 = .ok (.aload_n 1, 1) := by decide +kernel
theorem dX11_init_116 : decode cX11_init 116 = .ok (.putfield 44, 3) := by decide +kernel
theorem dX11_init_119 : decode cX11_init 119 = .ok (.aload_n 0, 1) := by decide +kernel
theorem dX11_init_120 : decode cX11_init 120 = .ok (.aload_n 2, 1) := by decide +kernel
theorem dX11_init_121 : decode cX11_init 121 = .ok (.putfield 48, 3) := by decide +kernel
theorem dX11_init_124 : decode cX11_init 124 = .ok (.aload_n 0, 1) := by decide +kernel
theorem dX11_init_125 : decode cX11_init 125 = .ok (.new 39, 3) := by decide +kernel
theorem dX11_init_128 : decode cX11_init 128 = .ok (.dup, 1) := by decide +kernel
theorem dX11_init_129 : decode cX11_init 129 = .ok (.aload_n 3, 1) := by decide +kernel
theorem dX11_init_130 : decode cX11_init 130 = .ok (.invokespecial 41, 3) := by decide +kernel
theorem dX11_init_133 : decode cX11_init 133 = .ok (.putfield 52, 3) := by decide +kernel
theorem dX11_init_136 : decode cX11_init 136 = .ok (.aload_n 0, 1) := by decide +kernel
theorem dX11_init_137 : decode cX11_init 137 = .ok (.new 56, 3) := by decide +kernel
theorem dX11_init_140 : decode cX11_init 140 = .ok (.dup, 1) := by decide +kernel
theorem dX11_init_141 : decode cX11_init 141 = .ok (.aload 4, 2) := by decide +kernel
theorem dX11_init_143 : decode cX11_init 143 = .ok (.aload_n 2, 1) := by decide +kernel
theorem dX11_init_144 : decode cX11_init 144 = .ok (.invokespecial 58, 3) := by decide +kernel
theorem dX11_init_147 : decode cX11_init 147 = .ok (.putfield 61, 3) := by decide +kernel
theorem dX11_init_150 : decode cX11_init 150 = .ok (.aload_n 0, 1) := by decide +kernel
theorem dX11_init_151 : decode cX11_init 151 = .ok (.new 56, 3) := by decide +kernel
theorem dX11_init_154 : decode cX11_init 154 = .ok (.dup, 1) := by decide +kernel
theorem dX11_init_155 : decode cX11_init 155 = .ok (.new 39, 3) := by decide +kernel
theorem dX11_init_158 : decode cX11_init 158 = .ok (.dup, 1) := by decide +kernel
theorem dX11_init_159 : decode cX11_init 159 = .ok (.aload_n 3, 1) := by decide +kernel
theorem dX11_init_160 : decode cX11_init 160 = .ok (.invokespecial 41, 3) := by decide +kernel
theorem dX11_init_163 : decode cX11_init 163 = .ok (.aload_n 2, 1) := by decide +kernel
theorem dX11_init_164 : decode cX11_init 164 = .ok (.invokespecial 58, 3) := by decide +kernel
theorem dX11_init_167 : decode cX11_init 167 = .ok (.putfield 65, 3) := by decide +kernel
theorem dX11_init_170 : decode cX11_init 170 = .ok (.aload_n 0, 1) := by decide +kernel
theorem dX11_init_171 : decode cX11_init 171 = .ok (.new 68, 3) := by decide +kernel
theorem dX11_init_174 : decode cX11_init 174 = .ok (.dup, 1) := by decide +kernel
theorem dX11_init_175 : decode cX11_init 175 = .ok (.aload 4, 2) := by decide +kernel
theorem dX11_init_177 : decode cX11_init 177 = .ok (.aload_n 2, 1) := by decide +kernel
theorem dX11_init_178 : decode cX11_init 178 = .ok (.ldc 70, 2) := by decide +kernel
theorem dX11_init_180 : decode cX11_init 180 = .ok (.invokespecial 71, 3) := by decide +kernel
theorem dX11_init_183 : decode cX11_init 183 = .ok (.putfield 74, 3) := by decide +kernel
theorem dX11_init_186 : decode cX11_init 186 = .ok (.return_, 1) := by decide +kernel
theorem dX12_init_0 : decode cX12_init 0 = .ok (.aload_n 0, 1) := by decide +kernel
theorem dX12_init_1 : decode cX12_init 1 = .ok (.invokespecial 3, 3) := by decide +kernel
theorem dX12_init_4 : decode cX12_init 4 = .ok (.aload_n 0, 1) := by decide +kernel
theorem dX12_init_5 : decode cX12_init 5 = .ok (.sipush 933, 3) := by decide +kernel
theorem dX12_init_8 : decode cX12_init 8 = .ok (.newarray .int, 2) := by decide +kernel
theorem dX12_init_10 : decode cX12_init 10 = .ok (.putfield 9, 3) := by decide +kernel
theorem dX12_init_13 : decode cX12_init 13 = .ok (.aload_n 0, 1) := by decide +kernel
theorem dX12_init_14 : decode cX12_init 14 = .ok (.sipush 933, 3) := by decide +kernel
theorem dX12_init_17 : decode cX12_init 17 = .ok (.newarray .int, 2) := by decide +kernel
theorem dX12_init_19 : decode cX12_init 19 = .ok (.putfield 15, 3) := by decide +kernel
theorem dX12_init_22 : decode cX12_init 22 = .ok (.aload_n 0, 1) := by decide +kernel
theorem dX12_init_23 : decode cX12_init 23 = .ok (.bipush 26, 2) := by decide +kernel
theorem dX12_init_25 : decode cX12_init 25 = .ok (.newarray .int, 2) := by decide +kernel
theorem dX12_init_27 : decode cX12_init 27 = .ok (.putfield 18, 3) := by decide +kernel
theorem dX12_init_30 : decode cX12_init 30 = .ok (.aload_n 0, 1) := by decide +kernel
theorem dX12_init_31 : decode cX12_init 31 = .ok (.bipush 6, 2) := by decide +kernel
theorem dX12_init_33 : decode cX12_init 33 = .ok (.newarray .int, 2) := by decide +kernel
theorem dX12_init_35 : decode cX12_init 35 = .ok (.putfield 21, 3) := by decide +kernel
theorem dX12_init_38 : decode cX12_init 38 = .ok (.aload_n 0, 1) := by decide +kernel
theorem dX12_init_39 : decode cX12_init 39 = .ok (.bipush 64, 2) := by decide +kernel
theorem dX12_init_41 : decode cX12_init 41 = .ok (.newarray .boolean, 2) := by decide +kernel
theorem dX12_init_43 : decode cX12_init 43 = .ok (.putfield 24, 3) := by decide +kernel
theorem dX12_init_46 : decode cX12_init 46 = .ok (.aload_n 0, 1) := by decide +kernel
theorem dX12_init_47 : decode cX12_init 47 = .ok (.sipush 3840, 3) := by decide +kernel
theorem dX12_init_50 : decode cX12_init 50 = .ok (.newarray .int, 2) := by decide +kernel
theorem dX12_init_52 : decode cX12_init 52 = .ok (.putfield 28, 3) := by decide +kernel
theorem dX12_init_55 : decode cX12_init 55 = .ok (.aload_n 0, 1) := by decide +kernel
theorem dX12_init_56 : decode cX12_init 56 = .ok (.sipush 3840, 3) := by decide +kernel
theorem dX12_init_59 : decode cX12_init 59 = .ok (.newarray .boolean, 2) := by decide +kernel
theorem dX12_init_61 : decode cX12_init 61 = .ok (.putfield 31, 3) := by decide +kernel
theorem dX12_init_64 : decode cX12_init 64 = .ok (.aload_n 0, 1) := by decide +kernel
theorem dX12_init_65 : decode cX12_init 65 = .ok (.bipush 6, 2) := by decide +kernel
theorem dX12_init_67 : decode cX12_init 67 = .ok (.newarray .int, 2) := by decide +kernel
theorem dX12_init_69 : decode cX12_init 69 = .ok (.putfield 34, 3) := by decide +kernel
theorem dX12_init_72 : decode cX12_init 72 = .ok (.aload_n 0, 1) := by decide +kernel
theorem dX12_init_73 : decode cX12_init 73 = .ok (.bipush 6, 2) := by decide +kernel
theorem dX12_init_75 : decode cX12_init 75 = .ok (.newarray .int, 2) := by decide +kernel
theorem dX12_init_77 : decode cX12_init 77 = .ok (.putfield 37, 3) := by decide +kernel
theorem dX12_init_80 : decode cX12_init 80 = .ok (.aload_n 0, 1) := by decide +kernel
theorem dX12_init_81 : decode cX12_init 81 = .ok (.bipush 20, 2) := by decide +kernel
theorem dX12_init_83 : decode cX12_init 83 = .ok (.newarray .int, 2) := by decide +kernel
theorem dX12_init_85 : decode cX12_init 85 = .ok (.putfield 40, 3) := by decide +kernel
theorem dX12_init_88 : decode cX12_init 88 = .ok (.aload_n 0, 1) := by decide +kernel
theorem dX12_init_89 : decode cX12_init 89 = .ok (.getfield 9, 3) := by decide +kernel
theorem dX12_init_92 : decode cX12_init 92 = .ok (.bipush 32, 2) := by decide +kernel
theorem dX12_init_94 : decode cX12_init 94 = .ok (.iconst (-1), 1) := by decide +kernel
theorem dX12_init_95 : decode cX12_init 95 = .ok (.iastore, 1) := by decide +kernel
theorem dX12_init_96 : decode cX12_init 96 = .ok (.return_, 1) := by decide +kernel
/-! RoadForMood(), RoadForMoodModel() -/
def zk_gModel (cI cZ : ClassId) (h : Nat) (u : List Nat) : va_W := (((((((((([(h, .inr (12, [.int 0, .ref (u.getD 0 0), .ref (u.getD 1 0), .ref (u.getD 2 0), .int 0, .int 0, .int 0, .int 0, .int 0, .int 0, .ref (u.getD 3 0), .ref (u.getD 4 0), .ref (u.getD 5 0), .ref (u.getD 6 0), .int 0, .ref (u.getD 7 0), .ref (u.getD 8 0), .ref (u.getD 9 0), .int 0, .int 0, .int 0, .int 0]))] ++ [(u.getD 0 0, .inl (cI, 933, .inl (upd (fun _ => 0) 32 (-1))))]) ++ [(u.getD 1 0, zk_ai cI 933)]) ++ [(u.getD 2 0, zk_ai cI 26)]) ++ [(u.getD 3 0, zk_ai cI 6)]) ++ [(u.getD 4 0, zk_ai cZ 64)]) ++ [(u.getD 5 0, zk_ai cI 3840)]) ++ [(u.getD 6 0, zk_ai cZ 3840)]) ++ [(u.getD 7 0, zk_ai cI 6)]) ++ [(u.getD 8 0, zk_ai cI 6)]) ++ [(u.getD 9 0, zk_ai cI 20)])
theorem zk_gWhole_l (cI : ClassId) (h : Nat) (u : List Nat) (pk kd : Nat) : zk_gWhole cI h u pk kd = zk_gWhole cI h [u.getD 0 0, u.getD 1 0, u.getD 2 0, u.getD 3 0, u.getD 4 0, u.getD 5 0, u.getD 6 0, u.getD 7 0, u.getD 8 0, u.getD 9 0, u.getD 10 0, u.getD 11 0, u.getD 12 0, u.getD 13 0, u.getD 14 0, u.getD 15 0, u.getD 16 0, u.getD 17 0, u.getD 18 0, u.getD 19 0, u.getD 20 0, u.getD 21 0, u.getD 22 0, u.getD 23 0, u.getD 24 0, u.getD 25 0] pk kd := rfl
theorem zk_gRing_l (cI : ClassId) (h : Nat) (u : List Nat) (pk kd : Nat) (mm : Int32) : zk_gRing cI h u pk kd mm = zk_gRing cI h [u.getD 0 0, u.getD 1 0, u.getD 2 0, u.getD 3 0, u.getD 4 0, u.getD 5 0, u.getD 6 0, u.getD 7 0, u.getD 8 0] pk kd mm := rfl
def zk_gClass (cI cQ : ClassId) (h : Nat) (a : List Nat) : va_W := ([(h, .inr (11, [.ref (a.getD 0 0), .ref (a.getD 4 0), .ref (a.getD 17 0), .ref (a.getD 21 0), .ref (a.getD 52 0), .ref (a.getD 79 0), .int 0, .int 0]))] ++ (zk_gRows cI (a.getD 0 0) 20 (a.getD 1 0) (a.getD 2 0) (a.getD 3 0) ++ ([((a.getD 4 0), .inl (cQ, 7, .inr (.inr (.inr (.inr (va_up (va_up (va_up (va_up (va_up (va_up (va_up (fun _ => none) 0 (some (a.getD 5 0))) 1 (some (a.getD 6 0))) 2 (some (a.getD 7 0))) 3 (some (a.getD 8 0))) 4 (some (a.getD 9 0))) 5 (some (a.getD 10 0))) 6 (some (a.getD 11 0))))))))] ++ ([((a.getD 5 0), .inr (9, [.ref (a.getD 0 0)]))] ++ ([((a.getD 6 0), .inr (1, [.ref (a.getD 0 0)]))] ++ ([((a.getD 7 0), .inr (7, [.ref (a.getD 0 0)]))] ++ ([((a.getD 8 0), .inr (0, [.ref (a.getD 0 0)]))] ++ ([((a.getD 9 0), .inr (6, [.ref (a.getD 0 0)]))] ++ ([((a.getD 10 0), .inr (3, [.ref (a.getD 0 0)]))] ++ ([((a.getD 11 0), .inr (8, [.ref (a.getD 0 0)]))] ++ ([((a.getD 12 0), zk_ai cI 3840)] ++ (zk_gPark cI (a.getD 13 0) (a.getD 14 0) (a.getD 15 0) (a.getD 16 0) (a.getD 12 0) ++ (zk_gPark cI (a.getD 17 0) (a.getD 18 0) (a.getD 19 0) (a.getD 20 0) (a.getD 12 0) ++ (zk_gWhole cI (a.getD 21 0) [(a.getD 22 0), (a.getD 23 0), (a.getD 24 0), (a.getD 25 0), (a.getD 26 0), (a.getD 27 0), (a.getD 28 0), (a.getD 29 0), (a.getD 30 0), (a.getD 31 0), (a.getD 32 0), (a.getD 33 0), (a.getD 34 0), (a.getD 35 0), (a.getD 36 0), (a.getD 37 0), (a.getD 38 0), (a.getD 39 0), (a.getD 40 0), (a.getD 41 0), (a.getD 42 0), (a.getD 43 0), (a.getD 44 0), (a.getD 45 0), (a.getD 46 0), (a.getD 47 0)] (a.getD 13 0) (a.getD 4 0) ++ (zk_gPark cI (a.getD 48 0) (a.getD 49 0) (a.getD 50 0) (a.getD 51 0) (a.getD 12 0) ++ (zk_gWhole cI (a.getD 52 0) [(a.getD 53 0), (a.getD 54 0), (a.getD 55 0), (a.getD 56 0), (a.getD 57 0), (a.getD 58 0), (a.getD 59 0), (a.getD 60 0), (a.getD 61 0), (a.getD 62 0), (a.getD 63 0), (a.getD 64 0), (a.getD 65 0), (a.getD 66 0), (a.getD 67 0), (a.getD 68 0), (a.getD 69 0), (a.getD 70 0), (a.getD 71 0), (a.getD 72 0), (a.getD 73 0), (a.getD 74 0), (a.getD 75 0), (a.getD 76 0), (a.getD 77 0), (a.getD 78 0)] (a.getD 48 0) (a.getD 4 0) ++ zk_gRing cI (a.getD 79 0) [(a.getD 80 0), (a.getD 81 0), (a.getD 82 0), (a.getD 83 0), (a.getD 84 0), (a.getD 85 0), (a.getD 86 0), (a.getD 87 0), (a.getD 88 0)] (a.getD 13 0) (a.getD 4 0) 2147483647))))))))))))))))
theorem zk_D_iff {A : Nat → Prop} {ws : va_W} : va_D A ws ↔ (ws.map Prod.fst).Nodup ∧ ∀ x ∈ ws, A x.1 := by
  constructor
  · intro h
    refine ⟨?_, fun x hx => ?_⟩
    · show List.Pairwise _ _
      rw [List.pairwise_iff_getElem]
      intro i j hi hj hij e
      rw [List.length_map] at hi hj
      rw [List.getElem_map, List.getElem_map] at e
      have := h.1 i j _ _ (List.getElem?_eq_getElem hi) (List.getElem?_eq_getElem hj) e
      omega
    · obtain ⟨i, hi⟩ := List.getElem?_of_mem hx
      exact h.2 i x hi
  · rintro ⟨h1, h2⟩
    refine ⟨fun i j p q hi hj e => ?_, fun k q hq => h2 q (List.mem_of_getElem? hq)⟩
    have h1 : List.Pairwise (fun a b => a ≠ b) (ws.map Prod.fst) := h1
    rw [List.pairwise_iff_getElem] at h1
    obtain ⟨hil, rfl⟩ := List.getElem?_eq_some_iff.mp hi
    obtain ⟨hjl, rfl⟩ := List.getElem?_eq_some_iff.mp hj
    rcases Nat.lt_trichotomy i j with g | g | g
    · exact absurd (by rw [List.getElem_map, List.getElem_map]; exact e) (h1 i j (by rw [List.length_map]; exact hil) (by rw [List.length_map]; exact hjl) g)
    · exact g
    · exact absurd (by rw [List.getElem_map, List.getElem_map]; exact e.symm) (h1 j i (by rw [List.length_map]; exact hjl) (by rw [List.length_map]; exact hil) g)
theorem zk_perm {A : Nat → Prop} {D : va_G} {ws ws' : va_W} {s : State} {H : Heap} {locs : List Loc} (h : zk_St A D ws s H locs) (hp : ws.Perm ws') : zk_St A D ws' s H locs := by
  obtain ⟨hP, hD, hS⟩ := h
  refine ⟨fun k q hq => ?_, ?_, hS⟩
  · obtain ⟨i, hi⟩ := List.getElem?_of_mem (hp.mem_iff.mpr (List.mem_of_getElem? hq))
    exact hP i q hi
  · rw [zk_D_iff] at hD ⊢
    exact ⟨(hp.map Prod.fst).nodup_iff.mp hD.1, fun x hx => hD.2 x (hp.mem_iff.mpr hx)⟩
theorem zk_swap (B w P : va_W) : ((B ++ w) ++ P).Perm ((B ++ P) ++ w) := by
  rw [List.append_assoc, List.append_assoc]
  exact List.Perm.append_left _ List.perm_append_comm
section ZC
variable {D : va_G} {cI cZ cQ : ClassId}
set_option maxHeartbeats 4000000 in
set_option maxRecDepth 100000 in
theorem zk_Class : zk_MC yX11_init cX11_init 5 5 89 5611 D (zk_t cI cZ cQ) 11 [.null, .null, .null, .null, .null, .null, .int 0, .int 0] [] (fun h0 u => zk_gClass cI cQ h0 u) := zk_met (by decide +kernel) rfl (fun _ => Nat.le_of_ble_eq_true rfl) fun l p e s m args below meth c A h0 ls Q C hname St hl fin => by
  generalize hH : s.heap = H at St ⊢
  generalize hlo : ([] : List Loc) = locs at St ⊢
  have hl : lv_has ls 5 [(0, .ref h0)] := hl
  refine lv_aload_n C.1 C.2.1 dX11_init_0 rfl (lv_at hl 0 rfl) ?_
  refine zk_obj C zq_91 hl.1 (Nat.le_of_ble_eq_true rfl) ⟨Nat.le_of_ble_eq_true rfl, Nat.le_of_ble_eq_true rfl⟩ dX11_init_1 ?_
  refine zk_newo (ci := 5) (fs := [.null, .null, .null, .int 0]) C St rfl zw_5 tyX5_ok zq_94 zq_95 zq_66 (fun j hj => by rcases (show j = 0 ∨ j = 1 ∨ j = 2 ∨ j = 3 by omega) with rfl | rfl | rfl | rfl <;> rfl) (Nat.le_of_ble_eq_true rfl) (Nat.le_of_ble_eq_true rfl) dX11_init_4 (fun q4 H St => ?_)
  have St : zk_St A D ([(h0, .inr (11, [.null, .null, .null, .null, .null, .null, .int 0, .int 0]))] ++ [(q4, .inr (5, [.null, .null, .null, .int 0]))]) s H locs := St
  refine W.widen (k := 1) (n := 4) (by decide) (by decide) ?_
  refine lv_dup C.1 C.2.1 dX11_init_7 rfl ?_
  refine lv_bipush (v := (nI 20)) C.1 C.2.1 dX11_init_8 (by decide) ?_
  refine zk_call (ws := [(h0, .inr (11, [.null, .null, .null, .null, .null, .null, .int 0, .int 0]))]) (q := q4) (As := [.int (nI 20)]) (rest := [.ref q4]) (n := 1) C (zk_Rows (cI := cI) (cZ := cZ) (cQ := cQ) 20 (by decide)) St zq_98 zq_66 zq_96 zq_97 rfl ⟨by decide, by decide, by decide +kernel⟩ rfl ⟨Nat.le_of_ble_eq_true rfl, Nat.le_of_ble_eq_true rfl⟩ hl.1 (Nat.le_of_ble_eq_true rfl) ⟨Nat.le_of_ble_eq_true rfl, Nat.le_of_ble_eq_true rfl⟩ dX11_init_10 (fun u10 H locs St => ?_)
  have St : zk_St A D ([(h0, .inr (11, [.null, .null, .null, .null, .null, .null, .int 0, .int 0]))] ++ zk_gRows cI q4 20 (u10.getD 0 0) (u10.getD 1 0) (u10.getD 2 0)) s H locs := St
  refine W.widen (k := 4) (n := 64) (by decide) (by decide) ?_
  refine lv_astore_n (lv' := [(1, .ref q4), (0, .ref h0)]) C.1 C.2.1 dX11_init_13 rfl hl (by decide) rfl (fun ls hl => ?_)
  refine lv_bipush (v := (nI 7)) C.1 C.2.1 dX11_init_14 (by decide) ?_
  refine zk_newq (N := 7) C St rfl (by decide) (Nat.le_of_ble_eq_true rfl) (Nat.le_of_ble_eq_true rfl) zq_123 dX11_init_16 (fun q16 H St => ?_)
  have St : zk_St A D (([(h0, .inr (11, [.null, .null, .null, .null, .null, .null, .int 0, .int 0]))] ++ zk_gRows cI q4 20 (u10.getD 0 0) (u10.getD 1 0) (u10.getD 2 0)) ++ [(q16, .inl (cQ, 7, .inr (.inr (.inr (.inr (fun _ => none))))))]) s H locs := St
  refine W.widen (k := 5) (n := 71) (by decide) (by decide) ?_
  refine lv_astore_n (lv' := [(2, .ref q16), (1, .ref q4), (0, .ref h0)]) C.1 C.2.1 dX11_init_19 rfl hl (by decide) rfl (fun ls hl => ?_)
  refine lv_aload_n C.1 C.2.1 dX11_init_20 rfl (lv_at hl 0 rfl) ?_
  refine lv_iconst (v := (nI 0)) C.1 C.2.1 dX11_init_21 (by decide) ?_
  refine zk_newo (ci := 9) (fs := [.null]) C St rfl zw_9 tyX9_ok zq_123 zq_125 zq_67 (fun j hj => by rcases (show j = 0 by omega) with rfl <;> rfl) (Nat.le_of_ble_eq_true rfl) (Nat.le_of_ble_eq_true rfl) dX11_init_22 (fun q22 H St => ?_)
  have St : zk_St A D ((([(h0, .inr (11, [.null, .null, .null, .null, .null, .null, .int 0, .int 0]))] ++ zk_gRows cI q4 20 (u10.getD 0 0) (u10.getD 1 0) (u10.getD 2 0)) ++ [(q16, .inl (cQ, 7, .inr (.inr (.inr (.inr (fun _ => none))))))]) ++ [(q22, .inr (9, [.null]))]) s H locs := St
  refine W.widen (k := 6) (n := 72) (by decide) (by decide) ?_
  refine lv_dup C.1 C.2.1 dX11_init_25 rfl ?_
  refine lv_aload_n C.1 C.2.1 dX11_init_26 rfl (lv_at hl 1 rfl) ?_
  refine zk_call (ws := (([(h0, .inr (11, [.null, .null, .null, .null, .null, .null, .int 0, .int 0]))] ++ zk_gRows cI q4 20 (u10.getD 0 0) (u10.getD 1 0) (u10.getD 2 0)) ++ [(q16, .inl (cQ, 7, .inr (.inr (.inr (.inr (fun _ => none))))))])) (q := q22) (As := [.ref q4]) (rest := [.ref q22, .int (nI 0), .ref q16]) (n := 1) C (zk_Walker (cI := cI) (cZ := cZ) (cQ := cQ) (ci := 9) (T := TX9) (ty0 := tyX9) rfl zw_9 tyX9_ok nmX9 rfl q4) St zq_128 zq_67 zq_126 zq_127 rfl ⟨by decide, by decide, by decide +kernel⟩ rfl ⟨Nat.le_of_ble_eq_true rfl, Nat.le_of_ble_eq_true rfl⟩ hl.1 (Nat.le_of_ble_eq_true rfl) ⟨Nat.le_of_ble_eq_true rfl, Nat.le_of_ble_eq_true rfl⟩ dX11_init_27 (fun u27 H locs St => ?_)
  have St : zk_St A D ((([(h0, .inr (11, [.null, .null, .null, .null, .null, .null, .int 0, .int 0]))] ++ zk_gRows cI q4 20 (u10.getD 0 0) (u10.getD 1 0) (u10.getD 2 0)) ++ [(q16, .inl (cQ, 7, .inr (.inr (.inr (.inr (fun _ => none))))))]) ++ [(q22, .inr (9, [.ref q4]))]) s H locs := St
  refine W.widen (k := 6) (n := 72) (by decide) (by decide) ?_
  refine zk_aast (q0 := 5) (qk := 6) (ci := 9) (j := 0) C St rfl rfl rfl (Or.inl rfl) (by decide) (by decide) dX11_init_30 (fun H locs St => ?_)
  have St : zk_St A D ((([(h0, .inr (11, [.null, .null, .null, .null, .null, .null, .int 0, .int 0]))] ++ zk_gRows cI q4 20 (u10.getD 0 0) (u10.getD 1 0) (u10.getD 2 0)) ++ [(q16, .inl (cQ, 7, .inr (.inr (.inr (.inr (va_up (fun _ => none) 0 (some q22)))))))]) ++ [(q22, .inr (9, [.ref q4]))]) s H locs := St
  refine lv_aload_n C.1 C.2.1 dX11_init_31 rfl (lv_at hl 0 rfl) ?_
  refine lv_iconst (v := (nI 1)) C.1 C.2.1 dX11_init_32 (by decide) ?_
  refine zk_newo (ci := 1) (fs := [.null]) C St rfl zw_1 tyX1_ok zq_134 zq_135 zq_68 (fun j hj => by rcases (show j = 0 by omega) with rfl <;> rfl) (Nat.le_of_ble_eq_true rfl) (Nat.le_of_ble_eq_true rfl) dX11_init_33 (fun q33 H St => ?_)
  have St : zk_St A D (((([(h0, .inr (11, [.null, .null, .null, .null, .null, .null, .int 0, .int 0]))] ++ zk_gRows cI q4 20 (u10.getD 0 0) (u10.getD 1 0) (u10.getD 2 0)) ++ [(q16, .inl (cQ, 7, .inr (.inr (.inr (.inr (va_up (fun _ => none) 0 (some q22)))))))]) ++ [(q22, .inr (9, [.ref q4]))]) ++ [(q33, .inr (1, [.null]))]) s H locs := St
  refine W.widen (k := 7) (n := 73) (by decide) (by decide) ?_
  refine lv_dup C.1 C.2.1 dX11_init_36 rfl ?_
  refine lv_aload_n C.1 C.2.1 dX11_init_37 rfl (lv_at hl 1 rfl) ?_
  refine zk_call (ws := ((([(h0, .inr (11, [.null, .null, .null, .null, .null, .null, .int 0, .int 0]))] ++ zk_gRows cI q4 20 (u10.getD 0 0) (u10.getD 1 0) (u10.getD 2 0)) ++ [(q16, .inl (cQ, 7, .inr (.inr (.inr (.inr (va_up (fun _ => none) 0 (some q22)))))))]) ++ [(q22, .inr (9, [.ref q4]))])) (q := q33) (As := [.ref q4]) (rest := [.ref q33, .int (nI 1), .ref q16]) (n := 1) C (zk_Lover (cI := cI) (cZ := cZ) (cQ := cQ) (ci := 1) (T := TX1) (ty0 := tyX1) rfl zw_1 tyX1_ok nmX1 rfl q4) St zq_138 zq_68 zq_136 zq_137 rfl ⟨by decide, by decide, by decide +kernel⟩ rfl ⟨Nat.le_of_ble_eq_true rfl, Nat.le_of_ble_eq_true rfl⟩ hl.1 (Nat.le_of_ble_eq_true rfl) ⟨Nat.le_of_ble_eq_true rfl, Nat.le_of_ble_eq_true rfl⟩ dX11_init_38 (fun u38 H locs St => ?_)
  have St : zk_St A D (((([(h0, .inr (11, [.null, .null, .null, .null, .null, .null, .int 0, .int 0]))] ++ zk_gRows cI q4 20 (u10.getD 0 0) (u10.getD 1 0) (u10.getD 2 0)) ++ [(q16, .inl (cQ, 7, .inr (.inr (.inr (.inr (va_up (fun _ => none) 0 (some q22)))))))]) ++ [(q22, .inr (9, [.ref q4]))]) ++ [(q33, .inr (1, [.ref q4]))]) s H locs := St
  refine W.widen (k := 7) (n := 73) (by decide) (by decide) ?_
  refine zk_aast (q0 := 5) (qk := 7) (ci := 1) (j := 1) C St rfl rfl rfl (Or.inr (by decide)) (by decide) (by decide) dX11_init_41 (fun H locs St => ?_)
  have St : zk_St A D (((([(h0, .inr (11, [.null, .null, .null, .null, .null, .null, .int 0, .int 0]))] ++ zk_gRows cI q4 20 (u10.getD 0 0) (u10.getD 1 0) (u10.getD 2 0)) ++ [(q16, .inl (cQ, 7, .inr (.inr (.inr (.inr (va_up (va_up (fun _ => none) 0 (some q22)) 1 (some q33)))))))]) ++ [(q22, .inr (9, [.ref q4]))]) ++ [(q33, .inr (1, [.ref q4]))]) s H locs := St
  refine lv_aload_n C.1 C.2.1 dX11_init_42 rfl (lv_at hl 0 rfl) ?_
  refine lv_iconst (v := (nI 2)) C.1 C.2.1 dX11_init_43 (by decide) ?_
  refine zk_newo (ci := 7) (fs := [.null]) C St rfl zw_7 tyX7_ok zq_142 zq_143 zq_69 (fun j hj => by rcases (show j = 0 by omega) with rfl <;> rfl) (Nat.le_of_ble_eq_true rfl) (Nat.le_of_ble_eq_true rfl) dX11_init_44 (fun q44 H St => ?_)
  have St : zk_St A D ((((([(h0, .inr (11, [.null, .null, .null, .null, .null, .null, .int 0, .int 0]))] ++ zk_gRows cI q4 20 (u10.getD 0 0) (u10.getD 1 0) (u10.getD 2 0)) ++ [(q16, .inl (cQ, 7, .inr (.inr (.inr (.inr (va_up (va_up (fun _ => none) 0 (some q22)) 1 (some q33)))))))]) ++ [(q22, .inr (9, [.ref q4]))]) ++ [(q33, .inr (1, [.ref q4]))]) ++ [(q44, .inr (7, [.null]))]) s H locs := St
  refine W.widen (k := 8) (n := 74) (by decide) (by decide) ?_
  refine lv_dup C.1 C.2.1 dX11_init_47 rfl ?_
  refine lv_aload_n C.1 C.2.1 dX11_init_48 rfl (lv_at hl 1 rfl) ?_
  refine zk_call (ws := (((([(h0, .inr (11, [.null, .null, .null, .null, .null, .null, .int 0, .int 0]))] ++ zk_gRows cI q4 20 (u10.getD 0 0) (u10.getD 1 0) (u10.getD 2 0)) ++ [(q16, .inl (cQ, 7, .inr (.inr (.inr (.inr (va_up (va_up (fun _ => none) 0 (some q22)) 1 (some q33)))))))]) ++ [(q22, .inr (9, [.ref q4]))]) ++ [(q33, .inr (1, [.ref q4]))])) (q := q44) (As := [.ref q4]) (rest := [.ref q44, .int (nI 2), .ref q16]) (n := 1) C (zk_Stout (cI := cI) (cZ := cZ) (cQ := cQ) (ci := 7) (T := TX7) (ty0 := tyX7) rfl zw_7 tyX7_ok nmX7 rfl q4) St zq_146 zq_69 zq_144 zq_145 rfl ⟨by decide, by decide, by decide +kernel⟩ rfl ⟨Nat.le_of_ble_eq_true rfl, Nat.le_of_ble_eq_true rfl⟩ hl.1 (Nat.le_of_ble_eq_true rfl) ⟨Nat.le_of_ble_eq_true rfl, Nat.le_of_ble_eq_true rfl⟩ dX11_init_49 (fun u49 H locs St => ?_)
  have St : zk_St A D ((((([(h0, .inr (11, [.null, .null, .null, .null, .null, .null, .int 0, .int 0]))] ++ zk_gRows cI q4 20 (u10.getD 0 0) (u10.getD 1 0) (u10.getD 2 0)) ++ [(q16, .inl (cQ, 7, .inr (.inr (.inr (.inr (va_up (va_up (fun _ => none) 0 (some q22)) 1 (some q33)))))))]) ++ [(q22, .inr (9, [.ref q4]))]) ++ [(q33, .inr (1, [.ref q4]))]) ++ [(q44, .inr (7, [.ref q4]))]) s H locs := St
  refine W.widen (k := 8) (n := 74) (by decide) (by decide) ?_
  refine zk_aast (q0 := 5) (qk := 8) (ci := 7) (j := 2) C St rfl rfl rfl (Or.inr (by decide)) (by decide) (by decide) dX11_init_52 (fun H locs St => ?_)
  have St : zk_St A D ((((([(h0, .inr (11, [.null, .null, .null, .null, .null, .null, .int 0, .int 0]))] ++ zk_gRows cI q4 20 (u10.getD 0 0) (u10.getD 1 0) (u10.getD 2 0)) ++ [(q16, .inl (cQ, 7, .inr (.inr (.inr (.inr (va_up (va_up (va_up (fun _ => none) 0 (some q22)) 1 (some q33)) 2 (some q44)))))))]) ++ [(q22, .inr (9, [.ref q4]))]) ++ [(q33, .inr (1, [.ref q4]))]) ++ [(q44, .inr (7, [.ref q4]))]) s H locs := St
  refine lv_aload_n C.1 C.2.1 dX11_init_53 rfl (lv_at hl 0 rfl) ?_
  refine lv_iconst (v := (nI 3)) C.1 C.2.1 dX11_init_54 (by decide) ?_
  refine zk_newo (ci := 0) (fs := [.null]) C St rfl zw_0 tyX0_ok zq_150 zq_151 zq_70 (fun j hj => by rcases (show j = 0 by omega) with rfl <;> rfl) (Nat.le_of_ble_eq_true rfl) (Nat.le_of_ble_eq_true rfl) dX11_init_55 (fun q55 H St => ?_)
  have St : zk_St A D (((((([(h0, .inr (11, [.null, .null, .null, .null, .null, .null, .int 0, .int 0]))] ++ zk_gRows cI q4 20 (u10.getD 0 0) (u10.getD 1 0) (u10.getD 2 0)) ++ [(q16, .inl (cQ, 7, .inr (.inr (.inr (.inr (va_up (va_up (va_up (fun _ => none) 0 (some q22)) 1 (some q33)) 2 (some q44)))))))]) ++ [(q22, .inr (9, [.ref q4]))]) ++ [(q33, .inr (1, [.ref q4]))]) ++ [(q44, .inr (7, [.ref q4]))]) ++ [(q55, .inr (0, [.null]))]) s H locs := St
  refine W.widen (k := 9) (n := 75) (by decide) (by decide) ?_
  refine lv_dup C.1 C.2.1 dX11_init_58 rfl ?_
  refine lv_aload_n C.1 C.2.1 dX11_init_59 rfl (lv_at hl 1 rfl) ?_
  refine zk_call (ws := ((((([(h0, .inr (11, [.null, .null, .null, .null, .null, .null, .int 0, .int 0]))] ++ zk_gRows cI q4 20 (u10.getD 0 0) (u10.getD 1 0) (u10.getD 2 0)) ++ [(q16, .inl (cQ, 7, .inr (.inr (.inr (.inr (va_up (va_up (va_up (fun _ => none) 0 (some q22)) 1 (some q33)) 2 (some q44)))))))]) ++ [(q22, .inr (9, [.ref q4]))]) ++ [(q33, .inr (1, [.ref q4]))]) ++ [(q44, .inr (7, [.ref q4]))])) (q := q55) (As := [.ref q4]) (rest := [.ref q55, .int (nI 3), .ref q16]) (n := 1) C (zk_Drunk (cI := cI) (cZ := cZ) (cQ := cQ) (ci := 0) (T := TX0) (ty0 := tyX0) rfl zw_0 tyX0_ok nmX0 rfl q4) St zq_154 zq_70 zq_152 zq_153 rfl ⟨by decide, by decide, by decide +kernel⟩ rfl ⟨Nat.le_of_ble_eq_true rfl, Nat.le_of_ble_eq_true rfl⟩ hl.1 (Nat.le_of_ble_eq_true rfl) ⟨Nat.le_of_ble_eq_true rfl, Nat.le_of_ble_eq_true rfl⟩ dX11_init_60 (fun u60 H locs St => ?_)
  have St : zk_St A D (((((([(h0, .inr (11, [.null, .null, .null, .null, .null, .null, .int 0, .int 0]))] ++ zk_gRows cI q4 20 (u10.getD 0 0) (u10.getD 1 0) (u10.getD 2 0)) ++ [(q16, .inl (cQ, 7, .inr (.inr (.inr (.inr (va_up (va_up (va_up (fun _ => none) 0 (some q22)) 1 (some q33)) 2 (some q44)))))))]) ++ [(q22, .inr (9, [.ref q4]))]) ++ [(q33, .inr (1, [.ref q4]))]) ++ [(q44, .inr (7, [.ref q4]))]) ++ [(q55, .inr (0, [.ref q4]))]) s H locs := St
  refine W.widen (k := 9) (n := 75) (by decide) (by decide) ?_
  refine zk_aast (q0 := 5) (qk := 9) (ci := 0) (j := 3) C St rfl rfl rfl (Or.inr (by decide)) (by decide) (by decide) dX11_init_63 (fun H locs St => ?_)
  have St : zk_St A D (((((([(h0, .inr (11, [.null, .null, .null, .null, .null, .null, .int 0, .int 0]))] ++ zk_gRows cI q4 20 (u10.getD 0 0) (u10.getD 1 0) (u10.getD 2 0)) ++ [(q16, .inl (cQ, 7, .inr (.inr (.inr (.inr (va_up (va_up (va_up (va_up (fun _ => none) 0 (some q22)) 1 (some q33)) 2 (some q44)) 3 (some q55)))))))]) ++ [(q22, .inr (9, [.ref q4]))]) ++ [(q33, .inr (1, [.ref q4]))]) ++ [(q44, .inr (7, [.ref q4]))]) ++ [(q55, .inr (0, [.ref q4]))]) s H locs := St
  refine lv_aload_n C.1 C.2.1 dX11_init_64 rfl (lv_at hl 0 rfl) ?_
  refine lv_iconst (v := (nI 4)) C.1 C.2.1 dX11_init_65 (by decide) ?_
  refine zk_newo (ci := 6) (fs := [.null]) C St rfl zw_6 tyX6_ok zq_158 zq_159 zq_71 (fun j hj => by rcases (show j = 0 by omega) with rfl <;> rfl) (Nat.le_of_ble_eq_true rfl) (Nat.le_of_ble_eq_true rfl) dX11_init_66 (fun q66 H St => ?_)
  have St : zk_St A D ((((((([(h0, .inr (11, [.null, .null, .null, .null, .null, .null, .int 0, .int 0]))] ++ zk_gRows cI q4 20 (u10.getD 0 0) (u10.getD 1 0) (u10.getD 2 0)) ++ [(q16, .inl (cQ, 7, .inr (.inr (.inr (.inr (va_up (va_up (va_up (va_up (fun _ => none) 0 (some q22)) 1 (some q33)) 2 (some q44)) 3 (some q55)))))))]) ++ [(q22, .inr (9, [.ref q4]))]) ++ [(q33, .inr (1, [.ref q4]))]) ++ [(q44, .inr (7, [.ref q4]))]) ++ [(q55, .inr (0, [.ref q4]))]) ++ [(q66, .inr (6, [.null]))]) s H locs := St
  refine W.widen (k := 10) (n := 76) (by decide) (by decide) ?_
  refine lv_dup C.1 C.2.1 dX11_init_69 rfl ?_
  refine lv_aload_n C.1 C.2.1 dX11_init_70 rfl (lv_at hl 1 rfl) ?_
  refine zk_call (ws := (((((([(h0, .inr (11, [.null, .null, .null, .null, .null, .null, .int 0, .int 0]))] ++ zk_gRows cI q4 20 (u10.getD 0 0) (u10.getD 1 0) (u10.getD 2 0)) ++ [(q16, .inl (cQ, 7, .inr (.inr (.inr (.inr (va_up (va_up (va_up (va_up (fun _ => none) 0 (some q22)) 1 (some q33)) 2 (some q44)) 3 (some q55)))))))]) ++ [(q22, .inr (9, [.ref q4]))]) ++ [(q33, .inr (1, [.ref q4]))]) ++ [(q44, .inr (7, [.ref q4]))]) ++ [(q55, .inr (0, [.ref q4]))])) (q := q66) (As := [.ref q4]) (rest := [.ref q66, .int (nI 4), .ref q16]) (n := 1) C (zk_Shy (cI := cI) (cZ := cZ) (cQ := cQ) (ci := 6) (T := TX6) (ty0 := tyX6) rfl zw_6 tyX6_ok nmX6 rfl q4) St zq_162 zq_71 zq_160 zq_161 rfl ⟨by decide, by decide, by decide +kernel⟩ rfl ⟨Nat.le_of_ble_eq_true rfl, Nat.le_of_ble_eq_true rfl⟩ hl.1 (Nat.le_of_ble_eq_true rfl) ⟨Nat.le_of_ble_eq_true rfl, Nat.le_of_ble_eq_true rfl⟩ dX11_init_71 (fun u71 H locs St => ?_)
  have St : zk_St A D ((((((([(h0, .inr (11, [.null, .null, .null, .null, .null, .null, .int 0, .int 0]))] ++ zk_gRows cI q4 20 (u10.getD 0 0) (u10.getD 1 0) (u10.getD 2 0)) ++ [(q16, .inl (cQ, 7, .inr (.inr (.inr (.inr (va_up (va_up (va_up (va_up (fun _ => none) 0 (some q22)) 1 (some q33)) 2 (some q44)) 3 (some q55)))))))]) ++ [(q22, .inr (9, [.ref q4]))]) ++ [(q33, .inr (1, [.ref q4]))]) ++ [(q44, .inr (7, [.ref q4]))]) ++ [(q55, .inr (0, [.ref q4]))]) ++ [(q66, .inr (6, [.ref q4]))]) s H locs := St
  refine W.widen (k := 10) (n := 76) (by decide) (by decide) ?_
  refine zk_aast (q0 := 5) (qk := 10) (ci := 6) (j := 4) C St rfl rfl rfl (Or.inr (by decide)) (by decide) (by decide) dX11_init_74 (fun H locs St => ?_)
  have St : zk_St A D ((((((([(h0, .inr (11, [.null, .null, .null, .null, .null, .null, .int 0, .int 0]))] ++ zk_gRows cI q4 20 (u10.getD 0 0) (u10.getD 1 0) (u10.getD 2 0)) ++ [(q16, .inl (cQ, 7, .inr (.inr (.inr (.inr (va_up (va_up (va_up (va_up (va_up (fun _ => none) 0 (some q22)) 1 (some q33)) 2 (some q44)) 3 (some q55)) 4 (some q66)))))))]) ++ [(q22, .inr (9, [.ref q4]))]) ++ [(q33, .inr (1, [.ref q4]))]) ++ [(q44, .inr (7, [.ref q4]))]) ++ [(q55, .inr (0, [.ref q4]))]) ++ [(q66, .inr (6, [.ref q4]))]) s H locs := St
  refine lv_aload_n C.1 C.2.1 dX11_init_75 rfl (lv_at hl 0 rfl) ?_
  refine lv_iconst (v := (nI 5)) C.1 C.2.1 dX11_init_76 (by decide) ?_
  refine zk_newo (ci := 3) (fs := [.null]) C St rfl zw_3 tyX3_ok zq_166 zq_167 zq_72 (fun j hj => by rcases (show j = 0 by omega) with rfl <;> rfl) (Nat.le_of_ble_eq_true rfl) (Nat.le_of_ble_eq_true rfl) dX11_init_77 (fun q77 H St => ?_)
  have St : zk_St A D (((((((([(h0, .inr (11, [.null, .null, .null, .null, .null, .null, .int 0, .int 0]))] ++ zk_gRows cI q4 20 (u10.getD 0 0) (u10.getD 1 0) (u10.getD 2 0)) ++ [(q16, .inl (cQ, 7, .inr (.inr (.inr (.inr (va_up (va_up (va_up (va_up (va_up (fun _ => none) 0 (some q22)) 1 (some q33)) 2 (some q44)) 3 (some q55)) 4 (some q66)))))))]) ++ [(q22, .inr (9, [.ref q4]))]) ++ [(q33, .inr (1, [.ref q4]))]) ++ [(q44, .inr (7, [.ref q4]))]) ++ [(q55, .inr (0, [.ref q4]))]) ++ [(q66, .inr (6, [.ref q4]))]) ++ [(q77, .inr (3, [.null]))]) s H locs := St
  refine W.widen (k := 11) (n := 77) (by decide) (by decide) ?_
  refine lv_dup C.1 C.2.1 dX11_init_80 rfl ?_
  refine lv_aload_n C.1 C.2.1 dX11_init_81 rfl (lv_at hl 1 rfl) ?_
  refine zk_call (ws := ((((((([(h0, .inr (11, [.null, .null, .null, .null, .null, .null, .int 0, .int 0]))] ++ zk_gRows cI q4 20 (u10.getD 0 0) (u10.getD 1 0) (u10.getD 2 0)) ++ [(q16, .inl (cQ, 7, .inr (.inr (.inr (.inr (va_up (va_up (va_up (va_up (va_up (fun _ => none) 0 (some q22)) 1 (some q33)) 2 (some q44)) 3 (some q55)) 4 (some q66)))))))]) ++ [(q22, .inr (9, [.ref q4]))]) ++ [(q33, .inr (1, [.ref q4]))]) ++ [(q44, .inr (7, [.ref q4]))]) ++ [(q55, .inr (0, [.ref q4]))]) ++ [(q66, .inr (6, [.ref q4]))])) (q := q77) (As := [.ref q4]) (rest := [.ref q77, .int (nI 5), .ref q16]) (n := 1) C (zk_Proud (cI := cI) (cZ := cZ) (cQ := cQ) (ci := 3) (T := TX3) (ty0 := tyX3) rfl zw_3 tyX3_ok nmX3 rfl q4) St zq_170 zq_72 zq_168 zq_169 rfl ⟨by decide, by decide, by decide +kernel⟩ rfl ⟨Nat.le_of_ble_eq_true rfl, Nat.le_of_ble_eq_true rfl⟩ hl.1 (Nat.le_of_ble_eq_true rfl) ⟨Nat.le_of_ble_eq_true rfl, Nat.le_of_ble_eq_true rfl⟩ dX11_init_82 (fun u82 H locs St => ?_)
  have St : zk_St A D (((((((([(h0, .inr (11, [.null, .null, .null, .null, .null, .null, .int 0, .int 0]))] ++ zk_gRows cI q4 20 (u10.getD 0 0) (u10.getD 1 0) (u10.getD 2 0)) ++ [(q16, .inl (cQ, 7, .inr (.inr (.inr (.inr (va_up (va_up (va_up (va_up (va_up (fun _ => none) 0 (some q22)) 1 (some q33)) 2 (some q44)) 3 (some q55)) 4 (some q66)))))))]) ++ [(q22, .inr (9, [.ref q4]))]) ++ [(q33, .inr (1, [.ref q4]))]) ++ [(q44, .inr (7, [.ref q4]))]) ++ [(q55, .inr (0, [.ref q4]))]) ++ [(q66, .inr (6, [.ref q4]))]) ++ [(q77, .inr (3, [.ref q4]))]) s H locs := St
  refine W.widen (k := 11) (n := 77) (by decide) (by decide) ?_
  refine zk_aast (q0 := 5) (qk := 11) (ci := 3) (j := 5) C St rfl rfl rfl (Or.inr (by decide)) (by decide) (by decide) dX11_init_85 (fun H locs St => ?_)
  have St : zk_St A D (((((((([(h0, .inr (11, [.null, .null, .null, .null, .null, .null, .int 0, .int 0]))] ++ zk_gRows cI q4 20 (u10.getD 0 0) (u10.getD 1 0) (u10.getD 2 0)) ++ [(q16, .inl (cQ, 7, .inr (.inr (.inr (.inr (va_up (va_up (va_up (va_up (va_up (va_up (fun _ => none) 0 (some q22)) 1 (some q33)) 2 (some q44)) 3 (some q55)) 4 (some q66)) 5 (some q77)))))))]) ++ [(q22, .inr (9, [.ref q4]))]) ++ [(q33, .inr (1, [.ref q4]))]) ++ [(q44, .inr (7, [.ref q4]))]) ++ [(q55, .inr (0, [.ref q4]))]) ++ [(q66, .inr (6, [.ref q4]))]) ++ [(q77, .inr (3, [.ref q4]))]) s H locs := St
  refine lv_aload_n C.1 C.2.1 dX11_init_86 rfl (lv_at hl 0 rfl) ?_
  refine lv_bipush (v := (nI 6)) C.1 C.2.1 dX11_init_87 (by decide) ?_
  refine zk_newo (ci := 8) (fs := [.null]) C St rfl zw_8 tyX8_ok zq_174 zq_175 zq_73 (fun j hj => by rcases (show j = 0 by omega) with rfl <;> rfl) (Nat.le_of_ble_eq_true rfl) (Nat.le_of_ble_eq_true rfl) dX11_init_89 (fun q89 H St => ?_)
  have St : zk_St A D ((((((((([(h0, .inr (11, [.null, .null, .null, .null, .null, .null, .int 0, .int 0]))] ++ zk_gRows cI q4 20 (u10.getD 0 0) (u10.getD 1 0) (u10.getD 2 0)) ++ [(q16, .inl (cQ, 7, .inr (.inr (.inr (.inr (va_up (va_up (va_up (va_up (va_up (va_up (fun _ => none) 0 (some q22)) 1 (some q33)) 2 (some q44)) 3 (some q55)) 4 (some q66)) 5 (some q77)))))))]) ++ [(q22, .inr (9, [.ref q4]))]) ++ [(q33, .inr (1, [.ref q4]))]) ++ [(q44, .inr (7, [.ref q4]))]) ++ [(q55, .inr (0, [.ref q4]))]) ++ [(q66, .inr (6, [.ref q4]))]) ++ [(q77, .inr (3, [.ref q4]))]) ++ [(q89, .inr (8, [.null]))]) s H locs := St
  refine W.widen (k := 12) (n := 78) (by decide) (by decide) ?_
  refine lv_dup C.1 C.2.1 dX11_init_92 rfl ?_
  refine lv_aload_n C.1 C.2.1 dX11_init_93 rfl (lv_at hl 1 rfl) ?_
  refine zk_call (ws := (((((((([(h0, .inr (11, [.null, .null, .null, .null, .null, .null, .int 0, .int 0]))] ++ zk_gRows cI q4 20 (u10.getD 0 0) (u10.getD 1 0) (u10.getD 2 0)) ++ [(q16, .inl (cQ, 7, .inr (.inr (.inr (.inr (va_up (va_up (va_up (va_up (va_up (va_up (fun _ => none) 0 (some q22)) 1 (some q33)) 2 (some q44)) 3 (some q55)) 4 (some q66)) 5 (some q77)))))))]) ++ [(q22, .inr (9, [.ref q4]))]) ++ [(q33, .inr (1, [.ref q4]))]) ++ [(q44, .inr (7, [.ref q4]))]) ++ [(q55, .inr (0, [.ref q4]))]) ++ [(q66, .inr (6, [.ref q4]))]) ++ [(q77, .inr (3, [.ref q4]))])) (q := q89) (As := [.ref q4]) (rest := [.ref q89, .int (nI 6), .ref q16]) (n := 1) C (zk_Told (cI := cI) (cZ := cZ) (cQ := cQ) (ci := 8) (T := TX8) (ty0 := tyX8) rfl zw_8 tyX8_ok nmX8 rfl q4) St zq_178 zq_73 zq_176 zq_177 rfl ⟨by decide, by decide, by decide +kernel⟩ rfl ⟨Nat.le_of_ble_eq_true rfl, Nat.le_of_ble_eq_true rfl⟩ hl.1 (Nat.le_of_ble_eq_true rfl) ⟨Nat.le_of_ble_eq_true rfl, Nat.le_of_ble_eq_true rfl⟩ dX11_init_94 (fun u94 H locs St => ?_)
  have St : zk_St A D ((((((((([(h0, .inr (11, [.null, .null, .null, .null, .null, .null, .int 0, .int 0]))] ++ zk_gRows cI q4 20 (u10.getD 0 0) (u10.getD 1 0) (u10.getD 2 0)) ++ [(q16, .inl (cQ, 7, .inr (.inr (.inr (.inr (va_up (va_up (va_up (va_up (va_up (va_up (fun _ => none) 0 (some q22)) 1 (some q33)) 2 (some q44)) 3 (some q55)) 4 (some q66)) 5 (some q77)))))))]) ++ [(q22, .inr (9, [.ref q4]))]) ++ [(q33, .inr (1, [.ref q4]))]) ++ [(q44, .inr (7, [.ref q4]))]) ++ [(q55, .inr (0, [.ref q4]))]) ++ [(q66, .inr (6, [.ref q4]))]) ++ [(q77, .inr (3, [.ref q4]))]) ++ [(q89, .inr (8, [.ref q4]))]) s H locs := St
  refine W.widen (k := 12) (n := 78) (by decide) (by decide) ?_
  refine zk_aast (q0 := 5) (qk := 12) (ci := 8) (j := 6) C St rfl rfl rfl (Or.inr (by decide)) (by decide) (by decide) dX11_init_97 (fun H locs St => ?_)
  have St : zk_St A D ((((((((([(h0, .inr (11, [.null, .null, .null, .null, .null, .null, .int 0, .int 0]))] ++ zk_gRows cI q4 20 (u10.getD 0 0) (u10.getD 1 0) (u10.getD 2 0)) ++ [(q16, .inl (cQ, 7, .inr (.inr (.inr (.inr (va_up (va_up (va_up (va_up (va_up (va_up (va_up (fun _ => none) 0 (some q22)) 1 (some q33)) 2 (some q44)) 3 (some q55)) 4 (some q66)) 5 (some q77)) 6 (some q89)))))))]) ++ [(q22, .inr (9, [.ref q4]))]) ++ [(q33, .inr (1, [.ref q4]))]) ++ [(q44, .inr (7, [.ref q4]))]) ++ [(q55, .inr (0, [.ref q4]))]) ++ [(q66, .inr (6, [.ref q4]))]) ++ [(q77, .inr (3, [.ref q4]))]) ++ [(q89, .inr (8, [.ref q4]))]) s H locs := St
  obtain ⟨X98, hX98⟩ : ∃ X : va_W, (zk_gRows cI q4 20 (u10.getD 0 0) (u10.getD 1 0) (u10.getD 2 0) ++ ([(q16, .inl (cQ, 7, .inr (.inr (.inr (.inr (va_up (va_up (va_up (va_up (va_up (va_up (va_up (fun _ => none) 0 (some q22)) 1 (some q33)) 2 (some q44)) 3 (some q55)) 4 (some q66)) 5 (some q77)) 6 (some q89)))))))] ++ ([(q22, .inr (9, [.ref q4]))] ++ ([(q33, .inr (1, [.ref q4]))] ++ ([(q44, .inr (7, [.ref q4]))] ++ ([(q55, .inr (0, [.ref q4]))] ++ ([(q66, .inr (6, [.ref q4]))] ++ ([(q77, .inr (3, [.ref q4]))] ++ [(q89, .inr (8, [.ref q4]))])))))))) = X := ⟨_, rfl⟩
  have St : zk_St A D ([(h0, .inr (11, [.null, .null, .null, .null, .null, .null, .int 0, .int 0]))] ++ X98) s H locs := by rw [← hX98]; simpa only [List.append_assoc] using St
  refine lv_sipush (v := (nI 3840)) C.1 C.2.1 dX11_init_98 (by decide) ?_
  refine zk_newi (N := 3840) C St rfl (by first | decide | omega) (by first | exact Nat.le_of_ble_eq_true rfl | (simp only [zk_rm]; omega)) (by first | exact Nat.le_of_ble_eq_true rfl | (simp only [zk_rm]; omega)) dX11_init_101 (fun q101 H St => ?_)
  have St : zk_St A D (([(h0, .inr (11, [.null, .null, .null, .null, .null, .null, .int 0, .int 0]))] ++ X98) ++ [(q101, zk_ai cI 3840)]) s H locs := St
  refine W.widen (k := 13) (n := 3918) (by first | decide | omega) (by first | decide | omega) ?_
  refine lv_astore_n (lv' := [(3, .ref q101), (2, .ref q16), (1, .ref q4), (0, .ref h0)]) C.1 C.2.1 dX11_init_103 rfl hl (by decide) rfl (fun ls hl => ?_)
  refine zk_newo (ci := 2) (fs := [.int 0, .int 0, .int 0, .null, .null, .null, .null, .int 0, .null, .int 0, .int 0]) C St rfl zw_2 tyX2_ok zq_182 zq_183 zq_74 (fun j hj => by rcases (show j = 0 ∨ j = 1 ∨ j = 2 ∨ j = 3 ∨ j = 4 ∨ j = 5 ∨ j = 6 ∨ j = 7 ∨ j = 8 ∨ j = 9 ∨ j = 10 by omega) with rfl | rfl | rfl | rfl | rfl | rfl | rfl | rfl | rfl | rfl | rfl <;> rfl) (Nat.le_of_ble_eq_true rfl) (Nat.le_of_ble_eq_true rfl) dX11_init_104 (fun q104 H St => ?_)
  have St : zk_St A D ((([(h0, .inr (11, [.null, .null, .null, .null, .null, .null, .int 0, .int 0]))] ++ X98) ++ [(q101, zk_ai cI 3840)]) ++ [(q104, .inr (2, [.int 0, .int 0, .int 0, .null, .null, .null, .null, .int 0, .null, .int 0, .int 0]))]) s H locs := St
  refine W.widen (k := 14) (n := 3929) (by decide) (by decide) ?_
  refine lv_dup C.1 C.2.1 dX11_init_107 rfl ?_
  refine lv_aload_n C.1 C.2.1 dX11_init_108 rfl (lv_at hl 0 rfl) ?_
  refine zk_call (ws := (([(h0, .inr (11, [.null, .null, .null, .null, .null, .null, .int 0, .int 0]))] ++ X98) ++ [(q101, zk_ai cI 3840)])) (q := q104) (As := [.ref q101]) (rest := [.ref q104]) (n := 1) C (zk_Park q101) St zq_186 zq_74 zq_184 zq_185 rfl ⟨by decide, by decide, by decide +kernel⟩ rfl ⟨Nat.le_of_ble_eq_true rfl, Nat.le_of_ble_eq_true rfl⟩ hl.1 (Nat.le_of_ble_eq_true rfl) ⟨Nat.le_of_ble_eq_true rfl, Nat.le_of_ble_eq_true rfl⟩ dX11_init_109 (fun u109 H locs St => ?_)
  have St : zk_St A D ((([(h0, .inr (11, [.null, .null, .null, .null, .null, .null, .int 0, .int 0]))] ++ X98) ++ [(q101, zk_ai cI 3840)]) ++ zk_gPark cI q104 (u109.getD 0 0) (u109.getD 1 0) (u109.getD 2 0) q101) s H locs := St
  refine W.widen (k := 17) (n := 4135) (by decide) (by decide) ?_
  refine lv_astore (lv' := [(4, .ref q104), (3, .ref q101), (2, .ref q16), (1, .ref q4), (0, .ref h0)]) C.1 C.2.1 dX11_init_112 hl (by decide) rfl (fun ls hl => ?_)
  obtain ⟨X114, hX114⟩ : ∃ X : va_W, (X98 ++ ([(q101, zk_ai cI 3840)] ++ zk_gPark cI q104 (u109.getD 0 0) (u109.getD 1 0) (u109.getD 2 0) q101)) = X := ⟨_, rfl⟩
  have St : zk_St A D ([(h0, .inr (11, [.null, .null, .null, .null, .null, .null, .int 0, .int 0]))] ++ X114) s H locs := by rw [← hX114]; simpa only [List.append_assoc] using St
  refine lv_aload_n C.1 C.2.1 dX11_init_114 rfl (lv_at hl 4 rfl) ?_
  refine lv_aload_n C.1 C.2.1 dX11_init_115 rfl (lv_at hl 3 rfl) ?_
  refine zk_putF (k := 0) (ty := .object "RoadForMood$Rows") C hname St 0 rfl rfl zw_11 tyX11_ok nmX11 (by decide) zq_341 rfl rfl (by decide +kernel) rfl rfl (Nat.le_of_ble_eq_true rfl) dX11_init_116 (fun H locs St => ?_)
  have St : zk_St A D ([(h0, .inr (11, [.ref q4, .null, .null, .null, .null, .null, .int 0, .int 0]))] ++ X114) s H locs := St
  refine lv_aload_n C.1 C.2.1 dX11_init_119 rfl (lv_at hl 4 rfl) ?_
  refine lv_aload_n C.1 C.2.1 dX11_init_120 rfl (lv_at hl 2 rfl) ?_
  refine zk_putF (k := 1) (ty := .array (.object "RoadForMood$Walker")) C hname St 0 rfl rfl zw_11 tyX11_ok nmX11 (by decide) zq_342 rfl rfl (by decide +kernel) rfl rfl (Nat.le_of_ble_eq_true rfl) dX11_init_121 (fun H locs St => ?_)
  have St : zk_St A D ([(h0, .inr (11, [.ref q4, .ref q16, .null, .null, .null, .null, .int 0, .int 0]))] ++ X114) s H locs := St
  refine lv_aload_n C.1 C.2.1 dX11_init_124 rfl (lv_at hl 4 rfl) ?_
  refine zk_newo (ci := 2) (fs := [.int 0, .int 0, .int 0, .null, .null, .null, .null, .int 0, .null, .int 0, .int 0]) C St rfl zw_2 tyX2_ok zq_182 zq_183 zq_74 (fun j hj => by rcases (show j = 0 ∨ j = 1 ∨ j = 2 ∨ j = 3 ∨ j = 4 ∨ j = 5 ∨ j = 6 ∨ j = 7 ∨ j = 8 ∨ j = 9 ∨ j = 10 by omega) with rfl | rfl | rfl | rfl | rfl | rfl | rfl | rfl | rfl | rfl | rfl <;> rfl) (Nat.le_of_ble_eq_true rfl) (Nat.le_of_ble_eq_true rfl) dX11_init_125 (fun q125 H St => ?_)
  have St : zk_St A D (([(h0, .inr (11, [.ref q4, .ref q16, .null, .null, .null, .null, .int 0, .int 0]))] ++ X114) ++ [(q125, .inr (2, [.int 0, .int 0, .int 0, .null, .null, .null, .null, .int 0, .null, .int 0, .int 0]))]) s H locs := St
  refine W.widen (k := 18) (n := 4146) (by decide) (by decide) ?_
  refine lv_dup C.1 C.2.1 dX11_init_128 rfl ?_
  refine lv_aload_n C.1 C.2.1 dX11_init_129 rfl (lv_at hl 1 rfl) ?_
  refine zk_call (ws := ([(h0, .inr (11, [.ref q4, .ref q16, .null, .null, .null, .null, .int 0, .int 0]))] ++ X114)) (q := q125) (As := [.ref q101]) (rest := [.ref q125, .ref h0]) (n := 1) C (zk_Park q101) St zq_186 zq_74 zq_184 zq_185 rfl ⟨by decide, by decide, by decide +kernel⟩ rfl ⟨Nat.le_of_ble_eq_true rfl, Nat.le_of_ble_eq_true rfl⟩ hl.1 (Nat.le_of_ble_eq_true rfl) ⟨Nat.le_of_ble_eq_true rfl, Nat.le_of_ble_eq_true rfl⟩ dX11_init_130 (fun u130 H locs St => ?_)
  have St : zk_St A D (([(h0, .inr (11, [.ref q4, .ref q16, .null, .null, .null, .null, .int 0, .int 0]))] ++ X114) ++ zk_gPark cI q125 (u130.getD 0 0) (u130.getD 1 0) (u130.getD 2 0) q101) s H locs := St
  refine W.widen (k := 21) (n := 4352) (by decide) (by decide) ?_
  obtain ⟨X133, hX133⟩ : ∃ X : va_W, (X114 ++ zk_gPark cI q125 (u130.getD 0 0) (u130.getD 1 0) (u130.getD 2 0) q101) = X := ⟨_, rfl⟩
  have St : zk_St A D ([(h0, .inr (11, [.ref q4, .ref q16, .null, .null, .null, .null, .int 0, .int 0]))] ++ X133) s H locs := by rw [← hX133]; simpa only [List.append_assoc] using St
  refine zk_putF (k := 2) (ty := .object "RoadForMood$Park") C hname St 0 rfl rfl zw_11 tyX11_ok nmX11 (by decide) zq_343 rfl rfl (by decide +kernel) rfl rfl (Nat.le_of_ble_eq_true rfl) dX11_init_133 (fun H locs St => ?_)
  have St : zk_St A D ([(h0, .inr (11, [.ref q4, .ref q16, .ref q125, .null, .null, .null, .int 0, .int 0]))] ++ X133) s H locs := St
  refine lv_aload_n C.1 C.2.1 dX11_init_136 rfl (lv_at hl 4 rfl) ?_
  refine zk_newo (ci := 10) (fs := [.null, .null, .null, .null, .null, .null, .int 0]) C St rfl zw_10 tyX10_ok zq_226 zq_227 zq_75 (fun j hj => by rcases (show j = 0 ∨ j = 1 ∨ j = 2 ∨ j = 3 ∨ j = 4 ∨ j = 5 ∨ j = 6 by omega) with rfl | rfl | rfl | rfl | rfl | rfl | rfl <;> rfl) (Nat.le_of_ble_eq_true rfl) (Nat.le_of_ble_eq_true rfl) dX11_init_137 (fun q137 H St => ?_)
  have St : zk_St A D (([(h0, .inr (11, [.ref q4, .ref q16, .ref q125, .null, .null, .null, .int 0, .int 0]))] ++ X133) ++ [(q137, .inr (10, [.null, .null, .null, .null, .null, .null, .int 0]))]) s H locs := St
  refine W.widen (k := 22) (n := 4359) (by decide) (by decide) ?_
  refine lv_dup C.1 C.2.1 dX11_init_140 rfl ?_
  refine lv_aload C.1 C.2.1 dX11_init_141 (lv_at hl 0 rfl) ?_
  refine lv_aload_n C.1 C.2.1 dX11_init_143 rfl (lv_at hl 2 rfl) ?_
  refine zk_call (ws := ([(h0, .inr (11, [.ref q4, .ref q16, .ref q125, .null, .null, .null, .int 0, .int 0]))] ++ X133)) (q := q137) (As := [.ref q104, .ref q16]) (rest := [.ref q137, .ref h0]) (n := 2) C (zk_Whole q104 q16) St zq_230 zq_75 zq_228 zq_229 rfl ⟨by decide, by decide, by decide +kernel⟩ rfl ⟨Nat.le_of_ble_eq_true rfl, Nat.le_of_ble_eq_true rfl⟩ hl.1 (Nat.le_of_ble_eq_true rfl) ⟨Nat.le_of_ble_eq_true rfl, Nat.le_of_ble_eq_true rfl⟩ dX11_init_144 (fun u144 H locs St => ?_)
  rw [zk_gWhole_l] at St
  have St : zk_St A D (([(h0, .inr (11, [.ref q4, .ref q16, .ref q125, .null, .null, .null, .int 0, .int 0]))] ++ X133) ++ zk_gWhole cI q137 [u144.getD 0 0, u144.getD 1 0, u144.getD 2 0, u144.getD 3 0, u144.getD 4 0, u144.getD 5 0, u144.getD 6 0, u144.getD 7 0, u144.getD 8 0, u144.getD 9 0, u144.getD 10 0, u144.getD 11 0, u144.getD 12 0, u144.getD 13 0, u144.getD 14 0, u144.getD 15 0, u144.getD 16 0, u144.getD 17 0, u144.getD 18 0, u144.getD 19 0, u144.getD 20 0, u144.getD 21 0, u144.getD 22 0, u144.getD 23 0, u144.getD 24 0, u144.getD 25 0] q104 q16) s H locs := St
  refine W.widen (k := 48) (n := 4829) (by decide) (by decide) ?_
  obtain ⟨X147, hX147⟩ : ∃ X : va_W, (X133 ++ zk_gWhole cI q137 [u144.getD 0 0, u144.getD 1 0, u144.getD 2 0, u144.getD 3 0, u144.getD 4 0, u144.getD 5 0, u144.getD 6 0, u144.getD 7 0, u144.getD 8 0, u144.getD 9 0, u144.getD 10 0, u144.getD 11 0, u144.getD 12 0, u144.getD 13 0, u144.getD 14 0, u144.getD 15 0, u144.getD 16 0, u144.getD 17 0, u144.getD 18 0, u144.getD 19 0, u144.getD 20 0, u144.getD 21 0, u144.getD 22 0, u144.getD 23 0, u144.getD 24 0, u144.getD 25 0] q104 q16) = X := ⟨_, rfl⟩
  have St : zk_St A D ([(h0, .inr (11, [.ref q4, .ref q16, .ref q125, .null, .null, .null, .int 0, .int 0]))] ++ X147) s H locs := by rw [← hX147]; simpa only [List.append_assoc] using St
  refine zk_putF (k := 3) (ty := .object "RoadForMood$Whole") C hname St 0 rfl rfl zw_11 tyX11_ok nmX11 (by decide) zq_344 rfl rfl (by decide +kernel) rfl rfl (Nat.le_of_ble_eq_true rfl) dX11_init_147 (fun H locs St => ?_)
  have St : zk_St A D ([(h0, .inr (11, [.ref q4, .ref q16, .ref q125, .ref q137, .null, .null, .int 0, .int 0]))] ++ X147) s H locs := St
  refine lv_aload_n C.1 C.2.1 dX11_init_150 rfl (lv_at hl 4 rfl) ?_
  refine zk_newo (ci := 10) (fs := [.null, .null, .null, .null, .null, .null, .int 0]) C St rfl zw_10 tyX10_ok zq_226 zq_227 zq_75 (fun j hj => by rcases (show j = 0 ∨ j = 1 ∨ j = 2 ∨ j = 3 ∨ j = 4 ∨ j = 5 ∨ j = 6 by omega) with rfl | rfl | rfl | rfl | rfl | rfl | rfl <;> rfl) (Nat.le_of_ble_eq_true rfl) (Nat.le_of_ble_eq_true rfl) dX11_init_151 (fun q151 H St => ?_)
  have St : zk_St A D (([(h0, .inr (11, [.ref q4, .ref q16, .ref q125, .ref q137, .null, .null, .int 0, .int 0]))] ++ X147) ++ [(q151, .inr (10, [.null, .null, .null, .null, .null, .null, .int 0]))]) s H locs := St
  refine W.widen (k := 49) (n := 4836) (by decide) (by decide) ?_
  refine lv_dup C.1 C.2.1 dX11_init_154 rfl ?_
  refine zk_newo (ci := 2) (fs := [.int 0, .int 0, .int 0, .null, .null, .null, .null, .int 0, .null, .int 0, .int 0]) C St rfl zw_2 tyX2_ok zq_182 zq_183 zq_74 (fun j hj => by rcases (show j = 0 ∨ j = 1 ∨ j = 2 ∨ j = 3 ∨ j = 4 ∨ j = 5 ∨ j = 6 ∨ j = 7 ∨ j = 8 ∨ j = 9 ∨ j = 10 by omega) with rfl | rfl | rfl | rfl | rfl | rfl | rfl | rfl | rfl | rfl | rfl <;> rfl) (Nat.le_of_ble_eq_true rfl) (Nat.le_of_ble_eq_true rfl) dX11_init_155 (fun q155 H St => ?_)
  have St : zk_St A D ((([(h0, .inr (11, [.ref q4, .ref q16, .ref q125, .ref q137, .null, .null, .int 0, .int 0]))] ++ X147) ++ [(q151, .inr (10, [.null, .null, .null, .null, .null, .null, .int 0]))]) ++ [(q155, .inr (2, [.int 0, .int 0, .int 0, .null, .null, .null, .null, .int 0, .null, .int 0, .int 0]))]) s H locs := St
  refine W.widen (k := 50) (n := 4847) (by decide) (by decide) ?_
  refine lv_dup C.1 C.2.1 dX11_init_158 rfl ?_
  refine lv_aload_n C.1 C.2.1 dX11_init_159 rfl (lv_at hl 1 rfl) ?_
  refine zk_call (ws := (([(h0, .inr (11, [.ref q4, .ref q16, .ref q125, .ref q137, .null, .null, .int 0, .int 0]))] ++ X147) ++ [(q151, .inr (10, [.null, .null, .null, .null, .null, .null, .int 0]))])) (q := q155) (As := [.ref q101]) (rest := [.ref q155, .ref q151, .ref q151, .ref h0]) (n := 1) C (zk_Park q101) St zq_186 zq_74 zq_184 zq_185 rfl ⟨by decide, by decide, by decide +kernel⟩ rfl ⟨Nat.le_of_ble_eq_true rfl, Nat.le_of_ble_eq_true rfl⟩ hl.1 (Nat.le_of_ble_eq_true rfl) ⟨Nat.le_of_ble_eq_true rfl, Nat.le_of_ble_eq_true rfl⟩ dX11_init_160 (fun u160 H locs St => ?_)
  have St : zk_St A D ((([(h0, .inr (11, [.ref q4, .ref q16, .ref q125, .ref q137, .null, .null, .int 0, .int 0]))] ++ X147) ++ [(q151, .inr (10, [.null, .null, .null, .null, .null, .null, .int 0]))]) ++ zk_gPark cI q155 (u160.getD 0 0) (u160.getD 1 0) (u160.getD 2 0) q101) s H locs := St
  refine W.widen (k := 53) (n := 5053) (by decide) (by decide) ?_
  refine lv_aload_n C.1 C.2.1 dX11_init_163 rfl (lv_at hl 2 rfl) ?_
  have St := zk_perm St (ws' := ((([(h0, .inr (11, [.ref q4, .ref q16, .ref q125, .ref q137, .null, .null, .int 0, .int 0]))] ++ X147) ++ zk_gPark cI q155 (u160.getD 0 0) (u160.getD 1 0) (u160.getD 2 0) q101) ++ [(q151, .inr (10, [.null, .null, .null, .null, .null, .null, .int 0]))])) (zk_swap _ _ _)
  refine zk_call (ws := (([(h0, .inr (11, [.ref q4, .ref q16, .ref q125, .ref q137, .null, .null, .int 0, .int 0]))] ++ X147) ++ zk_gPark cI q155 (u160.getD 0 0) (u160.getD 1 0) (u160.getD 2 0) q101)) (q := q151) (As := [.ref q155, .ref q16]) (rest := [.ref q151, .ref h0]) (n := 2) C (zk_Whole q155 q16) St zq_230 zq_75 zq_228 zq_229 rfl ⟨by decide, by decide, by decide +kernel⟩ rfl ⟨Nat.le_of_ble_eq_true rfl, Nat.le_of_ble_eq_true rfl⟩ hl.1 (Nat.le_of_ble_eq_true rfl) ⟨Nat.le_of_ble_eq_true rfl, Nat.le_of_ble_eq_true rfl⟩ dX11_init_164 (fun u164 H locs St => ?_)
  rw [zk_gWhole_l] at St
  have St : zk_St A D ((([(h0, .inr (11, [.ref q4, .ref q16, .ref q125, .ref q137, .null, .null, .int 0, .int 0]))] ++ X147) ++ zk_gPark cI q155 (u160.getD 0 0) (u160.getD 1 0) (u160.getD 2 0) q101) ++ zk_gWhole cI q151 [u164.getD 0 0, u164.getD 1 0, u164.getD 2 0, u164.getD 3 0, u164.getD 4 0, u164.getD 5 0, u164.getD 6 0, u164.getD 7 0, u164.getD 8 0, u164.getD 9 0, u164.getD 10 0, u164.getD 11 0, u164.getD 12 0, u164.getD 13 0, u164.getD 14 0, u164.getD 15 0, u164.getD 16 0, u164.getD 17 0, u164.getD 18 0, u164.getD 19 0, u164.getD 20 0, u164.getD 21 0, u164.getD 22 0, u164.getD 23 0, u164.getD 24 0, u164.getD 25 0] q155 q16) s H locs := St
  refine W.widen (k := 79) (n := 5523) (by decide) (by decide) ?_
  obtain ⟨X167, hX167⟩ : ∃ X : va_W, (X147 ++ (zk_gPark cI q155 (u160.getD 0 0) (u160.getD 1 0) (u160.getD 2 0) q101 ++ zk_gWhole cI q151 [u164.getD 0 0, u164.getD 1 0, u164.getD 2 0, u164.getD 3 0, u164.getD 4 0, u164.getD 5 0, u164.getD 6 0, u164.getD 7 0, u164.getD 8 0, u164.getD 9 0, u164.getD 10 0, u164.getD 11 0, u164.getD 12 0, u164.getD 13 0, u164.getD 14 0, u164.getD 15 0, u164.getD 16 0, u164.getD 17 0, u164.getD 18 0, u164.getD 19 0, u164.getD 20 0, u164.getD 21 0, u164.getD 22 0, u164.getD 23 0, u164.getD 24 0, u164.getD 25 0] q155 q16)) = X := ⟨_, rfl⟩
  have St : zk_St A D ([(h0, .inr (11, [.ref q4, .ref q16, .ref q125, .ref q137, .null, .null, .int 0, .int 0]))] ++ X167) s H locs := by rw [← hX167]; simpa only [List.append_assoc] using St
  refine zk_putF (k := 4) (ty := .object "RoadForMood$Whole") C hname St 0 rfl rfl zw_11 tyX11_ok nmX11 (by decide) zq_345 rfl rfl (by decide +kernel) rfl rfl (Nat.le_of_ble_eq_true rfl) dX11_init_167 (fun H locs St => ?_)
  have St : zk_St A D ([(h0, .inr (11, [.ref q4, .ref q16, .ref q125, .ref q137, .ref q151, .null, .int 0, .int 0]))] ++ X167) s H locs := St
  refine lv_aload_n C.1 C.2.1 dX11_init_170 rfl (lv_at hl 4 rfl) ?_
  refine zk_newo (ci := 4) (fs := [.null, .null, .null, .null, .null, .null, .null, .int 0, .int 0, .int 0, .int 0, .null, .null, .int 0, .null, .null, .int 0, .int 0]) C St rfl zw_4 tyX4_ok zq_338 zq_235 zq_76 (fun j hj => by rcases (show j = 0 ∨ j = 1 ∨ j = 2 ∨ j = 3 ∨ j = 4 ∨ j = 5 ∨ j = 6 ∨ j = 7 ∨ j = 8 ∨ j = 9 ∨ j = 10 ∨ j = 11 ∨ j = 12 ∨ j = 13 ∨ j = 14 ∨ j = 15 ∨ j = 16 ∨ j = 17 by omega) with rfl | rfl | rfl | rfl | rfl | rfl | rfl | rfl | rfl | rfl | rfl | rfl | rfl | rfl | rfl | rfl | rfl | rfl <;> rfl) (Nat.le_of_ble_eq_true rfl) (Nat.le_of_ble_eq_true rfl) dX11_init_171 (fun q171 H St => ?_)
  have St : zk_St A D (([(h0, .inr (11, [.ref q4, .ref q16, .ref q125, .ref q137, .ref q151, .null, .int 0, .int 0]))] ++ X167) ++ [(q171, .inr (4, [.null, .null, .null, .null, .null, .null, .null, .int 0, .int 0, .int 0, .int 0, .null, .null, .int 0, .null, .null, .int 0, .int 0]))]) s H locs := St
  refine W.widen (k := 80) (n := 5541) (by decide) (by decide) ?_
  refine lv_dup C.1 C.2.1 dX11_init_174 rfl ?_
  refine lv_aload C.1 C.2.1 dX11_init_175 (lv_at hl 0 rfl) ?_
  refine lv_aload_n C.1 C.2.1 dX11_init_177 rfl (lv_at hl 2 rfl) ?_
  refine lv_ldc (v := (2147483647)) C.1 C.2.1 C.2.2.2.1 (C.2.2.2.2.1 _ zq_339) dX11_init_178 ?_
  refine zk_call (ws := ([(h0, .inr (11, [.ref q4, .ref q16, .ref q125, .ref q137, .ref q151, .null, .int 0, .int 0]))] ++ X167)) (q := q171) (As := [.ref q104, .ref q16, .int (2147483647)]) (rest := [.ref q171, .ref h0]) (n := 3) C (zk_Ring q104 q16 2147483647) St zq_238 zq_76 zq_340 zq_237 rfl ⟨by decide, by decide, by decide +kernel⟩ rfl ⟨Nat.le_of_ble_eq_true rfl, Nat.le_of_ble_eq_true rfl⟩ hl.1 (Nat.le_of_ble_eq_true rfl) ⟨Nat.le_of_ble_eq_true rfl, Nat.le_of_ble_eq_true rfl⟩ dX11_init_180 (fun u180 H locs St => ?_)
  rw [zk_gRing_l] at St
  have St : zk_St A D (([(h0, .inr (11, [.ref q4, .ref q16, .ref q125, .ref q137, .ref q151, .null, .int 0, .int 0]))] ++ X167) ++ zk_gRing cI q171 [u180.getD 0 0, u180.getD 1 0, u180.getD 2 0, u180.getD 3 0, u180.getD 4 0, u180.getD 5 0, u180.getD 6 0, u180.getD 7 0, u180.getD 8 0] q104 q16 2147483647) s H locs := St
  refine W.widen (k := 89) (n := 5611) (by decide) (by decide) ?_
  obtain ⟨X183, hX183⟩ : ∃ X : va_W, (X167 ++ zk_gRing cI q171 [u180.getD 0 0, u180.getD 1 0, u180.getD 2 0, u180.getD 3 0, u180.getD 4 0, u180.getD 5 0, u180.getD 6 0, u180.getD 7 0, u180.getD 8 0] q104 q16 2147483647) = X := ⟨_, rfl⟩
  have St : zk_St A D ([(h0, .inr (11, [.ref q4, .ref q16, .ref q125, .ref q137, .ref q151, .null, .int 0, .int 0]))] ++ X183) s H locs := by rw [← hX183]; simpa only [List.append_assoc] using St
  refine zk_putF (k := 5) (ty := .object "RoadForMood$Ring") C hname St 0 rfl rfl zw_11 tyX11_ok nmX11 (by decide) zq_346 rfl rfl (by decide +kernel) rfl rfl (Nat.le_of_ble_eq_true rfl) dX11_init_183 (fun H locs St => ?_)
  have St : zk_St A D ([(h0, .inr (11, [.ref q4, .ref q16, .ref q125, .ref q137, .ref q151, .ref q171, .int 0, .int 0]))] ++ X183) s H locs := St
  obtain ⟨a, ha⟩ : ∃ a : List Nat, [q4, u10.getD 0 0, u10.getD 1 0, u10.getD 2 0, q16, q22, q33, q44, q55, q66, q77, q89, q101, q104, u109.getD 0 0, u109.getD 1 0, u109.getD 2 0, q125, u130.getD 0 0, u130.getD 1 0, u130.getD 2 0, q137, u144.getD 0 0, u144.getD 1 0, u144.getD 2 0, u144.getD 3 0, u144.getD 4 0, u144.getD 5 0, u144.getD 6 0, u144.getD 7 0, u144.getD 8 0, u144.getD 9 0, u144.getD 10 0, u144.getD 11 0, u144.getD 12 0, u144.getD 13 0, u144.getD 14 0, u144.getD 15 0, u144.getD 16 0, u144.getD 17 0, u144.getD 18 0, u144.getD 19 0, u144.getD 20 0, u144.getD 21 0, u144.getD 22 0, u144.getD 23 0, u144.getD 24 0, u144.getD 25 0, q155, u160.getD 0 0, u160.getD 1 0, u160.getD 2 0, q151, u164.getD 0 0, u164.getD 1 0, u164.getD 2 0, u164.getD 3 0, u164.getD 4 0, u164.getD 5 0, u164.getD 6 0, u164.getD 7 0, u164.getD 8 0, u164.getD 9 0, u164.getD 10 0, u164.getD 11 0, u164.getD 12 0, u164.getD 13 0, u164.getD 14 0, u164.getD 15 0, u164.getD 16 0, u164.getD 17 0, u164.getD 18 0, u164.getD 19 0, u164.getD 20 0, u164.getD 21 0, u164.getD 22 0, u164.getD 23 0, u164.getD 24 0, u164.getD 25 0, q171, u180.getD 0 0, u180.getD 1 0, u180.getD 2 0, u180.getD 3 0, u180.getD 4 0, u180.getD 5 0, u180.getD 6 0, u180.getD 7 0, u180.getD 8 0] = a := ⟨_, rfl⟩
  have e0 : a.getD 0 0 = q4 := by rw [← ha]; rfl
  have e1 : a.getD 1 0 = u10.getD 0 0 := by rw [← ha]; rfl
  have e2 : a.getD 2 0 = u10.getD 1 0 := by rw [← ha]; rfl
  have e3 : a.getD 3 0 = u10.getD 2 0 := by rw [← ha]; rfl
  have e4 : a.getD 4 0 = q16 := by rw [← ha]; rfl
  have e5 : a.getD 5 0 = q22 := by rw [← ha]; rfl
  have e6 : a.getD 6 0 = q33 := by rw [← ha]; rfl
  have e7 : a.getD 7 0 = q44 := by rw [← ha]; rfl
  have e8 : a.getD 8 0 = q55 := by rw [← ha]; rfl
  have e9 : a.getD 9 0 = q66 := by rw [← ha]; rfl
  have e10 : a.getD 10 0 = q77 := by rw [← ha]; rfl
  have e11 : a.getD 11 0 = q89 := by rw [← ha]; rfl
  have e12 : a.getD 12 0 = q101 := by rw [← ha]; rfl
  have e13 : a.getD 13 0 = q104 := by rw [← ha]; rfl
  have e14 : a.getD 14 0 = u109.getD 0 0 := by rw [← ha]; rfl
  have e15 : a.getD 15 0 = u109.getD 1 0 := by rw [← ha]; rfl
  have e16 : a.getD 16 0 = u109.getD 2 0 := by rw [← ha]; rfl
  have e17 : a.getD 17 0 = q125 := by rw [← ha]; rfl
  have e18 : a.getD 18 0 = u130.getD 0 0 := by rw [← ha]; rfl
  have e19 : a.getD 19 0 = u130.getD 1 0 := by rw [← ha]; rfl
  have e20 : a.getD 20 0 = u130.getD 2 0 := by rw [← ha]; rfl
  have e21 : a.getD 21 0 = q137 := by rw [← ha]; rfl
  have e22 : a.getD 22 0 = u144.getD 0 0 := by rw [← ha]; rfl
  have e23 : a.getD 23 0 = u144.getD 1 0 := by rw [← ha]; rfl
  have e24 : a.getD 24 0 = u144.getD 2 0 := by rw [← ha]; rfl
  have e25 : a.getD 25 0 = u144.getD 3 0 := by rw [← ha]; rfl
  have e26 : a.getD 26 0 = u144.getD 4 0 := by rw [← ha]; rfl
  have e27 : a.getD 27 0 = u144.getD 5 0 := by rw [← ha]; rfl
  have e28 : a.getD 28 0 = u144.getD 6 0 := by rw [← ha]; rfl
  have e29 : a.getD 29 0 = u144.getD 7 0 := by rw [← ha]; rfl
  have e30 : a.getD 30 0 = u144.getD 8 0 := by rw [← ha]; rfl
  have e31 : a.getD 31 0 = u144.getD 9 0 := by rw [← ha]; rfl
  have e32 : a.getD 32 0 = u144.getD 10 0 := by rw [← ha]; rfl
  have e33 : a.getD 33 0 = u144.getD 11 0 := by rw [← ha]; rfl
  have e34 : a.getD 34 0 = u144.getD 12 0 := by rw [← ha]; rfl
  have e35 : a.getD 35 0 = u144.getD 13 0 := by rw [← ha]; rfl
  have e36 : a.getD 36 0 = u144.getD 14 0 := by rw [← ha]; rfl
  have e37 : a.getD 37 0 = u144.getD 15 0 := by rw [← ha]; rfl
  have e38 : a.getD 38 0 = u144.getD 16 0 := by rw [← ha]; rfl
  have e39 : a.getD 39 0 = u144.getD 17 0 := by rw [← ha]; rfl
  have e40 : a.getD 40 0 = u144.getD 18 0 := by rw [← ha]; rfl
  have e41 : a.getD 41 0 = u144.getD 19 0 := by rw [← ha]; rfl
  have e42 : a.getD 42 0 = u144.getD 20 0 := by rw [← ha]; rfl
  have e43 : a.getD 43 0 = u144.getD 21 0 := by rw [← ha]; rfl
  have e44 : a.getD 44 0 = u144.getD 22 0 := by rw [← ha]; rfl
  have e45 : a.getD 45 0 = u144.getD 23 0 := by rw [← ha]; rfl
  have e46 : a.getD 46 0 = u144.getD 24 0 := by rw [← ha]; rfl
  have e47 : a.getD 47 0 = u144.getD 25 0 := by rw [← ha]; rfl
  have e48 : a.getD 48 0 = q155 := by rw [← ha]; rfl
  have e49 : a.getD 49 0 = u160.getD 0 0 := by rw [← ha]; rfl
  have e50 : a.getD 50 0 = u160.getD 1 0 := by rw [← ha]; rfl
  have e51 : a.getD 51 0 = u160.getD 2 0 := by rw [← ha]; rfl
  have e52 : a.getD 52 0 = q151 := by rw [← ha]; rfl
  have e53 : a.getD 53 0 = u164.getD 0 0 := by rw [← ha]; rfl
  have e54 : a.getD 54 0 = u164.getD 1 0 := by rw [← ha]; rfl
  have e55 : a.getD 55 0 = u164.getD 2 0 := by rw [← ha]; rfl
  have e56 : a.getD 56 0 = u164.getD 3 0 := by rw [← ha]; rfl
  have e57 : a.getD 57 0 = u164.getD 4 0 := by rw [← ha]; rfl
  have e58 : a.getD 58 0 = u164.getD 5 0 := by rw [← ha]; rfl
  have e59 : a.getD 59 0 = u164.getD 6 0 := by rw [← ha]; rfl
  have e60 : a.getD 60 0 = u164.getD 7 0 := by rw [← ha]; rfl
  have e61 : a.getD 61 0 = u164.getD 8 0 := by rw [← ha]; rfl
  have e62 : a.getD 62 0 = u164.getD 9 0 := by rw [← ha]; rfl
  have e63 : a.getD 63 0 = u164.getD 10 0 := by rw [← ha]; rfl
  have e64 : a.getD 64 0 = u164.getD 11 0 := by rw [← ha]; rfl
  have e65 : a.getD 65 0 = u164.getD 12 0 := by rw [← ha]; rfl
  have e66 : a.getD 66 0 = u164.getD 13 0 := by rw [← ha]; rfl
  have e67 : a.getD 67 0 = u164.getD 14 0 := by rw [← ha]; rfl
  have e68 : a.getD 68 0 = u164.getD 15 0 := by rw [← ha]; rfl
  have e69 : a.getD 69 0 = u164.getD 16 0 := by rw [← ha]; rfl
  have e70 : a.getD 70 0 = u164.getD 17 0 := by rw [← ha]; rfl
  have e71 : a.getD 71 0 = u164.getD 18 0 := by rw [← ha]; rfl
  have e72 : a.getD 72 0 = u164.getD 19 0 := by rw [← ha]; rfl
  have e73 : a.getD 73 0 = u164.getD 20 0 := by rw [← ha]; rfl
  have e74 : a.getD 74 0 = u164.getD 21 0 := by rw [← ha]; rfl
  have e75 : a.getD 75 0 = u164.getD 22 0 := by rw [← ha]; rfl
  have e76 : a.getD 76 0 = u164.getD 23 0 := by rw [← ha]; rfl
  have e77 : a.getD 77 0 = u164.getD 24 0 := by rw [← ha]; rfl
  have e78 : a.getD 78 0 = u164.getD 25 0 := by rw [← ha]; rfl
  have e79 : a.getD 79 0 = q171 := by rw [← ha]; rfl
  have e80 : a.getD 80 0 = u180.getD 0 0 := by rw [← ha]; rfl
  have e81 : a.getD 81 0 = u180.getD 1 0 := by rw [← ha]; rfl
  have e82 : a.getD 82 0 = u180.getD 2 0 := by rw [← ha]; rfl
  have e83 : a.getD 83 0 = u180.getD 3 0 := by rw [← ha]; rfl
  have e84 : a.getD 84 0 = u180.getD 4 0 := by rw [← ha]; rfl
  have e85 : a.getD 85 0 = u180.getD 5 0 := by rw [← ha]; rfl
  have e86 : a.getD 86 0 = u180.getD 6 0 := by rw [← ha]; rfl
  have e87 : a.getD 87 0 = u180.getD 7 0 := by rw [← ha]; rfl
  have e88 : a.getD 88 0 = u180.getD 8 0 := by rw [← ha]; rfl
  refine fin a H locs 186 ls 89 5611 (Nat.le_of_ble_eq_true rfl) (Nat.le_of_ble_eq_true rfl) ?_ dX11_init_186
  show zk_St A D (zk_gClass cI cQ h0 a) s H locs
  unfold zk_gClass
  simp only [e0, e1, e2, e3, e4, e5, e6, e7, e8, e9, e10, e11, e12, e13, e14, e15, e16, e17, e18, e19, e20, e21, e22, e23, e24, e25, e26, e27, e28, e29, e30, e31, e32, e33, e34, e35, e36, e37, e38, e39, e40, e41, e42, e43, e44, e45, e46, e47, e48, e49, e50, e51, e52, e53, e54, e55, e56, e57, e58, e59, e60, e61, e62, e63, e64, e65, e66, e67, e68, e69, e70, e71, e72, e73, e74, e75, e76, e77, e78, e79, e80, e81, e82, e83, e84, e85, e86, e87, e88]
  rw [← hX183] at St
  rw [← hX167] at St
  rw [← hX147] at St
  rw [← hX133] at St
  rw [← hX114] at St
  rw [← hX98] at St
  simpa only [List.append_assoc] using St
set_option maxHeartbeats 4000000 in
set_option maxRecDepth 100000 in
theorem zk_Model : zk_MC yX12_init cX12_init 1 1 10 9674 D (zk_t cI cZ cQ) 12 [.int 0, .null, .null, .null, .int 0, .int 0, .int 0, .int 0, .int 0, .int 0, .null, .null, .null, .null, .int 0, .null, .null, .null, .int 0, .int 0, .int 0, .int 0] [] (fun h0 u => zk_gModel cI cZ h0 u) := zk_met (by decide +kernel) rfl (fun _ => Nat.le_of_ble_eq_true rfl) fun l p e s m args below meth c A h0 ls Q C hname St hl fin => by
  generalize hH : s.heap = H at St ⊢
  generalize hlo : ([] : List Loc) = locs at St ⊢
  have hl : lv_has ls 1 [(0, .ref h0)] := hl
  refine lv_aload_n C.1 C.2.1 dX12_init_0 rfl (lv_at hl 0 rfl) ?_
  refine zk_obj C zq_980 hl.1 (Nat.le_of_ble_eq_true rfl) ⟨Nat.le_of_ble_eq_true rfl, Nat.le_of_ble_eq_true rfl⟩ dX12_init_1 ?_
  refine lv_aload_n C.1 C.2.1 dX12_init_4 rfl (lv_at hl 0 rfl) ?_
  refine lv_sipush (v := (nI 933)) C.1 C.2.1 dX12_init_5 (by decide) ?_
  refine zk_newi (N := 933) C St rfl (by first | decide | omega) (by first | exact Nat.le_of_ble_eq_true rfl | (simp only [zk_rm]; omega)) (by first | exact Nat.le_of_ble_eq_true rfl | (simp only [zk_rm]; omega)) dX12_init_8 (fun q8 H St => ?_)
  have St : zk_St A D ([(h0, .inr (12, [.int 0, .null, .null, .null, .int 0, .int 0, .int 0, .int 0, .int 0, .int 0, .null, .null, .null, .null, .int 0, .null, .null, .null, .int 0, .int 0, .int 0, .int 0]))] ++ [(q8, zk_ai cI 933)]) s H locs := St
  refine W.widen (k := 1) (n := 933) (by first | decide | omega) (by first | decide | omega) ?_
  refine zk_putF (k := 1) (ty := .array .int) C hname St 0 rfl rfl zw_12 tyX12_ok nmX12 (by decide) zq_981 rfl rfl (by decide +kernel) rfl rfl (Nat.le_of_ble_eq_true rfl) dX12_init_10 (fun H locs St => ?_)
  have St : zk_St A D ([(h0, .inr (12, [.int 0, .ref q8, .null, .null, .int 0, .int 0, .int 0, .int 0, .int 0, .int 0, .null, .null, .null, .null, .int 0, .null, .null, .null, .int 0, .int 0, .int 0, .int 0]))] ++ [(q8, zk_ai cI 933)]) s H locs := St
  refine lv_aload_n C.1 C.2.1 dX12_init_13 rfl (lv_at hl 0 rfl) ?_
  refine lv_sipush (v := (nI 933)) C.1 C.2.1 dX12_init_14 (by decide) ?_
  refine zk_newi (N := 933) C St rfl (by first | decide | omega) (by first | exact Nat.le_of_ble_eq_true rfl | (simp only [zk_rm]; omega)) (by first | exact Nat.le_of_ble_eq_true rfl | (simp only [zk_rm]; omega)) dX12_init_17 (fun q17 H St => ?_)
  have St : zk_St A D (([(h0, .inr (12, [.int 0, .ref q8, .null, .null, .int 0, .int 0, .int 0, .int 0, .int 0, .int 0, .null, .null, .null, .null, .int 0, .null, .null, .null, .int 0, .int 0, .int 0, .int 0]))] ++ [(q8, zk_ai cI 933)]) ++ [(q17, zk_ai cI 933)]) s H locs := St
  refine W.widen (k := 2) (n := 1866) (by first | decide | omega) (by first | decide | omega) ?_
  refine zk_putF (k := 2) (ty := .array .int) C hname St 0 rfl rfl zw_12 tyX12_ok nmX12 (by decide) zq_982 rfl rfl (by decide +kernel) rfl rfl (Nat.le_of_ble_eq_true rfl) dX12_init_19 (fun H locs St => ?_)
  have St : zk_St A D (([(h0, .inr (12, [.int 0, .ref q8, .ref q17, .null, .int 0, .int 0, .int 0, .int 0, .int 0, .int 0, .null, .null, .null, .null, .int 0, .null, .null, .null, .int 0, .int 0, .int 0, .int 0]))] ++ [(q8, zk_ai cI 933)]) ++ [(q17, zk_ai cI 933)]) s H locs := St
  refine lv_aload_n C.1 C.2.1 dX12_init_22 rfl (lv_at hl 0 rfl) ?_
  refine lv_bipush (v := (nI 26)) C.1 C.2.1 dX12_init_23 (by decide) ?_
  refine zk_newi (N := 26) C St rfl (by first | decide | omega) (by first | exact Nat.le_of_ble_eq_true rfl | (simp only [zk_rm]; omega)) (by first | exact Nat.le_of_ble_eq_true rfl | (simp only [zk_rm]; omega)) dX12_init_25 (fun q25 H St => ?_)
  have St : zk_St A D ((([(h0, .inr (12, [.int 0, .ref q8, .ref q17, .null, .int 0, .int 0, .int 0, .int 0, .int 0, .int 0, .null, .null, .null, .null, .int 0, .null, .null, .null, .int 0, .int 0, .int 0, .int 0]))] ++ [(q8, zk_ai cI 933)]) ++ [(q17, zk_ai cI 933)]) ++ [(q25, zk_ai cI 26)]) s H locs := St
  refine W.widen (k := 3) (n := 1892) (by first | decide | omega) (by first | decide | omega) ?_
  refine zk_putF (k := 3) (ty := .array .int) C hname St 0 rfl rfl zw_12 tyX12_ok nmX12 (by decide) zq_983 rfl rfl (by decide +kernel) rfl rfl (Nat.le_of_ble_eq_true rfl) dX12_init_27 (fun H locs St => ?_)
  have St : zk_St A D ((([(h0, .inr (12, [.int 0, .ref q8, .ref q17, .ref q25, .int 0, .int 0, .int 0, .int 0, .int 0, .int 0, .null, .null, .null, .null, .int 0, .null, .null, .null, .int 0, .int 0, .int 0, .int 0]))] ++ [(q8, zk_ai cI 933)]) ++ [(q17, zk_ai cI 933)]) ++ [(q25, zk_ai cI 26)]) s H locs := St
  refine lv_aload_n C.1 C.2.1 dX12_init_30 rfl (lv_at hl 0 rfl) ?_
  refine lv_bipush (v := (nI 6)) C.1 C.2.1 dX12_init_31 (by decide) ?_
  refine zk_newi (N := 6) C St rfl (by first | decide | omega) (by first | exact Nat.le_of_ble_eq_true rfl | (simp only [zk_rm]; omega)) (by first | exact Nat.le_of_ble_eq_true rfl | (simp only [zk_rm]; omega)) dX12_init_33 (fun q33 H St => ?_)
  have St : zk_St A D (((([(h0, .inr (12, [.int 0, .ref q8, .ref q17, .ref q25, .int 0, .int 0, .int 0, .int 0, .int 0, .int 0, .null, .null, .null, .null, .int 0, .null, .null, .null, .int 0, .int 0, .int 0, .int 0]))] ++ [(q8, zk_ai cI 933)]) ++ [(q17, zk_ai cI 933)]) ++ [(q25, zk_ai cI 26)]) ++ [(q33, zk_ai cI 6)]) s H locs := St
  refine W.widen (k := 4) (n := 1898) (by first | decide | omega) (by first | decide | omega) ?_
  refine zk_putF (k := 10) (ty := .array .int) C hname St 0 rfl rfl zw_12 tyX12_ok nmX12 (by decide) zq_990 rfl rfl (by decide +kernel) rfl rfl (Nat.le_of_ble_eq_true rfl) dX12_init_35 (fun H locs St => ?_)
  have St : zk_St A D (((([(h0, .inr (12, [.int 0, .ref q8, .ref q17, .ref q25, .int 0, .int 0, .int 0, .int 0, .int 0, .int 0, .ref q33, .null, .null, .null, .int 0, .null, .null, .null, .int 0, .int 0, .int 0, .int 0]))] ++ [(q8, zk_ai cI 933)]) ++ [(q17, zk_ai cI 933)]) ++ [(q25, zk_ai cI 26)]) ++ [(q33, zk_ai cI 6)]) s H locs := St
  refine lv_aload_n C.1 C.2.1 dX12_init_38 rfl (lv_at hl 0 rfl) ?_
  refine lv_bipush (v := (nI 64)) C.1 C.2.1 dX12_init_39 (by decide) ?_
  refine zk_newz (N := 64) C St rfl (by first | decide | omega) (by first | exact Nat.le_of_ble_eq_true rfl | (simp only [zk_rm]; omega)) (by first | exact Nat.le_of_ble_eq_true rfl | (simp only [zk_rm]; omega)) dX12_init_41 (fun q41 H St => ?_)
  have St : zk_St A D ((((([(h0, .inr (12, [.int 0, .ref q8, .ref q17, .ref q25, .int 0, .int 0, .int 0, .int 0, .int 0, .int 0, .ref q33, .null, .null, .null, .int 0, .null, .null, .null, .int 0, .int 0, .int 0, .int 0]))] ++ [(q8, zk_ai cI 933)]) ++ [(q17, zk_ai cI 933)]) ++ [(q25, zk_ai cI 26)]) ++ [(q33, zk_ai cI 6)]) ++ [(q41, zk_ai cZ 64)]) s H locs := St
  refine W.widen (k := 5) (n := 1962) (by first | decide | omega) (by first | decide | omega) ?_
  refine zk_putF (k := 11) (ty := .array .boolean) C hname St 0 rfl rfl zw_12 tyX12_ok nmX12 (by decide) zq_991 rfl rfl (by decide +kernel) rfl rfl (Nat.le_of_ble_eq_true rfl) dX12_init_43 (fun H locs St => ?_)
  have St : zk_St A D ((((([(h0, .inr (12, [.int 0, .ref q8, .ref q17, .ref q25, .int 0, .int 0, .int 0, .int 0, .int 0, .int 0, .ref q33, .ref q41, .null, .null, .int 0, .null, .null, .null, .int 0, .int 0, .int 0, .int 0]))] ++ [(q8, zk_ai cI 933)]) ++ [(q17, zk_ai cI 933)]) ++ [(q25, zk_ai cI 26)]) ++ [(q33, zk_ai cI 6)]) ++ [(q41, zk_ai cZ 64)]) s H locs := St
  refine lv_aload_n C.1 C.2.1 dX12_init_46 rfl (lv_at hl 0 rfl) ?_
  refine lv_sipush (v := (nI 3840)) C.1 C.2.1 dX12_init_47 (by decide) ?_
  refine zk_newi (N := 3840) C St rfl (by first | decide | omega) (by first | exact Nat.le_of_ble_eq_true rfl | (simp only [zk_rm]; omega)) (by first | exact Nat.le_of_ble_eq_true rfl | (simp only [zk_rm]; omega)) dX12_init_50 (fun q50 H St => ?_)
  have St : zk_St A D (((((([(h0, .inr (12, [.int 0, .ref q8, .ref q17, .ref q25, .int 0, .int 0, .int 0, .int 0, .int 0, .int 0, .ref q33, .ref q41, .null, .null, .int 0, .null, .null, .null, .int 0, .int 0, .int 0, .int 0]))] ++ [(q8, zk_ai cI 933)]) ++ [(q17, zk_ai cI 933)]) ++ [(q25, zk_ai cI 26)]) ++ [(q33, zk_ai cI 6)]) ++ [(q41, zk_ai cZ 64)]) ++ [(q50, zk_ai cI 3840)]) s H locs := St
  refine W.widen (k := 6) (n := 5802) (by first | decide | omega) (by first | decide | omega) ?_
  refine zk_putF (k := 12) (ty := .array .int) C hname St 0 rfl rfl zw_12 tyX12_ok nmX12 (by decide) zq_992 rfl rfl (by decide +kernel) rfl rfl (Nat.le_of_ble_eq_true rfl) dX12_init_52 (fun H locs St => ?_)
  have St : zk_St A D (((((([(h0, .inr (12, [.int 0, .ref q8, .ref q17, .ref q25, .int 0, .int 0, .int 0, .int 0, .int 0, .int 0, .ref q33, .ref q41, .ref q50, .null, .int 0, .null, .null, .null, .int 0, .int 0, .int 0, .int 0]))] ++ [(q8, zk_ai cI 933)]) ++ [(q17, zk_ai cI 933)]) ++ [(q25, zk_ai cI 26)]) ++ [(q33, zk_ai cI 6)]) ++ [(q41, zk_ai cZ 64)]) ++ [(q50, zk_ai cI 3840)]) s H locs := St
  refine lv_aload_n C.1 C.2.1 dX12_init_55 rfl (lv_at hl 0 rfl) ?_
  refine lv_sipush (v := (nI 3840)) C.1 C.2.1 dX12_init_56 (by decide) ?_
  refine zk_newz (N := 3840) C St rfl (by first | decide | omega) (by first | exact Nat.le_of_ble_eq_true rfl | (simp only [zk_rm]; omega)) (by first | exact Nat.le_of_ble_eq_true rfl | (simp only [zk_rm]; omega)) dX12_init_59 (fun q59 H St => ?_)
  have St : zk_St A D ((((((([(h0, .inr (12, [.int 0, .ref q8, .ref q17, .ref q25, .int 0, .int 0, .int 0, .int 0, .int 0, .int 0, .ref q33, .ref q41, .ref q50, .null, .int 0, .null, .null, .null, .int 0, .int 0, .int 0, .int 0]))] ++ [(q8, zk_ai cI 933)]) ++ [(q17, zk_ai cI 933)]) ++ [(q25, zk_ai cI 26)]) ++ [(q33, zk_ai cI 6)]) ++ [(q41, zk_ai cZ 64)]) ++ [(q50, zk_ai cI 3840)]) ++ [(q59, zk_ai cZ 3840)]) s H locs := St
  refine W.widen (k := 7) (n := 9642) (by first | decide | omega) (by first | decide | omega) ?_
  refine zk_putF (k := 13) (ty := .array .boolean) C hname St 0 rfl rfl zw_12 tyX12_ok nmX12 (by decide) zq_993 rfl rfl (by decide +kernel) rfl rfl (Nat.le_of_ble_eq_true rfl) dX12_init_61 (fun H locs St => ?_)
  have St : zk_St A D ((((((([(h0, .inr (12, [.int 0, .ref q8, .ref q17, .ref q25, .int 0, .int 0, .int 0, .int 0, .int 0, .int 0, .ref q33, .ref q41, .ref q50, .ref q59, .int 0, .null, .null, .null, .int 0, .int 0, .int 0, .int 0]))] ++ [(q8, zk_ai cI 933)]) ++ [(q17, zk_ai cI 933)]) ++ [(q25, zk_ai cI 26)]) ++ [(q33, zk_ai cI 6)]) ++ [(q41, zk_ai cZ 64)]) ++ [(q50, zk_ai cI 3840)]) ++ [(q59, zk_ai cZ 3840)]) s H locs := St
  refine lv_aload_n C.1 C.2.1 dX12_init_64 rfl (lv_at hl 0 rfl) ?_
  refine lv_bipush (v := (nI 6)) C.1 C.2.1 dX12_init_65 (by decide) ?_
  refine zk_newi (N := 6) C St rfl (by first | decide | omega) (by first | exact Nat.le_of_ble_eq_true rfl | (simp only [zk_rm]; omega)) (by first | exact Nat.le_of_ble_eq_true rfl | (simp only [zk_rm]; omega)) dX12_init_67 (fun q67 H St => ?_)
  have St : zk_St A D (((((((([(h0, .inr (12, [.int 0, .ref q8, .ref q17, .ref q25, .int 0, .int 0, .int 0, .int 0, .int 0, .int 0, .ref q33, .ref q41, .ref q50, .ref q59, .int 0, .null, .null, .null, .int 0, .int 0, .int 0, .int 0]))] ++ [(q8, zk_ai cI 933)]) ++ [(q17, zk_ai cI 933)]) ++ [(q25, zk_ai cI 26)]) ++ [(q33, zk_ai cI 6)]) ++ [(q41, zk_ai cZ 64)]) ++ [(q50, zk_ai cI 3840)]) ++ [(q59, zk_ai cZ 3840)]) ++ [(q67, zk_ai cI 6)]) s H locs := St
  refine W.widen (k := 8) (n := 9648) (by first | decide | omega) (by first | decide | omega) ?_
  refine zk_putF (k := 15) (ty := .array .int) C hname St 0 rfl rfl zw_12 tyX12_ok nmX12 (by decide) zq_995 rfl rfl (by decide +kernel) rfl rfl (Nat.le_of_ble_eq_true rfl) dX12_init_69 (fun H locs St => ?_)
  have St : zk_St A D (((((((([(h0, .inr (12, [.int 0, .ref q8, .ref q17, .ref q25, .int 0, .int 0, .int 0, .int 0, .int 0, .int 0, .ref q33, .ref q41, .ref q50, .ref q59, .int 0, .ref q67, .null, .null, .int 0, .int 0, .int 0, .int 0]))] ++ [(q8, zk_ai cI 933)]) ++ [(q17, zk_ai cI 933)]) ++ [(q25, zk_ai cI 26)]) ++ [(q33, zk_ai cI 6)]) ++ [(q41, zk_ai cZ 64)]) ++ [(q50, zk_ai cI 3840)]) ++ [(q59, zk_ai cZ 3840)]) ++ [(q67, zk_ai cI 6)]) s H locs := St
  refine lv_aload_n C.1 C.2.1 dX12_init_72 rfl (lv_at hl 0 rfl) ?_
  refine lv_bipush (v := (nI 6)) C.1 C.2.1 dX12_init_73 (by decide) ?_
  refine zk_newi (N := 6) C St rfl (by first | decide | omega) (by first | exact Nat.le_of_ble_eq_true rfl | (simp only [zk_rm]; omega)) (by first | exact Nat.le_of_ble_eq_true rfl | (simp only [zk_rm]; omega)) dX12_init_75 (fun q75 H St => ?_)
  have St : zk_St A D ((((((((([(h0, .inr (12, [.int 0, .ref q8, .ref q17, .ref q25, .int 0, .int 0, .int 0, .int 0, .int 0, .int 0, .ref q33, .ref q41, .ref q50, .ref q59, .int 0, .ref q67, .null, .null, .int 0, .int 0, .int 0, .int 0]))] ++ [(q8, zk_ai cI 933)]) ++ [(q17, zk_ai cI 933)]) ++ [(q25, zk_ai cI 26)]) ++ [(q33, zk_ai cI 6)]) ++ [(q41, zk_ai cZ 64)]) ++ [(q50, zk_ai cI 3840)]) ++ [(q59, zk_ai cZ 3840)]) ++ [(q67, zk_ai cI 6)]) ++ [(q75, zk_ai cI 6)]) s H locs := St
  refine W.widen (k := 9) (n := 9654) (by first | decide | omega) (by first | decide | omega) ?_
  refine zk_putF (k := 16) (ty := .array .int) C hname St 0 rfl rfl zw_12 tyX12_ok nmX12 (by decide) zq_996 rfl rfl (by decide +kernel) rfl rfl (Nat.le_of_ble_eq_true rfl) dX12_init_77 (fun H locs St => ?_)
  have St : zk_St A D ((((((((([(h0, .inr (12, [.int 0, .ref q8, .ref q17, .ref q25, .int 0, .int 0, .int 0, .int 0, .int 0, .int 0, .ref q33, .ref q41, .ref q50, .ref q59, .int 0, .ref q67, .ref q75, .null, .int 0, .int 0, .int 0, .int 0]))] ++ [(q8, zk_ai cI 933)]) ++ [(q17, zk_ai cI 933)]) ++ [(q25, zk_ai cI 26)]) ++ [(q33, zk_ai cI 6)]) ++ [(q41, zk_ai cZ 64)]) ++ [(q50, zk_ai cI 3840)]) ++ [(q59, zk_ai cZ 3840)]) ++ [(q67, zk_ai cI 6)]) ++ [(q75, zk_ai cI 6)]) s H locs := St
  refine lv_aload_n C.1 C.2.1 dX12_init_80 rfl (lv_at hl 0 rfl) ?_
  refine lv_bipush (v := (nI 20)) C.1 C.2.1 dX12_init_81 (by decide) ?_
  refine zk_newi (N := 20) C St rfl (by first | decide | omega) (by first | exact Nat.le_of_ble_eq_true rfl | (simp only [zk_rm]; omega)) (by first | exact Nat.le_of_ble_eq_true rfl | (simp only [zk_rm]; omega)) dX12_init_83 (fun q83 H St => ?_)
  have St : zk_St A D (((((((((([(h0, .inr (12, [.int 0, .ref q8, .ref q17, .ref q25, .int 0, .int 0, .int 0, .int 0, .int 0, .int 0, .ref q33, .ref q41, .ref q50, .ref q59, .int 0, .ref q67, .ref q75, .null, .int 0, .int 0, .int 0, .int 0]))] ++ [(q8, zk_ai cI 933)]) ++ [(q17, zk_ai cI 933)]) ++ [(q25, zk_ai cI 26)]) ++ [(q33, zk_ai cI 6)]) ++ [(q41, zk_ai cZ 64)]) ++ [(q50, zk_ai cI 3840)]) ++ [(q59, zk_ai cZ 3840)]) ++ [(q67, zk_ai cI 6)]) ++ [(q75, zk_ai cI 6)]) ++ [(q83, zk_ai cI 20)]) s H locs := St
  refine W.widen (k := 10) (n := 9674) (by first | decide | omega) (by first | decide | omega) ?_
  refine zk_putF (k := 17) (ty := .array .int) C hname St 0 rfl rfl zw_12 tyX12_ok nmX12 (by decide) zq_997 rfl rfl (by decide +kernel) rfl rfl (Nat.le_of_ble_eq_true rfl) dX12_init_85 (fun H locs St => ?_)
  have St : zk_St A D (((((((((([(h0, .inr (12, [.int 0, .ref q8, .ref q17, .ref q25, .int 0, .int 0, .int 0, .int 0, .int 0, .int 0, .ref q33, .ref q41, .ref q50, .ref q59, .int 0, .ref q67, .ref q75, .ref q83, .int 0, .int 0, .int 0, .int 0]))] ++ [(q8, zk_ai cI 933)]) ++ [(q17, zk_ai cI 933)]) ++ [(q25, zk_ai cI 26)]) ++ [(q33, zk_ai cI 6)]) ++ [(q41, zk_ai cZ 64)]) ++ [(q50, zk_ai cI 3840)]) ++ [(q59, zk_ai cZ 3840)]) ++ [(q67, zk_ai cI 6)]) ++ [(q75, zk_ai cI 6)]) ++ [(q83, zk_ai cI 20)]) s H locs := St
  refine lv_aload_n C.1 C.2.1 dX12_init_88 rfl (lv_at hl 0 rfl) ?_
  refine va_get (D := D) (ci := 12) (v := .ref q8) (C := RX12) (T := TX12) (N := 22) C.1 C.2.1 C.2.2.2.2.1 zw_12 C.2.2.2.1 C.2.2.2.2.2.1 St.1 0 rfl rfl 1 (by decide) (C.2.2.2.2.1 _ zq_981) (fun _ h9 => h9) rfl dX12_init_89 ?_
  refine lv_bipush (v := (nI 32)) C.1 C.2.1 dX12_init_92 (by decide) ?_
  refine lv_iconst (v := (-1)) C.1 C.2.1 dX12_init_94 (by decide) ?_
  refine va_iast (i := nI 32) (x := -1) C.1 C.2.1 C.2.2.2.2.2.1 St.1 St.2.1 St.2.2 1 0 rfl rfl (fun q => by rcases q with q | q <;> revert q <;> decide) dX12_init_95 (fun H locs hP hD hS => ?_)
  rw [nI_clamp (by decide)] at hP hD
  have St : zk_St A D _ s H locs := ⟨hP, hD, hS⟩
  have St : zk_St A D (((((((((([(h0, .inr (12, [.int 0, .ref q8, .ref q17, .ref q25, .int 0, .int 0, .int 0, .int 0, .int 0, .int 0, .ref q33, .ref q41, .ref q50, .ref q59, .int 0, .ref q67, .ref q75, .ref q83, .int 0, .int 0, .int 0, .int 0]))] ++ [(q8, .inl (cI, 933, .inl (upd (fun _ => 0) 32 (-1))))]) ++ [(q17, zk_ai cI 933)]) ++ [(q25, zk_ai cI 26)]) ++ [(q33, zk_ai cI 6)]) ++ [(q41, zk_ai cZ 64)]) ++ [(q50, zk_ai cI 3840)]) ++ [(q59, zk_ai cZ 3840)]) ++ [(q67, zk_ai cI 6)]) ++ [(q75, zk_ai cI 6)]) ++ [(q83, zk_ai cI 20)]) s H locs := St
  exact fin [q8, q17, q25, q33, q41, q50, q59, q67, q75, q83] H locs 96 ls 10 9674 (by decide) (by decide) St dX12_init_96
end ZC
